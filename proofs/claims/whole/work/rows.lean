section
-- ===== PART A: goes FIRST, ahead of the names: the tables' words, and 'selects' of the private methods out of them =====
/-- a private method of a class that the tables say can be made, by its rows of tables_1 -/
def lw_okq (q : MethodName × Nat) : Prop := (q.1.cls ≠ "java/lang/invoke/MethodHandle" ∧ q.1.cls ≠ "java/lang/invoke/VarHandle") ∧ Cond.instantiable q.1.cls q.2 ∈ tables_1 ∧ Cond.privateMethod q.1 ∈ tables_1 ∧ Cond.instanceMethod q.1 ∈ tables_1
theorem lw_p0 : lw_okq (⟨"GreatMachineModel", "isRack", "(I)Z"⟩, 44) := ⟨⟨by decide +kernel, by decide +kernel⟩, List.mem_of_getElem? (i := 504) (by decide +kernel), List.mem_of_getElem? (i := 655) (by decide +kernel), List.mem_of_getElem? (i := 656) (by decide +kernel)⟩
theorem lw_p1 : lw_okq (⟨"GreatMachineModel", "leave", "(I)V"⟩, 44) := ⟨⟨by decide +kernel, by decide +kernel⟩, List.mem_of_getElem? (i := 504) (by decide +kernel), List.mem_of_getElem? (i := 663) (by decide +kernel), List.mem_of_getElem? (i := 664) (by decide +kernel)⟩
theorem lw_p2 : lw_okq (⟨"GreatMachineModel", "isJob", "(I)Z"⟩, 44) := ⟨⟨by decide +kernel, by decide +kernel⟩, List.mem_of_getElem? (i := 504) (by decide +kernel), List.mem_of_getElem? (i := 687) (by decide +kernel), List.mem_of_getElem? (i := 688) (by decide +kernel)⟩
theorem lw_p3 : lw_okq (⟨"GreatMachineModel", "room", "()I"⟩, 44) := ⟨⟨by decide +kernel, by decide +kernel⟩, List.mem_of_getElem? (i := 504) (by decide +kernel), List.mem_of_getElem? (i := 699) (by decide +kernel), List.mem_of_getElem? (i := 700) (by decide +kernel)⟩
theorem lw_p4 : lw_okq (⟨"GreatMachineModel", "takenNodes", "(I)I"⟩, 44) := ⟨⟨by decide +kernel, by decide +kernel⟩, List.mem_of_getElem? (i := 504) (by decide +kernel), List.mem_of_getElem? (i := 703) (by decide +kernel), List.mem_of_getElem? (i := 704) (by decide +kernel)⟩
theorem lw_p5 : lw_okq (⟨"GreatMachineModel", "runsAt", "(II)Z"⟩, 44) := ⟨⟨by decide +kernel, by decide +kernel⟩, List.mem_of_getElem? (i := 504) (by decide +kernel), List.mem_of_getElem? (i := 707) (by decide +kernel), List.mem_of_getElem? (i := 708) (by decide +kernel)⟩
theorem lw_p6 : lw_okq (⟨"GreatMachineModel", "tick", "()V"⟩, 44) := ⟨⟨by decide +kernel, by decide +kernel⟩, List.mem_of_getElem? (i := 504) (by decide +kernel), List.mem_of_getElem? (i := 719) (by decide +kernel), List.mem_of_getElem? (i := 720) (by decide +kernel)⟩
theorem lw_p7 : lw_okq (⟨"GreatMachineModel", "findQueue", "()V"⟩, 44) := ⟨⟨by decide +kernel, by decide +kernel⟩, List.mem_of_getElem? (i := 504) (by decide +kernel), List.mem_of_getElem? (i := 723) (by decide +kernel), List.mem_of_getElem? (i := 724) (by decide +kernel)⟩
theorem lw_p8 : lw_okq (⟨"GreatMachineModel", "isAhead", "(II)Z"⟩, 44) := ⟨⟨by decide +kernel, by decide +kernel⟩, List.mem_of_getElem? (i := 504) (by decide +kernel), List.mem_of_getElem? (i := 727) (by decide +kernel), List.mem_of_getElem? (i := 728) (by decide +kernel)⟩
theorem lw_p9 : lw_okq (⟨"GreatMachineModel", "findTaken", "()V"⟩, 44) := ⟨⟨by decide +kernel, by decide +kernel⟩, List.mem_of_getElem? (i := 504) (by decide +kernel), List.mem_of_getElem? (i := 731) (by decide +kernel), List.mem_of_getElem? (i := 732) (by decide +kernel)⟩
theorem lw_p10 : lw_okq (⟨"GreatMachineModel", "fits", "(IIZ)Z"⟩, 44) := ⟨⟨by decide +kernel, by decide +kernel⟩, List.mem_of_getElem? (i := 504) (by decide +kernel), List.mem_of_getElem? (i := 735) (by decide +kernel), List.mem_of_getElem? (i := 736) (by decide +kernel)⟩
theorem lw_p11 : lw_okq (⟨"GreatMachineModel", "leftOf", "(I)I"⟩, 44) := ⟨⟨by decide +kernel, by decide +kernel⟩, List.mem_of_getElem? (i := 504) (by decide +kernel), List.mem_of_getElem? (i := 739) (by decide +kernel), List.mem_of_getElem? (i := 740) (by decide +kernel)⟩
theorem lw_p12 : lw_okq (⟨"GreatMachineModel", "begin", "(I)V"⟩, 44) := ⟨⟨by decide +kernel, by decide +kernel⟩, List.mem_of_getElem? (i := 504) (by decide +kernel), List.mem_of_getElem? (i := 743) (by decide +kernel), List.mem_of_getElem? (i := 744) (by decide +kernel)⟩
theorem lw_p13 : lw_okq (⟨"GreatMachineModel", "freeOn", "(I)I"⟩, 44) := ⟨⟨by decide +kernel, by decide +kernel⟩, List.mem_of_getElem? (i := 504) (by decide +kernel), List.mem_of_getElem? (i := 747) (by decide +kernel), List.mem_of_getElem? (i := 748) (by decide +kernel)⟩
theorem lw_p14 : lw_okq (⟨"GreatMachineModel", "takenLicences", "(I)I"⟩, 44) := ⟨⟨by decide +kernel, by decide +kernel⟩, List.mem_of_getElem? (i := 504) (by decide +kernel), List.mem_of_getElem? (i := 775) (by decide +kernel), List.mem_of_getElem? (i := 776) (by decide +kernel)⟩
theorem lw_p15 : lw_okq (⟨"GreatMachineModel", "keep", "()V"⟩, 44) := ⟨⟨by decide +kernel, by decide +kernel⟩, List.mem_of_getElem? (i := 504) (by decide +kernel), List.mem_of_getElem? (i := 783) (by decide +kernel), List.mem_of_getElem? (i := 784) (by decide +kernel)⟩
def lw_privs_1 : List (MethodName × Nat) := [(⟨"GreatMachineModel", "isRack", "(I)Z"⟩, 44), (⟨"GreatMachineModel", "leave", "(I)V"⟩, 44), (⟨"GreatMachineModel", "isJob", "(I)Z"⟩, 44), (⟨"GreatMachineModel", "room", "()I"⟩, 44), (⟨"GreatMachineModel", "takenNodes", "(I)I"⟩, 44), (⟨"GreatMachineModel", "runsAt", "(II)Z"⟩, 44), (⟨"GreatMachineModel", "tick", "()V"⟩, 44), (⟨"GreatMachineModel", "findQueue", "()V"⟩, 44), (⟨"GreatMachineModel", "isAhead", "(II)Z"⟩, 44), (⟨"GreatMachineModel", "findTaken", "()V"⟩, 44), (⟨"GreatMachineModel", "fits", "(IIZ)Z"⟩, 44), (⟨"GreatMachineModel", "leftOf", "(I)I"⟩, 44), (⟨"GreatMachineModel", "begin", "(I)V"⟩, 44), (⟨"GreatMachineModel", "freeOn", "(I)I"⟩, 44), (⟨"GreatMachineModel", "takenLicences", "(I)I"⟩, 44), (⟨"GreatMachineModel", "keep", "()V"⟩, 44)]
theorem lw_r1 : ∀ q ∈ lw_privs_1, lw_okq q := List.forall_mem_cons.mpr ⟨lw_p0, List.forall_mem_cons.mpr ⟨lw_p1, List.forall_mem_cons.mpr ⟨lw_p2, List.forall_mem_cons.mpr ⟨lw_p3, List.forall_mem_cons.mpr ⟨lw_p4, List.forall_mem_cons.mpr ⟨lw_p5, List.forall_mem_cons.mpr ⟨lw_p6, List.forall_mem_cons.mpr ⟨lw_p7, List.forall_mem_cons.mpr ⟨lw_p8, List.forall_mem_cons.mpr ⟨lw_p9, List.forall_mem_cons.mpr ⟨lw_p10, List.forall_mem_cons.mpr ⟨lw_p11, List.forall_mem_cons.mpr ⟨lw_p12, List.forall_mem_cons.mpr ⟨lw_p13, List.forall_mem_cons.mpr ⟨lw_p14, List.forall_mem_cons.mpr ⟨lw_p15, fun _ h => absurd h List.not_mem_nil⟩⟩⟩⟩⟩⟩⟩⟩⟩⟩⟩⟩⟩⟩⟩⟩
theorem lw_p16 : lw_okq (⟨"GreatMachineModel", "putBack", "()V"⟩, 44) := ⟨⟨by decide +kernel, by decide +kernel⟩, List.mem_of_getElem? (i := 504) (by decide +kernel), List.mem_of_getElem? (i := 787) (by decide +kernel), List.mem_of_getElem? (i := 788) (by decide +kernel)⟩
def lw_privs_2 : List (MethodName × Nat) := [(⟨"GreatMachineModel", "putBack", "()V"⟩, 44)]
theorem lw_r2 : ∀ q ∈ lw_privs_2, lw_okq q := List.forall_mem_cons.mpr ⟨lw_p16, fun _ h => absurd h List.not_mem_nil⟩
def lw_privs : List (MethodName × Nat) := lw_privs_1 ++ (lw_privs_2)
def lw_tbl : List Cond := k2_sels lw_privs ++ tables_1
theorem lw_privs_ok : ∀ q ∈ lw_privs, lw_okq q := by
  show ∀ q ∈ lw_privs_1 ++ (lw_privs_2), lw_okq q
  exact List.forall_mem_append.mpr ⟨lw_r1, lw_r2⟩

def R_Ac : String := "GreatMachine$Account"
def T_Ac : u_T := fun k => match k with
  | 0 => ("GreatMachine$Account", "shares", "I", false)
  | _ => ("GreatMachine$Account", "use", "I", false)
def ty_Ac : Nat → FieldType := fun k => match k with
  | 0 => .int
  | _ => .int
theorem nm_Ac : ∀ a, a < 2 → ∀ b, b < 2 → a ≠ b → (T_Ac a).2.1 ≠ (T_Ac b).2.1 := by decide +kernel
theorem tok_Ac : ∀ k, k < 2 → parseFieldDescriptor (T_Ac k).2.2.1 = some (ty_Ac k) := by decide +kernel
theorem in_Ac : ∀ w ∈ u_ws R_Ac T_Ac 2, w ∈ lw_tbl := by decide +kernel
def R_Hd : String := "GreatMachine$Hold"
def T_Hd : u_T := fun k => match k with
  | 0 => ("GreatMachine$Hold", "nodes", "I", false)
  | 1 => ("GreatMachine$Hold", "licences", "I", false)
  | 2 => ("GreatMachine$Hold", "from", "I", false)
  | _ => ("GreatMachine$Hold", "to", "I", false)
def ty_Hd : Nat → FieldType := fun k => match k with
  | 0 => .int
  | 1 => .int
  | 2 => .int
  | _ => .int
theorem nm_Hd : ∀ a, a < 4 → ∀ b, b < 4 → a ≠ b → (T_Hd a).2.1 ≠ (T_Hd b).2.1 := by decide +kernel
theorem tok_Hd : ∀ k, k < 4 → parseFieldDescriptor (T_Hd k).2.2.1 = some (ty_Hd k) := by decide +kernel
theorem in_Hd : ∀ w ∈ u_ws R_Hd T_Hd 4, w ∈ lw_tbl := by decide +kernel
def R_Jb : String := "GreatMachine$Job"
def T_Jb : u_T := fun k => match k with
  | 0 => ("GreatMachine$Job", "account", "I", false)
  | 1 => ("GreatMachine$Job", "nodes", "I", false)
  | 2 => ("GreatMachine$Job", "licences", "I", false)
  | 3 => ("GreatMachine$Job", "limit", "I", false)
  | 4 => ("GreatMachine$Job", "truly", "I", false)
  | 5 => ("GreatMachine$Job", "save", "I", false)
  | 6 => ("GreatMachine$Job", "ahead", "I", false)
  | 7 => ("GreatMachine$Job", "state", "I", false)
  | 8 => ("GreatMachine$Job", "begun", "I", false)
  | 9 => ("GreatMachine$Job", "ended", "I", false)
  | 10 => ("GreatMachine$Job", "saved", "I", false)
  | 11 => ("GreatMachine$Job", "counted", "I", false)
  | 12 => ("GreatMachine$Job", "takesUntil", "I", false)
  | _ => ("GreatMachine$Job", "nodesOn", "[I", true)
def ty_Jb : Nat → FieldType := fun k => match k with
  | 0 => .int
  | 1 => .int
  | 2 => .int
  | 3 => .int
  | 4 => .int
  | 5 => .int
  | 6 => .int
  | 7 => .int
  | 8 => .int
  | 9 => .int
  | 10 => .int
  | 11 => .int
  | 12 => .int
  | _ => .array .int
theorem nm_Jb : ∀ a, a < 14 → ∀ b, b < 14 → a ≠ b → (T_Jb a).2.1 ≠ (T_Jb b).2.1 := by decide +kernel
theorem tok_Jb : ∀ k, k < 14 → parseFieldDescriptor (T_Jb k).2.2.1 = some (ty_Jb k) := by decide +kernel
theorem in_Jb : ∀ w ∈ u_ws R_Jb T_Jb 14, w ∈ lw_tbl := by decide +kernel
def R_Mc : String := "GreatMachine$Machine"
def T_Mc : u_T := fun k => match k with
  | 0 => ("GreatMachine$Machine", "racks", "[LGreatMachine$Rack;", true)
  | 1 => ("GreatMachine$Machine", "accounts", "[LGreatMachine$Account;", true)
  | 2 => ("GreatMachine$Machine", "jobs", "[LGreatMachine$Job;", true)
  | 3 => ("GreatMachine$Machine", "holds", "[LGreatMachine$Hold;", true)
  | 4 => ("GreatMachine$Machine", "rackCount", "I", false)
  | 5 => ("GreatMachine$Machine", "accountCount", "I", false)
  | 6 => ("GreatMachine$Machine", "jobCount", "I", false)
  | 7 => ("GreatMachine$Machine", "holdCount", "I", false)
  | 8 => ("GreatMachine$Machine", "now", "I", false)
  | 9 => ("GreatMachine$Machine", "halving", "I", false)
  | 10 => ("GreatMachine$Machine", "licencesInAll", "I", false)
  | 11 => ("GreatMachine$Machine", "room", "I", false)
  | 12 => ("GreatMachine$Machine", "blockedJob", "I", false)
  | 13 => ("GreatMachine$Machine", "keptFrom", "I", false)
  | 14 => ("GreatMachine$Machine", "queue", "[I", true)
  | _ => ("GreatMachine$Machine", "queueLength", "I", false)
def ty_Mc : Nat → FieldType := fun k => match k with
  | 0 => .array (.object "GreatMachine$Rack")
  | 1 => .array (.object "GreatMachine$Account")
  | 2 => .array (.object "GreatMachine$Job")
  | 3 => .array (.object "GreatMachine$Hold")
  | 4 => .int
  | 5 => .int
  | 6 => .int
  | 7 => .int
  | 8 => .int
  | 9 => .int
  | 10 => .int
  | 11 => .int
  | 12 => .int
  | 13 => .int
  | 14 => .array .int
  | _ => .int
theorem nm_Mc : ∀ a, a < 16 → ∀ b, b < 16 → a ≠ b → (T_Mc a).2.1 ≠ (T_Mc b).2.1 := by decide +kernel
theorem tok_Mc : ∀ k, k < 16 → parseFieldDescriptor (T_Mc k).2.2.1 = some (ty_Mc k) := by decide +kernel
theorem in_Mc : ∀ w ∈ u_ws R_Mc T_Mc 16, w ∈ lw_tbl := by decide +kernel
def R_Rk : String := "GreatMachine$Rack"
def T_Rk : u_T := fun k => match k with
  | 0 => ("GreatMachine$Rack", "nodes", "I", false)
  | 1 => ("GreatMachine$Rack", "unused", "I", false)
  | _ => ("GreatMachine$Rack", "drained", "Z", false)
def ty_Rk : Nat → FieldType := fun k => match k with
  | 0 => .int
  | 1 => .int
  | _ => .boolean
theorem nm_Rk : ∀ a, a < 3 → ∀ b, b < 3 → a ≠ b → (T_Rk a).2.1 ≠ (T_Rk b).2.1 := by decide +kernel
theorem tok_Rk : ∀ k, k < 3 → parseFieldDescriptor (T_Rk k).2.2.1 = some (ty_Rk k) := by decide +kernel
theorem in_Rk : ∀ w ∈ u_ws R_Rk T_Rk 3, w ∈ lw_tbl := by decide +kernel
def R_Gm : String := "GreatMachine"
def T_Gm : u_T := fun k => match k with
  | 0 => ("GreatMachine", "machine", "LGreatMachine$Machine;", true)
  | _ => ("GreatMachine", "foresight", "LGreatMachine$Machine;", true)
def ty_Gm : Nat → FieldType := fun k => match k with
  | 0 => .object "GreatMachine$Machine"
  | _ => .object "GreatMachine$Machine"
theorem nm_Gm : ∀ a, a < 2 → ∀ b, b < 2 → a ≠ b → (T_Gm a).2.1 ≠ (T_Gm b).2.1 := by decide +kernel
theorem tok_Gm : ∀ k, k < 2 → parseFieldDescriptor (T_Gm k).2.2.1 = some (ty_Gm k) := by decide +kernel
theorem in_Gm : ∀ w ∈ u_ws R_Gm T_Gm 2, w ∈ lw_tbl := by decide +kernel
def R_Md : String := "GreatMachineModel"
def T_Md : u_T := fun k => match k with
  | 0 => ("GreatMachineModel", "time", "I", false)
  | 1 => ("GreatMachineModel", "half", "I", false)
  | 2 => ("GreatMachineModel", "allLicences", "I", false)
  | 3 => ("GreatMachineModel", "racks", "I", false)
  | 4 => ("GreatMachineModel", "nodes", "[I", true)
  | 5 => ("GreatMachineModel", "isDrained", "[Z", true)
  | 6 => ("GreatMachineModel", "accounts", "I", false)
  | 7 => ("GreatMachineModel", "shares", "[I", true)
  | 8 => ("GreatMachineModel", "used", "[I", true)
  | 9 => ("GreatMachineModel", "jobs", "I", false)
  | 10 => ("GreatMachineModel", "account", "[I", true)
  | 11 => ("GreatMachineModel", "wants", "[I", true)
  | 12 => ("GreatMachineModel", "needs", "[I", true)
  | 13 => ("GreatMachineModel", "limit", "[I", true)
  | 14 => ("GreatMachineModel", "truly", "[I", true)
  | 15 => ("GreatMachineModel", "save", "[I", true)
  | 16 => ("GreatMachineModel", "ahead", "[I", true)
  | 17 => ("GreatMachineModel", "state", "[I", true)
  | 18 => ("GreatMachineModel", "began", "[I", true)
  | 19 => ("GreatMachineModel", "ended", "[I", true)
  | 20 => ("GreatMachineModel", "saved", "[I", true)
  | 21 => ("GreatMachineModel", "ran", "[I", true)
  | 22 => ("GreatMachineModel", "leftAt", "[I", true)
  | 23 => ("GreatMachineModel", "on", "[I", true)
  | 24 => ("GreatMachineModel", "bookings", "I", false)
  | 25 => ("GreatMachineModel", "bookNodes", "[I", true)
  | 26 => ("GreatMachineModel", "bookFrom", "[I", true)
  | 27 => ("GreatMachineModel", "bookTo", "[I", true)
  | 28 => ("GreatMachineModel", "blocked", "I", false)
  | 29 => ("GreatMachineModel", "kept", "I", false)
  | 30 => ("GreatMachineModel", "keptLeft", "I", false)
  | 31 => ("GreatMachineModel", "isForeseen", "Z", false)
  | 32 => ("GreatMachineModel", "roomNow", "I", false)
  | 33 => ("GreatMachineModel", "nodesAt", "[I", true)
  | 34 => ("GreatMachineModel", "licencesAt", "[I", true)
  | 35 => ("GreatMachineModel", "queue", "[I", true)
  | 36 => ("GreatMachineModel", "queued", "I", false)
  | 37 => ("GreatMachineModel", "wasState", "[I", true)
  | 38 => ("GreatMachineModel", "wasBegan", "[I", true)
  | 39 => ("GreatMachineModel", "wasEnded", "[I", true)
  | 40 => ("GreatMachineModel", "wasRan", "[I", true)
  | 41 => ("GreatMachineModel", "wasLeft", "[I", true)
  | 42 => ("GreatMachineModel", "wasOn", "[I", true)
  | _ => ("GreatMachineModel", "wasUsed", "[I", true)
def ty_Md : Nat → FieldType := fun k => match k with
  | 0 => .int
  | 1 => .int
  | 2 => .int
  | 3 => .int
  | 4 => .array .int
  | 5 => .array .boolean
  | 6 => .int
  | 7 => .array .int
  | 8 => .array .int
  | 9 => .int
  | 10 => .array .int
  | 11 => .array .int
  | 12 => .array .int
  | 13 => .array .int
  | 14 => .array .int
  | 15 => .array .int
  | 16 => .array .int
  | 17 => .array .int
  | 18 => .array .int
  | 19 => .array .int
  | 20 => .array .int
  | 21 => .array .int
  | 22 => .array .int
  | 23 => .array .int
  | 24 => .int
  | 25 => .array .int
  | 26 => .array .int
  | 27 => .array .int
  | 28 => .int
  | 29 => .int
  | 30 => .int
  | 31 => .boolean
  | 32 => .int
  | 33 => .array .int
  | 34 => .array .int
  | 35 => .array .int
  | 36 => .int
  | 37 => .array .int
  | 38 => .array .int
  | 39 => .array .int
  | 40 => .array .int
  | 41 => .array .int
  | 42 => .array .int
  | _ => .array .int
theorem nm_Md : ∀ a, a < 44 → ∀ b, b < 44 → a ≠ b → (T_Md a).2.1 ≠ (T_Md b).2.1 := by decide +kernel
theorem tok_Md : ∀ k, k < 44 → parseFieldDescriptor (T_Md k).2.2.1 = some (ty_Md k) := by decide +kernel
theorem in_Md : ∀ w ∈ u_ws R_Md T_Md 44, w ∈ lw_tbl := by decide +kernel
abbrev classes : List vw_C := [(R_Ac, T_Ac, 2), (R_Hd, T_Hd, 4), (R_Jb, T_Jb, 14), (R_Mc, T_Mc, 16), (R_Rk, T_Rk, 3), (R_Gm, T_Gm, 2), (R_Md, T_Md, 44)]
def lw_w : List Cond := lw_tbl.filter goodWord
theorem mw_ {w : Cond} (h : w ∈ lw_tbl) (g : goodWord w = true) : w ∈ lw_w := List.mem_filter.mpr ⟨h, g⟩
theorem inw_Ac : ∀ w ∈ u_ws R_Ac T_Ac 2, w ∈ lw_w := fun w h => mw_ (in_Ac w h) (List.all_eq_true.mp (show (u_ws R_Ac T_Ac 2).all goodWord = true by decide +kernel) w h)
theorem inw_Hd : ∀ w ∈ u_ws R_Hd T_Hd 4, w ∈ lw_w := fun w h => mw_ (in_Hd w h) (List.all_eq_true.mp (show (u_ws R_Hd T_Hd 4).all goodWord = true by decide +kernel) w h)
theorem inw_Jb : ∀ w ∈ u_ws R_Jb T_Jb 14, w ∈ lw_w := fun w h => mw_ (in_Jb w h) (List.all_eq_true.mp (show (u_ws R_Jb T_Jb 14).all goodWord = true by decide +kernel) w h)
theorem inw_Mc : ∀ w ∈ u_ws R_Mc T_Mc 16, w ∈ lw_w := fun w h => mw_ (in_Mc w h) (List.all_eq_true.mp (show (u_ws R_Mc T_Mc 16).all goodWord = true by decide +kernel) w h)
theorem inw_Rk : ∀ w ∈ u_ws R_Rk T_Rk 3, w ∈ lw_w := fun w h => mw_ (in_Rk w h) (List.all_eq_true.mp (show (u_ws R_Rk T_Rk 3).all goodWord = true by decide +kernel) w h)
theorem inw_Gm : ∀ w ∈ u_ws R_Gm T_Gm 2, w ∈ lw_w := fun w h => mw_ (in_Gm w h) (List.all_eq_true.mp (show (u_ws R_Gm T_Gm 2).all goodWord = true by decide +kernel) w h)
theorem inw_Md : ∀ w ∈ u_ws R_Md T_Md 44, w ∈ lw_w := fun w h => mw_ (in_Md w h) (List.all_eq_true.mp (show (u_ws R_Md T_Md 44).all goodWord = true by decide +kernel) w h)
abbrev b_Gm_init : ByteArray := prog_1_method_1_code
def y_Gm_init : MethodName := ⟨"GreatMachine", "<init>", "()V"⟩
theorem mc_Gm_init : Cond.code y_Gm_init b_Gm_init 1 none ∈ lw_w := mw_ (List.mem_of_getElem? (i := 32) (by decide +kernel)) rfl
theorem mi_Gm_init : Cond.initialized "GreatMachine" ∈ lw_w := mw_ (List.mem_of_getElem? (i := 18) (by decide +kernel)) rfl
theorem mn_Gm_init : Cond.instanceMethod y_Gm_init ∈ lw_w := mw_ (List.mem_of_getElem? (i := 31) (by decide +kernel)) rfl
abbrev b_Mc_init : ByteArray := prog_5_method_1_code
def y_Mc_init : MethodName := ⟨"GreatMachine$Machine", "<init>", "()V"⟩
theorem mc_Mc_init : Cond.code y_Mc_init b_Mc_init 2 none ∈ lw_w := mw_ (List.mem_of_getElem? (i := 40) (by decide +kernel)) rfl
theorem mi_Mc_init : Cond.initialized "GreatMachine$Machine" ∈ lw_w := mw_ (List.mem_of_getElem? (i := 19) (by decide +kernel)) rfl
theorem mn_Mc_init : Cond.instanceMethod y_Mc_init ∈ lw_w := mw_ (List.mem_of_getElem? (i := 39) (by decide +kernel)) rfl
abbrev b_Rk_init : ByteArray := prog_6_method_1_code
def y_Rk_init : MethodName := ⟨"GreatMachine$Rack", "<init>", "()V"⟩
theorem mc_Rk_init : Cond.code y_Rk_init b_Rk_init 1 none ∈ lw_w := mw_ (List.mem_of_getElem? (i := 53) (by decide +kernel)) rfl
theorem mi_Rk_init : Cond.initialized "GreatMachine$Rack" ∈ lw_w := mw_ (List.mem_of_getElem? (i := 20) (by decide +kernel)) rfl
theorem mn_Rk_init : Cond.instanceMethod y_Rk_init ∈ lw_w := mw_ (List.mem_of_getElem? (i := 52) (by decide +kernel)) rfl
abbrev b_Ac_init : ByteArray := prog_2_method_1_code
def y_Ac_init : MethodName := ⟨"GreatMachine$Account", "<init>", "()V"⟩
theorem mc_Ac_init : Cond.code y_Ac_init b_Ac_init 1 none ∈ lw_w := mw_ (List.mem_of_getElem? (i := 74) (by decide +kernel)) rfl
theorem mi_Ac_init : Cond.initialized "GreatMachine$Account" ∈ lw_w := mw_ (List.mem_of_getElem? (i := 21) (by decide +kernel)) rfl
theorem mn_Ac_init : Cond.instanceMethod y_Ac_init ∈ lw_w := mw_ (List.mem_of_getElem? (i := 73) (by decide +kernel)) rfl
abbrev b_Jb_init : ByteArray := prog_4_method_1_code
def y_Jb_init : MethodName := ⟨"GreatMachine$Job", "<init>", "()V"⟩
theorem mc_Jb_init : Cond.code y_Jb_init b_Jb_init 1 none ∈ lw_w := mw_ (List.mem_of_getElem? (i := 89) (by decide +kernel)) rfl
theorem mi_Jb_init : Cond.initialized "GreatMachine$Job" ∈ lw_w := mw_ (List.mem_of_getElem? (i := 22) (by decide +kernel)) rfl
theorem mn_Jb_init : Cond.instanceMethod y_Jb_init ∈ lw_w := mw_ (List.mem_of_getElem? (i := 88) (by decide +kernel)) rfl
abbrev b_Hd_init : ByteArray := prog_3_method_1_code
def y_Hd_init : MethodName := ⟨"GreatMachine$Hold", "<init>", "()V"⟩
theorem mc_Hd_init : Cond.code y_Hd_init b_Hd_init 1 none ∈ lw_w := mw_ (List.mem_of_getElem? (i := 155) (by decide +kernel)) rfl
theorem mi_Hd_init : Cond.initialized "GreatMachine$Hold" ∈ lw_w := mw_ (List.mem_of_getElem? (i := 23) (by decide +kernel)) rfl
theorem mn_Hd_init : Cond.instanceMethod y_Hd_init ∈ lw_w := mw_ (List.mem_of_getElem? (i := 154) (by decide +kernel)) rfl
abbrev b_Gm_rack : ByteArray := prog_1_method_2_code
def y_Gm_rack : MethodName := ⟨"GreatMachine", "rack", "(I)I"⟩
theorem mc_Gm_rack : Cond.code y_Gm_rack b_Gm_rack 2 (some .int) ∈ lw_w := mw_ (List.mem_of_getElem? (i := 247) (by decide +kernel)) rfl
theorem mi_Gm_rack : Cond.initialized "GreatMachine" ∈ lw_w := mw_ (List.mem_of_getElem? (i := 18) (by decide +kernel)) rfl
theorem mn_Gm_rack : Cond.instanceMethod y_Gm_rack ∈ lw_w := mw_ (List.mem_of_getElem? (i := 245) (by decide +kernel)) rfl
theorem ms_Gm_rack : Cond.selects "GreatMachine" y_Gm_rack y_Gm_rack ∈ lw_w := mw_ (List.mem_of_getElem? (i := 246) (by decide +kernel)) rfl
abbrev b_Gm_isOutside : ByteArray := prog_1_method_22_code
def y_Gm_isOutside : MethodName := ⟨"GreatMachine", "isOutside", "(III)Z"⟩
theorem mc_Gm_isOutside : Cond.code y_Gm_isOutside b_Gm_isOutside 3 (some .boolean) ∈ lw_w := mw_ (List.mem_of_getElem? (i := 250) (by decide +kernel)) rfl
theorem mi_Gm_isOutside : Cond.initialized "GreatMachine" ∈ lw_w := mw_ (List.mem_of_getElem? (i := 18) (by decide +kernel)) rfl
theorem mt_Gm_isOutside : Cond.static y_Gm_isOutside ∈ lw_w := mw_ (List.mem_of_getElem? (i := 249) (by decide +kernel)) rfl
abbrev b_Mc_addRack : ByteArray := prog_5_method_6_code
def y_Mc_addRack : MethodName := ⟨"GreatMachine$Machine", "addRack", "(I)I"⟩
theorem mc_Mc_addRack : Cond.code y_Mc_addRack b_Mc_addRack 3 (some .int) ∈ lw_w := mw_ (List.mem_of_getElem? (i := 254) (by decide +kernel)) rfl
theorem mi_Mc_addRack : Cond.initialized "GreatMachine$Machine" ∈ lw_w := mw_ (List.mem_of_getElem? (i := 19) (by decide +kernel)) rfl
theorem mn_Mc_addRack : Cond.instanceMethod y_Mc_addRack ∈ lw_w := mw_ (List.mem_of_getElem? (i := 252) (by decide +kernel)) rfl
theorem ms_Mc_addRack : Cond.selects "GreatMachine$Machine" y_Mc_addRack y_Mc_addRack ∈ lw_w := mw_ (List.mem_of_getElem? (i := 253) (by decide +kernel)) rfl
abbrev b_Mc_recount : ByteArray := prog_5_method_10_code
def y_Mc_recount : MethodName := ⟨"GreatMachine$Machine", "recount", "()V"⟩
theorem mc_Mc_recount : Cond.code y_Mc_recount b_Mc_recount 2 none ∈ lw_w := mw_ (List.mem_of_getElem? (i := 258) (by decide +kernel)) rfl
theorem mi_Mc_recount : Cond.initialized "GreatMachine$Machine" ∈ lw_w := mw_ (List.mem_of_getElem? (i := 19) (by decide +kernel)) rfl
theorem mn_Mc_recount : Cond.instanceMethod y_Mc_recount ∈ lw_w := mw_ (List.mem_of_getElem? (i := 256) (by decide +kernel)) rfl
theorem ms_Mc_recount : Cond.selects "GreatMachine$Machine" y_Mc_recount y_Mc_recount ∈ lw_w := mw_ (List.mem_of_getElem? (i := 257) (by decide +kernel)) rfl
abbrev b_Mc_countedOf : ByteArray := prog_5_method_11_code
def y_Mc_countedOf : MethodName := ⟨"GreatMachine$Machine", "countedOf", "(LGreatMachine$Job;)I"⟩
theorem mc_Mc_countedOf : Cond.code y_Mc_countedOf b_Mc_countedOf 4 (some .int) ∈ lw_w := mw_ (List.mem_of_getElem? (i := 262) (by decide +kernel)) rfl
theorem mi_Mc_countedOf : Cond.initialized "GreatMachine$Machine" ∈ lw_w := mw_ (List.mem_of_getElem? (i := 19) (by decide +kernel)) rfl
theorem mn_Mc_countedOf : Cond.instanceMethod y_Mc_countedOf ∈ lw_w := mw_ (List.mem_of_getElem? (i := 260) (by decide +kernel)) rfl
theorem ms_Mc_countedOf : Cond.selects "GreatMachine$Machine" y_Mc_countedOf y_Mc_countedOf ∈ lw_w := mw_ (List.mem_of_getElem? (i := 261) (by decide +kernel)) rfl
abbrev b_Gm_drain : ByteArray := prog_1_method_3_code
def y_Gm_drain : MethodName := ⟨"GreatMachine", "drain", "(IZ)I"⟩
theorem mc_Gm_drain : Cond.code y_Gm_drain b_Gm_drain 4 (some .int) ∈ lw_w := mw_ (List.mem_of_getElem? (i := 266) (by decide +kernel)) rfl
theorem mi_Gm_drain : Cond.initialized "GreatMachine" ∈ lw_w := mw_ (List.mem_of_getElem? (i := 18) (by decide +kernel)) rfl
theorem mn_Gm_drain : Cond.instanceMethod y_Gm_drain ∈ lw_w := mw_ (List.mem_of_getElem? (i := 264) (by decide +kernel)) rfl
theorem ms_Gm_drain : Cond.selects "GreatMachine" y_Gm_drain y_Gm_drain ∈ lw_w := mw_ (List.mem_of_getElem? (i := 265) (by decide +kernel)) rfl
abbrev b_Mc_hasRack : ByteArray := prog_5_method_3_code
def y_Mc_hasRack : MethodName := ⟨"GreatMachine$Machine", "hasRack", "(I)Z"⟩
theorem mc_Mc_hasRack : Cond.code y_Mc_hasRack b_Mc_hasRack 2 (some .boolean) ∈ lw_w := mw_ (List.mem_of_getElem? (i := 270) (by decide +kernel)) rfl
theorem mi_Mc_hasRack : Cond.initialized "GreatMachine$Machine" ∈ lw_w := mw_ (List.mem_of_getElem? (i := 19) (by decide +kernel)) rfl
theorem mn_Mc_hasRack : Cond.instanceMethod y_Mc_hasRack ∈ lw_w := mw_ (List.mem_of_getElem? (i := 268) (by decide +kernel)) rfl
theorem ms_Mc_hasRack : Cond.selects "GreatMachine$Machine" y_Mc_hasRack y_Mc_hasRack ∈ lw_w := mw_ (List.mem_of_getElem? (i := 269) (by decide +kernel)) rfl
abbrev b_Gm_fail : ByteArray := prog_1_method_4_code
def y_Gm_fail : MethodName := ⟨"GreatMachine", "fail", "(I)I"⟩
theorem mc_Gm_fail : Cond.code y_Gm_fail b_Gm_fail 2 (some .int) ∈ lw_w := mw_ (List.mem_of_getElem? (i := 275) (by decide +kernel)) rfl
theorem mi_Gm_fail : Cond.initialized "GreatMachine" ∈ lw_w := mw_ (List.mem_of_getElem? (i := 18) (by decide +kernel)) rfl
theorem mn_Gm_fail : Cond.instanceMethod y_Gm_fail ∈ lw_w := mw_ (List.mem_of_getElem? (i := 273) (by decide +kernel)) rfl
theorem ms_Gm_fail : Cond.selects "GreatMachine" y_Gm_fail y_Gm_fail ∈ lw_w := mw_ (List.mem_of_getElem? (i := 274) (by decide +kernel)) rfl
abbrev b_Mc_breakRack : ByteArray := prog_5_method_12_code
def y_Mc_breakRack : MethodName := ⟨"GreatMachine$Machine", "breakRack", "(I)I"⟩
theorem mc_Mc_breakRack : Cond.code y_Mc_breakRack b_Mc_breakRack 5 (some .int) ∈ lw_w := mw_ (List.mem_of_getElem? (i := 279) (by decide +kernel)) rfl
theorem mi_Mc_breakRack : Cond.initialized "GreatMachine$Machine" ∈ lw_w := mw_ (List.mem_of_getElem? (i := 19) (by decide +kernel)) rfl
theorem mn_Mc_breakRack : Cond.instanceMethod y_Mc_breakRack ∈ lw_w := mw_ (List.mem_of_getElem? (i := 277) (by decide +kernel)) rfl
theorem ms_Mc_breakRack : Cond.selects "GreatMachine$Machine" y_Mc_breakRack y_Mc_breakRack ∈ lw_w := mw_ (List.mem_of_getElem? (i := 278) (by decide +kernel)) rfl
abbrev b_Jb_keepWhatWasSaved : ByteArray := prog_4_method_6_code
def y_Jb_keepWhatWasSaved : MethodName := ⟨"GreatMachine$Job", "keepWhatWasSaved", "(I)V"⟩
theorem mc_Jb_keepWhatWasSaved : Cond.code y_Jb_keepWhatWasSaved b_Jb_keepWhatWasSaved 3 none ∈ lw_w := mw_ (List.mem_of_getElem? (i := 283) (by decide +kernel)) rfl
theorem mi_Jb_keepWhatWasSaved : Cond.initialized "GreatMachine$Job" ∈ lw_w := mw_ (List.mem_of_getElem? (i := 22) (by decide +kernel)) rfl
theorem mn_Jb_keepWhatWasSaved : Cond.instanceMethod y_Jb_keepWhatWasSaved ∈ lw_w := mw_ (List.mem_of_getElem? (i := 281) (by decide +kernel)) rfl
theorem ms_Jb_keepWhatWasSaved : Cond.selects "GreatMachine$Job" y_Jb_keepWhatWasSaved y_Jb_keepWhatWasSaved ∈ lw_w := mw_ (List.mem_of_getElem? (i := 282) (by decide +kernel)) rfl
abbrev b_Jb_ranUntil : ByteArray := prog_4_method_5_code
def y_Jb_ranUntil : MethodName := ⟨"GreatMachine$Job", "ranUntil", "(I)I"⟩
theorem mc_Jb_ranUntil : Cond.code y_Jb_ranUntil b_Jb_ranUntil 2 (some .int) ∈ lw_w := mw_ (List.mem_of_getElem? (i := 287) (by decide +kernel)) rfl
theorem mi_Jb_ranUntil : Cond.initialized "GreatMachine$Job" ∈ lw_w := mw_ (List.mem_of_getElem? (i := 22) (by decide +kernel)) rfl
theorem mn_Jb_ranUntil : Cond.instanceMethod y_Jb_ranUntil ∈ lw_w := mw_ (List.mem_of_getElem? (i := 285) (by decide +kernel)) rfl
theorem ms_Jb_ranUntil : Cond.selects "GreatMachine$Job" y_Jb_ranUntil y_Jb_ranUntil ∈ lw_w := mw_ (List.mem_of_getElem? (i := 286) (by decide +kernel)) rfl
abbrev b_Mc_leaveNodes : ByteArray := prog_5_method_13_code
def y_Mc_leaveNodes : MethodName := ⟨"GreatMachine$Machine", "leaveNodes", "(LGreatMachine$Job;)V"⟩
theorem mc_Mc_leaveNodes : Cond.code y_Mc_leaveNodes b_Mc_leaveNodes 3 none ∈ lw_w := mw_ (List.mem_of_getElem? (i := 291) (by decide +kernel)) rfl
theorem mi_Mc_leaveNodes : Cond.initialized "GreatMachine$Machine" ∈ lw_w := mw_ (List.mem_of_getElem? (i := 19) (by decide +kernel)) rfl
theorem mn_Mc_leaveNodes : Cond.instanceMethod y_Mc_leaveNodes ∈ lw_w := mw_ (List.mem_of_getElem? (i := 289) (by decide +kernel)) rfl
theorem ms_Mc_leaveNodes : Cond.selects "GreatMachine$Machine" y_Mc_leaveNodes y_Mc_leaveNodes ∈ lw_w := mw_ (List.mem_of_getElem? (i := 290) (by decide +kernel)) rfl
abbrev b_Gm_licences : ByteArray := prog_1_method_5_code
def y_Gm_licences : MethodName := ⟨"GreatMachine", "licences", "(I)I"⟩
theorem mc_Gm_licences : Cond.code y_Gm_licences b_Gm_licences 3 (some .int) ∈ lw_w := mw_ (List.mem_of_getElem? (i := 295) (by decide +kernel)) rfl
theorem mi_Gm_licences : Cond.initialized "GreatMachine" ∈ lw_w := mw_ (List.mem_of_getElem? (i := 18) (by decide +kernel)) rfl
theorem mn_Gm_licences : Cond.instanceMethod y_Gm_licences ∈ lw_w := mw_ (List.mem_of_getElem? (i := 293) (by decide +kernel)) rfl
theorem ms_Gm_licences : Cond.selects "GreatMachine" y_Gm_licences y_Gm_licences ∈ lw_w := mw_ (List.mem_of_getElem? (i := 294) (by decide +kernel)) rfl
abbrev b_Gm_half : ByteArray := prog_1_method_6_code
def y_Gm_half : MethodName := ⟨"GreatMachine", "half", "(I)I"⟩
theorem mc_Gm_half : Cond.code y_Gm_half b_Gm_half 3 (some .int) ∈ lw_w := mw_ (List.mem_of_getElem? (i := 299) (by decide +kernel)) rfl
theorem mi_Gm_half : Cond.initialized "GreatMachine" ∈ lw_w := mw_ (List.mem_of_getElem? (i := 18) (by decide +kernel)) rfl
theorem mn_Gm_half : Cond.instanceMethod y_Gm_half ∈ lw_w := mw_ (List.mem_of_getElem? (i := 297) (by decide +kernel)) rfl
theorem ms_Gm_half : Cond.selects "GreatMachine" y_Gm_half y_Gm_half ∈ lw_w := mw_ (List.mem_of_getElem? (i := 298) (by decide +kernel)) rfl
abbrev b_Gm_account : ByteArray := prog_1_method_7_code
def y_Gm_account : MethodName := ⟨"GreatMachine", "account", "(I)I"⟩
theorem mc_Gm_account : Cond.code y_Gm_account b_Gm_account 2 (some .int) ∈ lw_w := mw_ (List.mem_of_getElem? (i := 303) (by decide +kernel)) rfl
theorem mi_Gm_account : Cond.initialized "GreatMachine" ∈ lw_w := mw_ (List.mem_of_getElem? (i := 18) (by decide +kernel)) rfl
theorem mn_Gm_account : Cond.instanceMethod y_Gm_account ∈ lw_w := mw_ (List.mem_of_getElem? (i := 301) (by decide +kernel)) rfl
theorem ms_Gm_account : Cond.selects "GreatMachine" y_Gm_account y_Gm_account ∈ lw_w := mw_ (List.mem_of_getElem? (i := 302) (by decide +kernel)) rfl
abbrev b_Mc_addAccount : ByteArray := prog_5_method_7_code
def y_Mc_addAccount : MethodName := ⟨"GreatMachine$Machine", "addAccount", "(I)I"⟩
theorem mc_Mc_addAccount : Cond.code y_Mc_addAccount b_Mc_addAccount 3 (some .int) ∈ lw_w := mw_ (List.mem_of_getElem? (i := 307) (by decide +kernel)) rfl
theorem mi_Mc_addAccount : Cond.initialized "GreatMachine$Machine" ∈ lw_w := mw_ (List.mem_of_getElem? (i := 19) (by decide +kernel)) rfl
theorem mn_Mc_addAccount : Cond.instanceMethod y_Mc_addAccount ∈ lw_w := mw_ (List.mem_of_getElem? (i := 305) (by decide +kernel)) rfl
theorem ms_Mc_addAccount : Cond.selects "GreatMachine$Machine" y_Mc_addAccount y_Mc_addAccount ∈ lw_w := mw_ (List.mem_of_getElem? (i := 306) (by decide +kernel)) rfl
abbrev b_Gm_job : ByteArray := prog_1_method_8_code
def y_Gm_job : MethodName := ⟨"GreatMachine", "job", "(IIIIII)I"⟩
theorem mc_Gm_job : Cond.code y_Gm_job b_Gm_job 8 (some .int) ∈ lw_w := mw_ (List.mem_of_getElem? (i := 311) (by decide +kernel)) rfl
theorem mi_Gm_job : Cond.initialized "GreatMachine" ∈ lw_w := mw_ (List.mem_of_getElem? (i := 18) (by decide +kernel)) rfl
theorem mn_Gm_job : Cond.instanceMethod y_Gm_job ∈ lw_w := mw_ (List.mem_of_getElem? (i := 309) (by decide +kernel)) rfl
theorem ms_Gm_job : Cond.selects "GreatMachine" y_Gm_job y_Gm_job ∈ lw_w := mw_ (List.mem_of_getElem? (i := 310) (by decide +kernel)) rfl
abbrev b_Mc_hasAccount : ByteArray := prog_5_method_4_code
def y_Mc_hasAccount : MethodName := ⟨"GreatMachine$Machine", "hasAccount", "(I)Z"⟩
theorem mc_Mc_hasAccount : Cond.code y_Mc_hasAccount b_Mc_hasAccount 2 (some .boolean) ∈ lw_w := mw_ (List.mem_of_getElem? (i := 315) (by decide +kernel)) rfl
theorem mi_Mc_hasAccount : Cond.initialized "GreatMachine$Machine" ∈ lw_w := mw_ (List.mem_of_getElem? (i := 19) (by decide +kernel)) rfl
theorem mn_Mc_hasAccount : Cond.instanceMethod y_Mc_hasAccount ∈ lw_w := mw_ (List.mem_of_getElem? (i := 313) (by decide +kernel)) rfl
theorem ms_Mc_hasAccount : Cond.selects "GreatMachine$Machine" y_Mc_hasAccount y_Mc_hasAccount ∈ lw_w := mw_ (List.mem_of_getElem? (i := 314) (by decide +kernel)) rfl
abbrev b_Jb_want : ByteArray := prog_4_method_2_code
def y_Jb_want : MethodName := ⟨"GreatMachine$Job", "want", "(IIIIII)V"⟩
theorem mc_Jb_want : Cond.code y_Jb_want b_Jb_want 7 none ∈ lw_w := mw_ (List.mem_of_getElem? (i := 319) (by decide +kernel)) rfl
theorem mi_Jb_want : Cond.initialized "GreatMachine$Job" ∈ lw_w := mw_ (List.mem_of_getElem? (i := 22) (by decide +kernel)) rfl
theorem mn_Jb_want : Cond.instanceMethod y_Jb_want ∈ lw_w := mw_ (List.mem_of_getElem? (i := 317) (by decide +kernel)) rfl
theorem ms_Jb_want : Cond.selects "GreatMachine$Job" y_Jb_want y_Jb_want ∈ lw_w := mw_ (List.mem_of_getElem? (i := 318) (by decide +kernel)) rfl
abbrev b_Gm_behind : ByteArray := prog_1_method_9_code
def y_Gm_behind : MethodName := ⟨"GreatMachine", "behind", "(II)I"⟩
theorem mc_Gm_behind : Cond.code y_Gm_behind b_Gm_behind 3 (some .int) ∈ lw_w := mw_ (List.mem_of_getElem? (i := 323) (by decide +kernel)) rfl
theorem mi_Gm_behind : Cond.initialized "GreatMachine" ∈ lw_w := mw_ (List.mem_of_getElem? (i := 18) (by decide +kernel)) rfl
theorem mn_Gm_behind : Cond.instanceMethod y_Gm_behind ∈ lw_w := mw_ (List.mem_of_getElem? (i := 321) (by decide +kernel)) rfl
theorem ms_Gm_behind : Cond.selects "GreatMachine" y_Gm_behind y_Gm_behind ∈ lw_w := mw_ (List.mem_of_getElem? (i := 322) (by decide +kernel)) rfl
abbrev b_Mc_hasJob : ByteArray := prog_5_method_5_code
def y_Mc_hasJob : MethodName := ⟨"GreatMachine$Machine", "hasJob", "(I)Z"⟩
theorem mc_Mc_hasJob : Cond.code y_Mc_hasJob b_Mc_hasJob 2 (some .boolean) ∈ lw_w := mw_ (List.mem_of_getElem? (i := 327) (by decide +kernel)) rfl
theorem mi_Mc_hasJob : Cond.initialized "GreatMachine$Machine" ∈ lw_w := mw_ (List.mem_of_getElem? (i := 19) (by decide +kernel)) rfl
theorem mn_Mc_hasJob : Cond.instanceMethod y_Mc_hasJob ∈ lw_w := mw_ (List.mem_of_getElem? (i := 325) (by decide +kernel)) rfl
theorem ms_Mc_hasJob : Cond.selects "GreatMachine$Machine" y_Mc_hasJob y_Mc_hasJob ∈ lw_w := mw_ (List.mem_of_getElem? (i := 326) (by decide +kernel)) rfl
abbrev b_Gm_cancel : ByteArray := prog_1_method_10_code
def y_Gm_cancel : MethodName := ⟨"GreatMachine", "cancel", "(I)I"⟩
theorem mc_Gm_cancel : Cond.code y_Gm_cancel b_Gm_cancel 3 (some .int) ∈ lw_w := mw_ (List.mem_of_getElem? (i := 331) (by decide +kernel)) rfl
theorem mi_Gm_cancel : Cond.initialized "GreatMachine" ∈ lw_w := mw_ (List.mem_of_getElem? (i := 18) (by decide +kernel)) rfl
theorem mn_Gm_cancel : Cond.instanceMethod y_Gm_cancel ∈ lw_w := mw_ (List.mem_of_getElem? (i := 329) (by decide +kernel)) rfl
theorem ms_Gm_cancel : Cond.selects "GreatMachine" y_Gm_cancel y_Gm_cancel ∈ lw_w := mw_ (List.mem_of_getElem? (i := 330) (by decide +kernel)) rfl
abbrev b_Gm_book : ByteArray := prog_1_method_11_code
def y_Gm_book : MethodName := ⟨"GreatMachine", "book", "(III)I"⟩
theorem mc_Gm_book : Cond.code y_Gm_book b_Gm_book 5 (some .int) ∈ lw_w := mw_ (List.mem_of_getElem? (i := 336) (by decide +kernel)) rfl
theorem mi_Gm_book : Cond.initialized "GreatMachine" ∈ lw_w := mw_ (List.mem_of_getElem? (i := 18) (by decide +kernel)) rfl
theorem mn_Gm_book : Cond.instanceMethod y_Gm_book ∈ lw_w := mw_ (List.mem_of_getElem? (i := 334) (by decide +kernel)) rfl
theorem ms_Gm_book : Cond.selects "GreatMachine" y_Gm_book y_Gm_book ∈ lw_w := mw_ (List.mem_of_getElem? (i := 335) (by decide +kernel)) rfl
abbrev b_Mc_nodesFit : ByteArray := prog_5_method_16_code
def y_Mc_nodesFit : MethodName := ⟨"GreatMachine$Machine", "nodesFit", "(III)Z"⟩
theorem mc_Mc_nodesFit : Cond.code y_Mc_nodesFit b_Mc_nodesFit 6 (some .boolean) ∈ lw_w := mw_ (List.mem_of_getElem? (i := 340) (by decide +kernel)) rfl
theorem mi_Mc_nodesFit : Cond.initialized "GreatMachine$Machine" ∈ lw_w := mw_ (List.mem_of_getElem? (i := 19) (by decide +kernel)) rfl
theorem mn_Mc_nodesFit : Cond.instanceMethod y_Mc_nodesFit ∈ lw_w := mw_ (List.mem_of_getElem? (i := 338) (by decide +kernel)) rfl
theorem ms_Mc_nodesFit : Cond.selects "GreatMachine$Machine" y_Mc_nodesFit y_Mc_nodesFit ∈ lw_w := mw_ (List.mem_of_getElem? (i := 339) (by decide +kernel)) rfl
abbrev b_Mc_nodesTaken : ByteArray := prog_5_method_14_code
def y_Mc_nodesTaken : MethodName := ⟨"GreatMachine$Machine", "nodesTaken", "(I)I"⟩
theorem mc_Mc_nodesTaken : Cond.code y_Mc_nodesTaken b_Mc_nodesTaken 4 (some .int) ∈ lw_w := mw_ (List.mem_of_getElem? (i := 344) (by decide +kernel)) rfl
theorem mi_Mc_nodesTaken : Cond.initialized "GreatMachine$Machine" ∈ lw_w := mw_ (List.mem_of_getElem? (i := 19) (by decide +kernel)) rfl
theorem mn_Mc_nodesTaken : Cond.instanceMethod y_Mc_nodesTaken ∈ lw_w := mw_ (List.mem_of_getElem? (i := 342) (by decide +kernel)) rfl
theorem ms_Mc_nodesTaken : Cond.selects "GreatMachine$Machine" y_Mc_nodesTaken y_Mc_nodesTaken ∈ lw_w := mw_ (List.mem_of_getElem? (i := 343) (by decide +kernel)) rfl
abbrev b_Hd_beginsWithin : ByteArray := prog_3_method_4_code
def y_Hd_beginsWithin : MethodName := ⟨"GreatMachine$Hold", "beginsWithin", "(II)Z"⟩
theorem mc_Hd_beginsWithin : Cond.code y_Hd_beginsWithin b_Hd_beginsWithin 3 (some .boolean) ∈ lw_w := mw_ (List.mem_of_getElem? (i := 348) (by decide +kernel)) rfl
theorem mi_Hd_beginsWithin : Cond.initialized "GreatMachine$Hold" ∈ lw_w := mw_ (List.mem_of_getElem? (i := 23) (by decide +kernel)) rfl
theorem mn_Hd_beginsWithin : Cond.instanceMethod y_Hd_beginsWithin ∈ lw_w := mw_ (List.mem_of_getElem? (i := 346) (by decide +kernel)) rfl
theorem ms_Hd_beginsWithin : Cond.selects "GreatMachine$Hold" y_Hd_beginsWithin y_Hd_beginsWithin ∈ lw_w := mw_ (List.mem_of_getElem? (i := 347) (by decide +kernel)) rfl
abbrev b_Hd_set : ByteArray := prog_3_method_2_code
def y_Hd_set : MethodName := ⟨"GreatMachine$Hold", "set", "(IIII)V"⟩
theorem mc_Hd_set : Cond.code y_Hd_set b_Hd_set 5 none ∈ lw_w := mw_ (List.mem_of_getElem? (i := 352) (by decide +kernel)) rfl
theorem mi_Hd_set : Cond.initialized "GreatMachine$Hold" ∈ lw_w := mw_ (List.mem_of_getElem? (i := 23) (by decide +kernel)) rfl
theorem mn_Hd_set : Cond.instanceMethod y_Hd_set ∈ lw_w := mw_ (List.mem_of_getElem? (i := 350) (by decide +kernel)) rfl
theorem ms_Hd_set : Cond.selects "GreatMachine$Hold" y_Hd_set y_Hd_set ∈ lw_w := mw_ (List.mem_of_getElem? (i := 351) (by decide +kernel)) rfl
abbrev b_Gm_unbook : ByteArray := prog_1_method_12_code
def y_Gm_unbook : MethodName := ⟨"GreatMachine", "unbook", "(I)I"⟩
theorem mc_Gm_unbook : Cond.code y_Gm_unbook b_Gm_unbook 2 (some .int) ∈ lw_w := mw_ (List.mem_of_getElem? (i := 356) (by decide +kernel)) rfl
theorem mi_Gm_unbook : Cond.initialized "GreatMachine" ∈ lw_w := mw_ (List.mem_of_getElem? (i := 18) (by decide +kernel)) rfl
theorem mn_Gm_unbook : Cond.instanceMethod y_Gm_unbook ∈ lw_w := mw_ (List.mem_of_getElem? (i := 354) (by decide +kernel)) rfl
theorem ms_Gm_unbook : Cond.selects "GreatMachine" y_Gm_unbook y_Gm_unbook ∈ lw_w := mw_ (List.mem_of_getElem? (i := 355) (by decide +kernel)) rfl
abbrev b_Mc_dropBooking : ByteArray := prog_5_method_8_code
def y_Mc_dropBooking : MethodName := ⟨"GreatMachine$Machine", "dropBooking", "(I)V"⟩
theorem mc_Mc_dropBooking : Cond.code y_Mc_dropBooking b_Mc_dropBooking 3 none ∈ lw_w := mw_ (List.mem_of_getElem? (i := 360) (by decide +kernel)) rfl
theorem mi_Mc_dropBooking : Cond.initialized "GreatMachine$Machine" ∈ lw_w := mw_ (List.mem_of_getElem? (i := 19) (by decide +kernel)) rfl
theorem mn_Mc_dropBooking : Cond.instanceMethod y_Mc_dropBooking ∈ lw_w := mw_ (List.mem_of_getElem? (i := 358) (by decide +kernel)) rfl
theorem ms_Mc_dropBooking : Cond.selects "GreatMachine$Machine" y_Mc_dropBooking y_Mc_dropBooking ∈ lw_w := mw_ (List.mem_of_getElem? (i := 359) (by decide +kernel)) rfl
abbrev b_Hd_become : ByteArray := prog_3_method_3_code
def y_Hd_become : MethodName := ⟨"GreatMachine$Hold", "become", "(LGreatMachine$Hold;)V"⟩
theorem mc_Hd_become : Cond.code y_Hd_become b_Hd_become 2 none ∈ lw_w := mw_ (List.mem_of_getElem? (i := 364) (by decide +kernel)) rfl
theorem mi_Hd_become : Cond.initialized "GreatMachine$Hold" ∈ lw_w := mw_ (List.mem_of_getElem? (i := 23) (by decide +kernel)) rfl
theorem mn_Hd_become : Cond.instanceMethod y_Hd_become ∈ lw_w := mw_ (List.mem_of_getElem? (i := 362) (by decide +kernel)) rfl
theorem ms_Hd_become : Cond.selects "GreatMachine$Hold" y_Hd_become y_Hd_become ∈ lw_w := mw_ (List.mem_of_getElem? (i := 363) (by decide +kernel)) rfl
abbrev b_Gm_ticks : ByteArray := prog_1_method_13_code
def y_Gm_ticks : MethodName := ⟨"GreatMachine", "ticks", "(I)I"⟩
theorem mc_Gm_ticks : Cond.code y_Gm_ticks b_Gm_ticks 3 (some .int) ∈ lw_w := mw_ (List.mem_of_getElem? (i := 369) (by decide +kernel)) rfl
theorem mi_Gm_ticks : Cond.initialized "GreatMachine" ∈ lw_w := mw_ (List.mem_of_getElem? (i := 18) (by decide +kernel)) rfl
theorem mn_Gm_ticks : Cond.instanceMethod y_Gm_ticks ∈ lw_w := mw_ (List.mem_of_getElem? (i := 367) (by decide +kernel)) rfl
theorem ms_Gm_ticks : Cond.selects "GreatMachine" y_Gm_ticks y_Gm_ticks ∈ lw_w := mw_ (List.mem_of_getElem? (i := 368) (by decide +kernel)) rfl
abbrev b_Mc_passTick : ByteArray := prog_5_method_19_code
def y_Mc_passTick : MethodName := ⟨"GreatMachine$Machine", "passTick", "(Z)V"⟩
theorem mc_Mc_passTick : Cond.code y_Mc_passTick b_Mc_passTick 2 none ∈ lw_w := mw_ (List.mem_of_getElem? (i := 373) (by decide +kernel)) rfl
theorem mi_Mc_passTick : Cond.initialized "GreatMachine$Machine" ∈ lw_w := mw_ (List.mem_of_getElem? (i := 19) (by decide +kernel)) rfl
theorem mn_Mc_passTick : Cond.instanceMethod y_Mc_passTick ∈ lw_w := mw_ (List.mem_of_getElem? (i := 371) (by decide +kernel)) rfl
theorem ms_Mc_passTick : Cond.selects "GreatMachine$Machine" y_Mc_passTick y_Mc_passTick ∈ lw_w := mw_ (List.mem_of_getElem? (i := 372) (by decide +kernel)) rfl
abbrev b_Mc_lineUp : ByteArray := prog_5_method_20_code
def y_Mc_lineUp : MethodName := ⟨"GreatMachine$Machine", "lineUp", "()V"⟩
theorem mc_Mc_lineUp : Cond.code y_Mc_lineUp b_Mc_lineUp 2 none ∈ lw_w := mw_ (List.mem_of_getElem? (i := 377) (by decide +kernel)) rfl
theorem mi_Mc_lineUp : Cond.initialized "GreatMachine$Machine" ∈ lw_w := mw_ (List.mem_of_getElem? (i := 19) (by decide +kernel)) rfl
theorem mn_Mc_lineUp : Cond.instanceMethod y_Mc_lineUp ∈ lw_w := mw_ (List.mem_of_getElem? (i := 375) (by decide +kernel)) rfl
theorem ms_Mc_lineUp : Cond.selects "GreatMachine$Machine" y_Mc_lineUp y_Mc_lineUp ∈ lw_w := mw_ (List.mem_of_getElem? (i := 376) (by decide +kernel)) rfl
abbrev b_Mc_mayBegin : ByteArray := prog_5_method_21_code
def y_Mc_mayBegin : MethodName := ⟨"GreatMachine$Machine", "mayBegin", "(LGreatMachine$Job;)Z"⟩
theorem mc_Mc_mayBegin : Cond.code y_Mc_mayBegin b_Mc_mayBegin 2 (some .boolean) ∈ lw_w := mw_ (List.mem_of_getElem? (i := 381) (by decide +kernel)) rfl
theorem mi_Mc_mayBegin : Cond.initialized "GreatMachine$Machine" ∈ lw_w := mw_ (List.mem_of_getElem? (i := 19) (by decide +kernel)) rfl
theorem mn_Mc_mayBegin : Cond.instanceMethod y_Mc_mayBegin ∈ lw_w := mw_ (List.mem_of_getElem? (i := 379) (by decide +kernel)) rfl
theorem ms_Mc_mayBegin : Cond.selects "GreatMachine$Machine" y_Mc_mayBegin y_Mc_mayBegin ∈ lw_w := mw_ (List.mem_of_getElem? (i := 380) (by decide +kernel)) rfl
abbrev b_Mc_putInQueue : ByteArray := prog_5_method_22_code
def y_Mc_putInQueue : MethodName := ⟨"GreatMachine$Machine", "putInQueue", "(I)V"⟩
theorem mc_Mc_putInQueue : Cond.code y_Mc_putInQueue b_Mc_putInQueue 4 none ∈ lw_w := mw_ (List.mem_of_getElem? (i := 386) (by decide +kernel)) rfl
theorem mi_Mc_putInQueue : Cond.initialized "GreatMachine$Machine" ∈ lw_w := mw_ (List.mem_of_getElem? (i := 19) (by decide +kernel)) rfl
theorem mn_Mc_putInQueue : Cond.instanceMethod y_Mc_putInQueue ∈ lw_w := mw_ (List.mem_of_getElem? (i := 384) (by decide +kernel)) rfl
theorem ms_Mc_putInQueue : Cond.selects "GreatMachine$Machine" y_Mc_putInQueue y_Mc_putInQueue ∈ lw_w := mw_ (List.mem_of_getElem? (i := 385) (by decide +kernel)) rfl
abbrev b_Ac_usedLessThan : ByteArray := prog_2_method_3_code
def y_Ac_usedLessThan : MethodName := ⟨"GreatMachine$Account", "usedLessThan", "(LGreatMachine$Account;)Z"⟩
theorem mc_Ac_usedLessThan : Cond.code y_Ac_usedLessThan b_Ac_usedLessThan 2 (some .boolean) ∈ lw_w := mw_ (List.mem_of_getElem? (i := 390) (by decide +kernel)) rfl
theorem mi_Ac_usedLessThan : Cond.initialized "GreatMachine$Account" ∈ lw_w := mw_ (List.mem_of_getElem? (i := 21) (by decide +kernel)) rfl
theorem mn_Ac_usedLessThan : Cond.instanceMethod y_Ac_usedLessThan ∈ lw_w := mw_ (List.mem_of_getElem? (i := 388) (by decide +kernel)) rfl
theorem ms_Ac_usedLessThan : Cond.selects "GreatMachine$Account" y_Ac_usedLessThan y_Ac_usedLessThan ∈ lw_w := mw_ (List.mem_of_getElem? (i := 389) (by decide +kernel)) rfl
abbrev b_Mc_serveQueue : ByteArray := prog_5_method_23_code
def y_Mc_serveQueue : MethodName := ⟨"GreatMachine$Machine", "serveQueue", "()V"⟩
theorem mc_Mc_serveQueue : Cond.code y_Mc_serveQueue b_Mc_serveQueue 4 none ∈ lw_w := mw_ (List.mem_of_getElem? (i := 394) (by decide +kernel)) rfl
theorem mi_Mc_serveQueue : Cond.initialized "GreatMachine$Machine" ∈ lw_w := mw_ (List.mem_of_getElem? (i := 19) (by decide +kernel)) rfl
theorem mn_Mc_serveQueue : Cond.instanceMethod y_Mc_serveQueue ∈ lw_w := mw_ (List.mem_of_getElem? (i := 392) (by decide +kernel)) rfl
theorem ms_Mc_serveQueue : Cond.selects "GreatMachine$Machine" y_Mc_serveQueue y_Mc_serveQueue ∈ lw_w := mw_ (List.mem_of_getElem? (i := 393) (by decide +kernel)) rfl
abbrev b_Mc_fits : ByteArray := prog_5_method_18_code
def y_Mc_fits : MethodName := ⟨"GreatMachine$Machine", "fits", "(LGreatMachine$Job;I)Z"⟩
theorem mc_Mc_fits : Cond.code y_Mc_fits b_Mc_fits 4 (some .boolean) ∈ lw_w := mw_ (List.mem_of_getElem? (i := 398) (by decide +kernel)) rfl
theorem mi_Mc_fits : Cond.initialized "GreatMachine$Machine" ∈ lw_w := mw_ (List.mem_of_getElem? (i := 19) (by decide +kernel)) rfl
theorem mn_Mc_fits : Cond.instanceMethod y_Mc_fits ∈ lw_w := mw_ (List.mem_of_getElem? (i := 396) (by decide +kernel)) rfl
theorem ms_Mc_fits : Cond.selects "GreatMachine$Machine" y_Mc_fits y_Mc_fits ∈ lw_w := mw_ (List.mem_of_getElem? (i := 397) (by decide +kernel)) rfl
abbrev b_Jb_left : ByteArray := prog_4_method_4_code
def y_Jb_left : MethodName := ⟨"GreatMachine$Job", "left", "()I"⟩
theorem mc_Jb_left : Cond.code y_Jb_left b_Jb_left 1 (some .int) ∈ lw_w := mw_ (List.mem_of_getElem? (i := 402) (by decide +kernel)) rfl
theorem mi_Jb_left : Cond.initialized "GreatMachine$Job" ∈ lw_w := mw_ (List.mem_of_getElem? (i := 22) (by decide +kernel)) rfl
theorem mn_Jb_left : Cond.instanceMethod y_Jb_left ∈ lw_w := mw_ (List.mem_of_getElem? (i := 400) (by decide +kernel)) rfl
theorem ms_Jb_left : Cond.selects "GreatMachine$Job" y_Jb_left y_Jb_left ∈ lw_w := mw_ (List.mem_of_getElem? (i := 401) (by decide +kernel)) rfl
abbrev b_Mc_licencesFit : ByteArray := prog_5_method_17_code
def y_Mc_licencesFit : MethodName := ⟨"GreatMachine$Machine", "licencesFit", "(III)Z"⟩
theorem mc_Mc_licencesFit : Cond.code y_Mc_licencesFit b_Mc_licencesFit 6 (some .boolean) ∈ lw_w := mw_ (List.mem_of_getElem? (i := 407) (by decide +kernel)) rfl
theorem mi_Mc_licencesFit : Cond.initialized "GreatMachine$Machine" ∈ lw_w := mw_ (List.mem_of_getElem? (i := 19) (by decide +kernel)) rfl
theorem mn_Mc_licencesFit : Cond.instanceMethod y_Mc_licencesFit ∈ lw_w := mw_ (List.mem_of_getElem? (i := 405) (by decide +kernel)) rfl
theorem ms_Mc_licencesFit : Cond.selects "GreatMachine$Machine" y_Mc_licencesFit y_Mc_licencesFit ∈ lw_w := mw_ (List.mem_of_getElem? (i := 406) (by decide +kernel)) rfl
abbrev b_Mc_licencesTaken : ByteArray := prog_5_method_15_code
def y_Mc_licencesTaken : MethodName := ⟨"GreatMachine$Machine", "licencesTaken", "(I)I"⟩
theorem mc_Mc_licencesTaken : Cond.code y_Mc_licencesTaken b_Mc_licencesTaken 4 (some .int) ∈ lw_w := mw_ (List.mem_of_getElem? (i := 411) (by decide +kernel)) rfl
theorem mi_Mc_licencesTaken : Cond.initialized "GreatMachine$Machine" ∈ lw_w := mw_ (List.mem_of_getElem? (i := 19) (by decide +kernel)) rfl
theorem mn_Mc_licencesTaken : Cond.instanceMethod y_Mc_licencesTaken ∈ lw_w := mw_ (List.mem_of_getElem? (i := 409) (by decide +kernel)) rfl
theorem ms_Mc_licencesTaken : Cond.selects "GreatMachine$Machine" y_Mc_licencesTaken y_Mc_licencesTaken ∈ lw_w := mw_ (List.mem_of_getElem? (i := 410) (by decide +kernel)) rfl
abbrev b_Mc_begin : ByteArray := prog_5_method_27_code
def y_Mc_begin : MethodName := ⟨"GreatMachine$Machine", "begin", "(LGreatMachine$Job;)V"⟩
theorem mc_Mc_begin : Cond.code y_Mc_begin b_Mc_begin 6 none ∈ lw_w := mw_ (List.mem_of_getElem? (i := 415) (by decide +kernel)) rfl
theorem mi_Mc_begin : Cond.initialized "GreatMachine$Machine" ∈ lw_w := mw_ (List.mem_of_getElem? (i := 19) (by decide +kernel)) rfl
theorem mn_Mc_begin : Cond.instanceMethod y_Mc_begin ∈ lw_w := mw_ (List.mem_of_getElem? (i := 413) (by decide +kernel)) rfl
theorem ms_Mc_begin : Cond.selects "GreatMachine$Machine" y_Mc_begin y_Mc_begin ∈ lw_w := mw_ (List.mem_of_getElem? (i := 414) (by decide +kernel)) rfl
abbrev b_Mc_fewestRacks : ByteArray := prog_5_method_28_code
def y_Mc_fewestRacks : MethodName := ⟨"GreatMachine$Machine", "fewestRacks", "(I)I"⟩
theorem mc_Mc_fewestRacks : Cond.code y_Mc_fewestRacks b_Mc_fewestRacks 5 (some .int) ∈ lw_w := mw_ (List.mem_of_getElem? (i := 419) (by decide +kernel)) rfl
theorem mi_Mc_fewestRacks : Cond.initialized "GreatMachine$Machine" ∈ lw_w := mw_ (List.mem_of_getElem? (i := 19) (by decide +kernel)) rfl
theorem mn_Mc_fewestRacks : Cond.instanceMethod y_Mc_fewestRacks ∈ lw_w := mw_ (List.mem_of_getElem? (i := 417) (by decide +kernel)) rfl
theorem ms_Mc_fewestRacks : Cond.selects "GreatMachine$Machine" y_Mc_fewestRacks y_Mc_fewestRacks ∈ lw_w := mw_ (List.mem_of_getElem? (i := 418) (by decide +kernel)) rfl
abbrev b_In_bitCount : ByteArray := prog_9_method_49_code
def y_In_bitCount : MethodName := ⟨"java/lang/Integer", "bitCount", "(I)I"⟩
theorem mc_In_bitCount : Cond.code y_In_bitCount b_In_bitCount 1 (some .int) ∈ lw_w := mw_ (List.mem_of_getElem? (i := 422) (by decide +kernel)) rfl
theorem mi_In_bitCount : Cond.initialized "java/lang/Integer" ∈ lw_w := mw_ (List.mem_of_getElem? (i := 25) (by decide +kernel)) rfl
theorem mt_In_bitCount : Cond.static y_In_bitCount ∈ lw_w := mw_ (List.mem_of_getElem? (i := 421) (by decide +kernel)) rfl
abbrev b_Mc_unusedOn : ByteArray := prog_5_method_29_code
def y_Mc_unusedOn : MethodName := ⟨"GreatMachine$Machine", "unusedOn", "(I)I"⟩
theorem mc_Mc_unusedOn : Cond.code y_Mc_unusedOn b_Mc_unusedOn 4 (some .int) ∈ lw_w := mw_ (List.mem_of_getElem? (i := 429) (by decide +kernel)) rfl
theorem mi_Mc_unusedOn : Cond.initialized "GreatMachine$Machine" ∈ lw_w := mw_ (List.mem_of_getElem? (i := 19) (by decide +kernel)) rfl
theorem mn_Mc_unusedOn : Cond.instanceMethod y_Mc_unusedOn ∈ lw_w := mw_ (List.mem_of_getElem? (i := 427) (by decide +kernel)) rfl
theorem ms_Mc_unusedOn : Cond.selects "GreatMachine$Machine" y_Mc_unusedOn y_Mc_unusedOn ∈ lw_w := mw_ (List.mem_of_getElem? (i := 428) (by decide +kernel)) rfl
abbrev b_Mc_firstFit : ByteArray := prog_5_method_24_code
def y_Mc_firstFit : MethodName := ⟨"GreatMachine$Machine", "firstFit", "(LGreatMachine$Job;)I"⟩
theorem mc_Mc_firstFit : Cond.code y_Mc_firstFit b_Mc_firstFit 4 (some .int) ∈ lw_w := mw_ (List.mem_of_getElem? (i := 436) (by decide +kernel)) rfl
theorem mi_Mc_firstFit : Cond.initialized "GreatMachine$Machine" ∈ lw_w := mw_ (List.mem_of_getElem? (i := 19) (by decide +kernel)) rfl
theorem mn_Mc_firstFit : Cond.instanceMethod y_Mc_firstFit ∈ lw_w := mw_ (List.mem_of_getElem? (i := 434) (by decide +kernel)) rfl
theorem ms_Mc_firstFit : Cond.selects "GreatMachine$Machine" y_Mc_firstFit y_Mc_firstFit ∈ lw_w := mw_ (List.mem_of_getElem? (i := 435) (by decide +kernel)) rfl
abbrev b_Mc_nextEnd : ByteArray := prog_5_method_25_code
def y_Mc_nextEnd : MethodName := ⟨"GreatMachine$Machine", "nextEnd", "(I)I"⟩
theorem mc_Mc_nextEnd : Cond.code y_Mc_nextEnd b_Mc_nextEnd 4 (some .int) ∈ lw_w := mw_ (List.mem_of_getElem? (i := 440) (by decide +kernel)) rfl
theorem mi_Mc_nextEnd : Cond.initialized "GreatMachine$Machine" ∈ lw_w := mw_ (List.mem_of_getElem? (i := 19) (by decide +kernel)) rfl
theorem mn_Mc_nextEnd : Cond.instanceMethod y_Mc_nextEnd ∈ lw_w := mw_ (List.mem_of_getElem? (i := 438) (by decide +kernel)) rfl
theorem ms_Mc_nextEnd : Cond.selects "GreatMachine$Machine" y_Mc_nextEnd y_Mc_nextEnd ∈ lw_w := mw_ (List.mem_of_getElem? (i := 439) (by decide +kernel)) rfl
abbrev b_Mc_nearer : ByteArray := prog_5_method_26_code
def y_Mc_nearer : MethodName := ⟨"GreatMachine$Machine", "nearer", "(III)I"⟩
theorem mc_Mc_nearer : Cond.code y_Mc_nearer b_Mc_nearer 3 (some .int) ∈ lw_w := mw_ (List.mem_of_getElem? (i := 443) (by decide +kernel)) rfl
theorem mi_Mc_nearer : Cond.initialized "GreatMachine$Machine" ∈ lw_w := mw_ (List.mem_of_getElem? (i := 19) (by decide +kernel)) rfl
theorem mt_Mc_nearer : Cond.static y_Mc_nearer ∈ lw_w := mw_ (List.mem_of_getElem? (i := 442) (by decide +kernel)) rfl
abbrev b_Mc_runJobs : ByteArray := prog_5_method_30_code
def y_Mc_runJobs : MethodName := ⟨"GreatMachine$Machine", "runJobs", "(Z)V"⟩
theorem mc_Mc_runJobs : Cond.code y_Mc_runJobs b_Mc_runJobs 3 none ∈ lw_w := mw_ (List.mem_of_getElem? (i := 448) (by decide +kernel)) rfl
theorem mi_Mc_runJobs : Cond.initialized "GreatMachine$Machine" ∈ lw_w := mw_ (List.mem_of_getElem? (i := 19) (by decide +kernel)) rfl
theorem mn_Mc_runJobs : Cond.instanceMethod y_Mc_runJobs ∈ lw_w := mw_ (List.mem_of_getElem? (i := 446) (by decide +kernel)) rfl
theorem ms_Mc_runJobs : Cond.selects "GreatMachine$Machine" y_Mc_runJobs y_Mc_runJobs ∈ lw_w := mw_ (List.mem_of_getElem? (i := 447) (by decide +kernel)) rfl
abbrev b_Mc_runOne : ByteArray := prog_5_method_31_code
def y_Mc_runOne : MethodName := ⟨"GreatMachine$Machine", "runOne", "(LGreatMachine$Job;Z)V"⟩
theorem mc_Mc_runOne : Cond.code y_Mc_runOne b_Mc_runOne 4 none ∈ lw_w := mw_ (List.mem_of_getElem? (i := 452) (by decide +kernel)) rfl
theorem mi_Mc_runOne : Cond.initialized "GreatMachine$Machine" ∈ lw_w := mw_ (List.mem_of_getElem? (i := 19) (by decide +kernel)) rfl
theorem mn_Mc_runOne : Cond.instanceMethod y_Mc_runOne ∈ lw_w := mw_ (List.mem_of_getElem? (i := 450) (by decide +kernel)) rfl
theorem ms_Mc_runOne : Cond.selects "GreatMachine$Machine" y_Mc_runOne y_Mc_runOne ∈ lw_w := mw_ (List.mem_of_getElem? (i := 451) (by decide +kernel)) rfl
abbrev b_Mc_halveUse : ByteArray := prog_5_method_32_code
def y_Mc_halveUse : MethodName := ⟨"GreatMachine$Machine", "halveUse", "()V"⟩
theorem mc_Mc_halveUse : Cond.code y_Mc_halveUse b_Mc_halveUse 2 none ∈ lw_w := mw_ (List.mem_of_getElem? (i := 457) (by decide +kernel)) rfl
theorem mi_Mc_halveUse : Cond.initialized "GreatMachine$Machine" ∈ lw_w := mw_ (List.mem_of_getElem? (i := 19) (by decide +kernel)) rfl
theorem mn_Mc_halveUse : Cond.instanceMethod y_Mc_halveUse ∈ lw_w := mw_ (List.mem_of_getElem? (i := 455) (by decide +kernel)) rfl
theorem ms_Mc_halveUse : Cond.selects "GreatMachine$Machine" y_Mc_halveUse y_Mc_halveUse ∈ lw_w := mw_ (List.mem_of_getElem? (i := 456) (by decide +kernel)) rfl
abbrev b_Gm_told : ByteArray := prog_1_method_14_code
def y_Gm_told : MethodName := ⟨"GreatMachine", "told", "(II)I"⟩
theorem mc_Gm_told : Cond.code y_Gm_told b_Gm_told 4 (some .int) ∈ lw_w := mw_ (List.mem_of_getElem? (i := 461) (by decide +kernel)) rfl
theorem mi_Gm_told : Cond.initialized "GreatMachine" ∈ lw_w := mw_ (List.mem_of_getElem? (i := 18) (by decide +kernel)) rfl
theorem mn_Gm_told : Cond.instanceMethod y_Gm_told ∈ lw_w := mw_ (List.mem_of_getElem? (i := 459) (by decide +kernel)) rfl
theorem ms_Gm_told : Cond.selects "GreatMachine" y_Gm_told y_Gm_told ∈ lw_w := mw_ (List.mem_of_getElem? (i := 460) (by decide +kernel)) rfl
abbrev b_Jb_racksHeld : ByteArray := prog_4_method_7_code
def y_Jb_racksHeld : MethodName := ⟨"GreatMachine$Job", "racksHeld", "()I"⟩
theorem mc_Jb_racksHeld : Cond.code y_Jb_racksHeld b_Jb_racksHeld 3 (some .int) ∈ lw_w := mw_ (List.mem_of_getElem? (i := 466) (by decide +kernel)) rfl
theorem mi_Jb_racksHeld : Cond.initialized "GreatMachine$Job" ∈ lw_w := mw_ (List.mem_of_getElem? (i := 22) (by decide +kernel)) rfl
theorem mn_Jb_racksHeld : Cond.instanceMethod y_Jb_racksHeld ∈ lw_w := mw_ (List.mem_of_getElem? (i := 464) (by decide +kernel)) rfl
theorem ms_Jb_racksHeld : Cond.selects "GreatMachine$Job" y_Jb_racksHeld y_Jb_racksHeld ∈ lw_w := mw_ (List.mem_of_getElem? (i := 465) (by decide +kernel)) rfl
abbrev b_Gm_on : ByteArray := prog_1_method_15_code
def y_Gm_on : MethodName := ⟨"GreatMachine", "on", "(II)I"⟩
theorem mc_Gm_on : Cond.code y_Gm_on b_Gm_on 3 (some .int) ∈ lw_w := mw_ (List.mem_of_getElem? (i := 470) (by decide +kernel)) rfl
theorem mi_Gm_on : Cond.initialized "GreatMachine" ∈ lw_w := mw_ (List.mem_of_getElem? (i := 18) (by decide +kernel)) rfl
theorem mn_Gm_on : Cond.instanceMethod y_Gm_on ∈ lw_w := mw_ (List.mem_of_getElem? (i := 468) (by decide +kernel)) rfl
theorem ms_Gm_on : Cond.selects "GreatMachine" y_Gm_on y_Gm_on ∈ lw_w := mw_ (List.mem_of_getElem? (i := 469) (by decide +kernel)) rfl
abbrev b_Gm_free : ByteArray := prog_1_method_16_code
def y_Gm_free : MethodName := ⟨"GreatMachine", "free", "(I)I"⟩
theorem mc_Gm_free : Cond.code y_Gm_free b_Gm_free 2 (some .int) ∈ lw_w := mw_ (List.mem_of_getElem? (i := 474) (by decide +kernel)) rfl
theorem mi_Gm_free : Cond.initialized "GreatMachine" ∈ lw_w := mw_ (List.mem_of_getElem? (i := 18) (by decide +kernel)) rfl
theorem mn_Gm_free : Cond.instanceMethod y_Gm_free ∈ lw_w := mw_ (List.mem_of_getElem? (i := 472) (by decide +kernel)) rfl
theorem ms_Gm_free : Cond.selects "GreatMachine" y_Gm_free y_Gm_free ∈ lw_w := mw_ (List.mem_of_getElem? (i := 473) (by decide +kernel)) rfl
abbrev b_Gm_used : ByteArray := prog_1_method_17_code
def y_Gm_used : MethodName := ⟨"GreatMachine", "used", "(I)I"⟩
theorem mc_Gm_used : Cond.code y_Gm_used b_Gm_used 2 (some .int) ∈ lw_w := mw_ (List.mem_of_getElem? (i := 478) (by decide +kernel)) rfl
theorem mi_Gm_used : Cond.initialized "GreatMachine" ∈ lw_w := mw_ (List.mem_of_getElem? (i := 18) (by decide +kernel)) rfl
theorem mn_Gm_used : Cond.instanceMethod y_Gm_used ∈ lw_w := mw_ (List.mem_of_getElem? (i := 476) (by decide +kernel)) rfl
theorem ms_Gm_used : Cond.selects "GreatMachine" y_Gm_used y_Gm_used ∈ lw_w := mw_ (List.mem_of_getElem? (i := 477) (by decide +kernel)) rfl
abbrev b_Gm_blocked : ByteArray := prog_1_method_18_code
def y_Gm_blocked : MethodName := ⟨"GreatMachine", "blocked", "(I)I"⟩
theorem mc_Gm_blocked : Cond.code y_Gm_blocked b_Gm_blocked 2 (some .int) ∈ lw_w := mw_ (List.mem_of_getElem? (i := 482) (by decide +kernel)) rfl
theorem mi_Gm_blocked : Cond.initialized "GreatMachine" ∈ lw_w := mw_ (List.mem_of_getElem? (i := 18) (by decide +kernel)) rfl
theorem mn_Gm_blocked : Cond.instanceMethod y_Gm_blocked ∈ lw_w := mw_ (List.mem_of_getElem? (i := 480) (by decide +kernel)) rfl
theorem ms_Gm_blocked : Cond.selects "GreatMachine" y_Gm_blocked y_Gm_blocked ∈ lw_w := mw_ (List.mem_of_getElem? (i := 481) (by decide +kernel)) rfl
abbrev b_Gm_taken : ByteArray := prog_1_method_19_code
def y_Gm_taken : MethodName := ⟨"GreatMachine", "taken", "(II)I"⟩
theorem mc_Gm_taken : Cond.code y_Gm_taken b_Gm_taken 3 (some .int) ∈ lw_w := mw_ (List.mem_of_getElem? (i := 486) (by decide +kernel)) rfl
theorem mi_Gm_taken : Cond.initialized "GreatMachine" ∈ lw_w := mw_ (List.mem_of_getElem? (i := 18) (by decide +kernel)) rfl
theorem mn_Gm_taken : Cond.instanceMethod y_Gm_taken ∈ lw_w := mw_ (List.mem_of_getElem? (i := 484) (by decide +kernel)) rfl
theorem ms_Gm_taken : Cond.selects "GreatMachine" y_Gm_taken y_Gm_taken ∈ lw_w := mw_ (List.mem_of_getElem? (i := 485) (by decide +kernel)) rfl
abbrev b_Gm_foreseen : ByteArray := prog_1_method_20_code
def y_Gm_foreseen : MethodName := ⟨"GreatMachine", "foreseen", "(I)I"⟩
theorem mc_Gm_foreseen : Cond.code y_Gm_foreseen b_Gm_foreseen 5 (some .int) ∈ lw_w := mw_ (List.mem_of_getElem? (i := 492) (by decide +kernel)) rfl
theorem mi_Gm_foreseen : Cond.initialized "GreatMachine" ∈ lw_w := mw_ (List.mem_of_getElem? (i := 18) (by decide +kernel)) rfl
theorem mn_Gm_foreseen : Cond.instanceMethod y_Gm_foreseen ∈ lw_w := mw_ (List.mem_of_getElem? (i := 490) (by decide +kernel)) rfl
theorem ms_Gm_foreseen : Cond.selects "GreatMachine" y_Gm_foreseen y_Gm_foreseen ∈ lw_w := mw_ (List.mem_of_getElem? (i := 491) (by decide +kernel)) rfl
abbrev b_Mc_become : ByteArray := prog_5_method_2_code
def y_Mc_become : MethodName := ⟨"GreatMachine$Machine", "become", "(LGreatMachine$Machine;)V"⟩
theorem mc_Mc_become : Cond.code y_Mc_become b_Mc_become 3 none ∈ lw_w := mw_ (List.mem_of_getElem? (i := 496) (by decide +kernel)) rfl
theorem mi_Mc_become : Cond.initialized "GreatMachine$Machine" ∈ lw_w := mw_ (List.mem_of_getElem? (i := 19) (by decide +kernel)) rfl
theorem mn_Mc_become : Cond.instanceMethod y_Mc_become ∈ lw_w := mw_ (List.mem_of_getElem? (i := 494) (by decide +kernel)) rfl
theorem ms_Mc_become : Cond.selects "GreatMachine$Machine" y_Mc_become y_Mc_become ∈ lw_w := mw_ (List.mem_of_getElem? (i := 495) (by decide +kernel)) rfl
abbrev b_Rk_become : ByteArray := prog_6_method_2_code
def y_Rk_become : MethodName := ⟨"GreatMachine$Rack", "become", "(LGreatMachine$Rack;)V"⟩
theorem mc_Rk_become : Cond.code y_Rk_become b_Rk_become 2 none ∈ lw_w := mw_ (List.mem_of_getElem? (i := 500) (by decide +kernel)) rfl
theorem mi_Rk_become : Cond.initialized "GreatMachine$Rack" ∈ lw_w := mw_ (List.mem_of_getElem? (i := 20) (by decide +kernel)) rfl
theorem mn_Rk_become : Cond.instanceMethod y_Rk_become ∈ lw_w := mw_ (List.mem_of_getElem? (i := 498) (by decide +kernel)) rfl
theorem ms_Rk_become : Cond.selects "GreatMachine$Rack" y_Rk_become y_Rk_become ∈ lw_w := mw_ (List.mem_of_getElem? (i := 499) (by decide +kernel)) rfl
abbrev b_Ac_become : ByteArray := prog_2_method_2_code
def y_Ac_become : MethodName := ⟨"GreatMachine$Account", "become", "(LGreatMachine$Account;)V"⟩
theorem mc_Ac_become : Cond.code y_Ac_become b_Ac_become 2 none ∈ lw_w := mw_ (List.mem_of_getElem? (i := 504) (by decide +kernel)) rfl
theorem mi_Ac_become : Cond.initialized "GreatMachine$Account" ∈ lw_w := mw_ (List.mem_of_getElem? (i := 21) (by decide +kernel)) rfl
theorem mn_Ac_become : Cond.instanceMethod y_Ac_become ∈ lw_w := mw_ (List.mem_of_getElem? (i := 502) (by decide +kernel)) rfl
theorem ms_Ac_become : Cond.selects "GreatMachine$Account" y_Ac_become y_Ac_become ∈ lw_w := mw_ (List.mem_of_getElem? (i := 503) (by decide +kernel)) rfl
abbrev b_Jb_become : ByteArray := prog_4_method_3_code
def y_Jb_become : MethodName := ⟨"GreatMachine$Job", "become", "(LGreatMachine$Job;)V"⟩
theorem mc_Jb_become : Cond.code y_Jb_become b_Jb_become 2 none ∈ lw_w := mw_ (List.mem_of_getElem? (i := 508) (by decide +kernel)) rfl
theorem mi_Jb_become : Cond.initialized "GreatMachine$Job" ∈ lw_w := mw_ (List.mem_of_getElem? (i := 22) (by decide +kernel)) rfl
theorem mn_Jb_become : Cond.instanceMethod y_Jb_become ∈ lw_w := mw_ (List.mem_of_getElem? (i := 506) (by decide +kernel)) rfl
theorem ms_Jb_become : Cond.selects "GreatMachine$Job" y_Jb_become y_Jb_become ∈ lw_w := mw_ (List.mem_of_getElem? (i := 507) (by decide +kernel)) rfl
abbrev b_Gm_count : ByteArray := prog_1_method_21_code
def y_Gm_count : MethodName := ⟨"GreatMachine", "count", "(I)I"⟩
theorem mc_Gm_count : Cond.code y_Gm_count b_Gm_count 2 (some .int) ∈ lw_w := mw_ (List.mem_of_getElem? (i := 515) (by decide +kernel)) rfl
theorem mi_Gm_count : Cond.initialized "GreatMachine" ∈ lw_w := mw_ (List.mem_of_getElem? (i := 18) (by decide +kernel)) rfl
theorem mn_Gm_count : Cond.instanceMethod y_Gm_count ∈ lw_w := mw_ (List.mem_of_getElem? (i := 513) (by decide +kernel)) rfl
theorem ms_Gm_count : Cond.selects "GreatMachine" y_Gm_count y_Gm_count ∈ lw_w := mw_ (List.mem_of_getElem? (i := 514) (by decide +kernel)) rfl
abbrev b_Mc_jobsThatAre : ByteArray := prog_5_method_9_code
def y_Mc_jobsThatAre : MethodName := ⟨"GreatMachine$Machine", "jobsThatAre", "(I)I"⟩
theorem mc_Mc_jobsThatAre : Cond.code y_Mc_jobsThatAre b_Mc_jobsThatAre 4 (some .int) ∈ lw_w := mw_ (List.mem_of_getElem? (i := 519) (by decide +kernel)) rfl
theorem mi_Mc_jobsThatAre : Cond.initialized "GreatMachine$Machine" ∈ lw_w := mw_ (List.mem_of_getElem? (i := 19) (by decide +kernel)) rfl
theorem mn_Mc_jobsThatAre : Cond.instanceMethod y_Mc_jobsThatAre ∈ lw_w := mw_ (List.mem_of_getElem? (i := 517) (by decide +kernel)) rfl
theorem ms_Mc_jobsThatAre : Cond.selects "GreatMachine$Machine" y_Mc_jobsThatAre y_Mc_jobsThatAre ∈ lw_w := mw_ (List.mem_of_getElem? (i := 518) (by decide +kernel)) rfl
abbrev b_Md_init : ByteArray := prog_8_method_1_code
def y_Md_init : MethodName := ⟨"GreatMachineModel", "<init>", "()V"⟩
theorem mc_Md_init : Cond.code y_Md_init b_Md_init 1 none ∈ lw_w := mw_ (List.mem_of_getElem? (i := 524) (by decide +kernel)) rfl
theorem mi_Md_init : Cond.initialized "GreatMachineModel" ∈ lw_w := mw_ (List.mem_of_getElem? (i := 24) (by decide +kernel)) rfl
theorem mn_Md_init : Cond.instanceMethod y_Md_init ∈ lw_w := mw_ (List.mem_of_getElem? (i := 523) (by decide +kernel)) rfl
abbrev b_Md_rack : ByteArray := prog_8_method_5_code
def y_Md_rack : MethodName := ⟨"GreatMachineModel", "rack", "(I)I"⟩
theorem mc_Md_rack : Cond.code y_Md_rack b_Md_rack 2 (some .int) ∈ lw_w := mw_ (List.mem_of_getElem? (i := 663) (by decide +kernel)) rfl
theorem mi_Md_rack : Cond.initialized "GreatMachineModel" ∈ lw_w := mw_ (List.mem_of_getElem? (i := 24) (by decide +kernel)) rfl
theorem mn_Md_rack : Cond.instanceMethod y_Md_rack ∈ lw_w := mw_ (List.mem_of_getElem? (i := 661) (by decide +kernel)) rfl
theorem ms_Md_rack : Cond.selects "GreatMachineModel" y_Md_rack y_Md_rack ∈ lw_w := mw_ (List.mem_of_getElem? (i := 662) (by decide +kernel)) rfl
abbrev b_Md_in : ByteArray := prog_8_method_2_code
def y_Md_in : MethodName := ⟨"GreatMachineModel", "in", "(III)Z"⟩
theorem mc_Md_in : Cond.code y_Md_in b_Md_in 3 (some .boolean) ∈ lw_w := mw_ (List.mem_of_getElem? (i := 666) (by decide +kernel)) rfl
theorem mi_Md_in : Cond.initialized "GreatMachineModel" ∈ lw_w := mw_ (List.mem_of_getElem? (i := 24) (by decide +kernel)) rfl
theorem mt_Md_in : Cond.static y_Md_in ∈ lw_w := mw_ (List.mem_of_getElem? (i := 665) (by decide +kernel)) rfl
abbrev b_Md_drain : ByteArray := prog_8_method_6_code
def y_Md_drain : MethodName := ⟨"GreatMachineModel", "drain", "(IZ)I"⟩
theorem mc_Md_drain : Cond.code y_Md_drain b_Md_drain 4 (some .int) ∈ lw_w := mw_ (List.mem_of_getElem? (i := 670) (by decide +kernel)) rfl
theorem mi_Md_drain : Cond.initialized "GreatMachineModel" ∈ lw_w := mw_ (List.mem_of_getElem? (i := 24) (by decide +kernel)) rfl
theorem mn_Md_drain : Cond.instanceMethod y_Md_drain ∈ lw_w := mw_ (List.mem_of_getElem? (i := 668) (by decide +kernel)) rfl
theorem ms_Md_drain : Cond.selects "GreatMachineModel" y_Md_drain y_Md_drain ∈ lw_w := mw_ (List.mem_of_getElem? (i := 669) (by decide +kernel)) rfl
abbrev b_Md_isRack : ByteArray := prog_8_method_3_code
def y_Md_isRack : MethodName := ⟨"GreatMachineModel", "isRack", "(I)Z"⟩
theorem mc_Md_isRack : Cond.code y_Md_isRack b_Md_isRack 2 (some .boolean) ∈ lw_w := mw_ (List.mem_of_getElem? (i := 674) (by decide +kernel)) rfl
theorem mi_Md_isRack : Cond.initialized "GreatMachineModel" ∈ lw_w := mw_ (List.mem_of_getElem? (i := 24) (by decide +kernel)) rfl
theorem mn_Md_isRack : Cond.instanceMethod y_Md_isRack ∈ lw_w := mw_ (List.mem_of_getElem? (i := 673) (by decide +kernel)) rfl
theorem ms_Md_isRack : Cond.selects "GreatMachineModel" y_Md_isRack y_Md_isRack ∈ lw_w := mw_ (List.mem_of_getElem? (i := 0) (by decide +kernel)) rfl
abbrev b_Md_fail : ByteArray := prog_8_method_8_code
def y_Md_fail : MethodName := ⟨"GreatMachineModel", "fail", "(I)I"⟩
theorem mc_Md_fail : Cond.code y_Md_fail b_Md_fail 5 (some .int) ∈ lw_w := mw_ (List.mem_of_getElem? (i := 678) (by decide +kernel)) rfl
theorem mi_Md_fail : Cond.initialized "GreatMachineModel" ∈ lw_w := mw_ (List.mem_of_getElem? (i := 24) (by decide +kernel)) rfl
theorem mn_Md_fail : Cond.instanceMethod y_Md_fail ∈ lw_w := mw_ (List.mem_of_getElem? (i := 676) (by decide +kernel)) rfl
theorem ms_Md_fail : Cond.selects "GreatMachineModel" y_Md_fail y_Md_fail ∈ lw_w := mw_ (List.mem_of_getElem? (i := 677) (by decide +kernel)) rfl
abbrev b_Md_leave : ByteArray := prog_8_method_7_code
def y_Md_leave : MethodName := ⟨"GreatMachineModel", "leave", "(I)V"⟩
theorem mc_Md_leave : Cond.code y_Md_leave b_Md_leave 3 none ∈ lw_w := mw_ (List.mem_of_getElem? (i := 682) (by decide +kernel)) rfl
theorem mi_Md_leave : Cond.initialized "GreatMachineModel" ∈ lw_w := mw_ (List.mem_of_getElem? (i := 24) (by decide +kernel)) rfl
theorem mn_Md_leave : Cond.instanceMethod y_Md_leave ∈ lw_w := mw_ (List.mem_of_getElem? (i := 681) (by decide +kernel)) rfl
theorem ms_Md_leave : Cond.selects "GreatMachineModel" y_Md_leave y_Md_leave ∈ lw_w := mw_ (List.mem_of_getElem? (i := 1) (by decide +kernel)) rfl
abbrev b_Md_licences : ByteArray := prog_8_method_9_code
def y_Md_licences : MethodName := ⟨"GreatMachineModel", "licences", "(I)I"⟩
theorem mc_Md_licences : Cond.code y_Md_licences b_Md_licences 3 (some .int) ∈ lw_w := mw_ (List.mem_of_getElem? (i := 686) (by decide +kernel)) rfl
theorem mi_Md_licences : Cond.initialized "GreatMachineModel" ∈ lw_w := mw_ (List.mem_of_getElem? (i := 24) (by decide +kernel)) rfl
theorem mn_Md_licences : Cond.instanceMethod y_Md_licences ∈ lw_w := mw_ (List.mem_of_getElem? (i := 684) (by decide +kernel)) rfl
theorem ms_Md_licences : Cond.selects "GreatMachineModel" y_Md_licences y_Md_licences ∈ lw_w := mw_ (List.mem_of_getElem? (i := 685) (by decide +kernel)) rfl
abbrev b_Md_half : ByteArray := prog_8_method_10_code
def y_Md_half : MethodName := ⟨"GreatMachineModel", "half", "(I)I"⟩
theorem mc_Md_half : Cond.code y_Md_half b_Md_half 3 (some .int) ∈ lw_w := mw_ (List.mem_of_getElem? (i := 690) (by decide +kernel)) rfl
theorem mi_Md_half : Cond.initialized "GreatMachineModel" ∈ lw_w := mw_ (List.mem_of_getElem? (i := 24) (by decide +kernel)) rfl
theorem mn_Md_half : Cond.instanceMethod y_Md_half ∈ lw_w := mw_ (List.mem_of_getElem? (i := 688) (by decide +kernel)) rfl
theorem ms_Md_half : Cond.selects "GreatMachineModel" y_Md_half y_Md_half ∈ lw_w := mw_ (List.mem_of_getElem? (i := 689) (by decide +kernel)) rfl
abbrev b_Md_account : ByteArray := prog_8_method_11_code
def y_Md_account : MethodName := ⟨"GreatMachineModel", "account", "(I)I"⟩
theorem mc_Md_account : Cond.code y_Md_account b_Md_account 2 (some .int) ∈ lw_w := mw_ (List.mem_of_getElem? (i := 694) (by decide +kernel)) rfl
theorem mi_Md_account : Cond.initialized "GreatMachineModel" ∈ lw_w := mw_ (List.mem_of_getElem? (i := 24) (by decide +kernel)) rfl
theorem mn_Md_account : Cond.instanceMethod y_Md_account ∈ lw_w := mw_ (List.mem_of_getElem? (i := 692) (by decide +kernel)) rfl
theorem ms_Md_account : Cond.selects "GreatMachineModel" y_Md_account y_Md_account ∈ lw_w := mw_ (List.mem_of_getElem? (i := 693) (by decide +kernel)) rfl
abbrev b_Md_job : ByteArray := prog_8_method_12_code
def y_Md_job : MethodName := ⟨"GreatMachineModel", "job", "(IIIIII)I"⟩
theorem mc_Md_job : Cond.code y_Md_job b_Md_job 7 (some .int) ∈ lw_w := mw_ (List.mem_of_getElem? (i := 698) (by decide +kernel)) rfl
theorem mi_Md_job : Cond.initialized "GreatMachineModel" ∈ lw_w := mw_ (List.mem_of_getElem? (i := 24) (by decide +kernel)) rfl
theorem mn_Md_job : Cond.instanceMethod y_Md_job ∈ lw_w := mw_ (List.mem_of_getElem? (i := 696) (by decide +kernel)) rfl
theorem ms_Md_job : Cond.selects "GreatMachineModel" y_Md_job y_Md_job ∈ lw_w := mw_ (List.mem_of_getElem? (i := 697) (by decide +kernel)) rfl
abbrev b_Md_behind : ByteArray := prog_8_method_13_code
def y_Md_behind : MethodName := ⟨"GreatMachineModel", "behind", "(II)I"⟩
theorem mc_Md_behind : Cond.code y_Md_behind b_Md_behind 3 (some .int) ∈ lw_w := mw_ (List.mem_of_getElem? (i := 702) (by decide +kernel)) rfl
theorem mi_Md_behind : Cond.initialized "GreatMachineModel" ∈ lw_w := mw_ (List.mem_of_getElem? (i := 24) (by decide +kernel)) rfl
theorem mn_Md_behind : Cond.instanceMethod y_Md_behind ∈ lw_w := mw_ (List.mem_of_getElem? (i := 700) (by decide +kernel)) rfl
theorem ms_Md_behind : Cond.selects "GreatMachineModel" y_Md_behind y_Md_behind ∈ lw_w := mw_ (List.mem_of_getElem? (i := 701) (by decide +kernel)) rfl
abbrev b_Md_isJob : ByteArray := prog_8_method_4_code
def y_Md_isJob : MethodName := ⟨"GreatMachineModel", "isJob", "(I)Z"⟩
theorem mc_Md_isJob : Cond.code y_Md_isJob b_Md_isJob 2 (some .boolean) ∈ lw_w := mw_ (List.mem_of_getElem? (i := 706) (by decide +kernel)) rfl
theorem mi_Md_isJob : Cond.initialized "GreatMachineModel" ∈ lw_w := mw_ (List.mem_of_getElem? (i := 24) (by decide +kernel)) rfl
theorem mn_Md_isJob : Cond.instanceMethod y_Md_isJob ∈ lw_w := mw_ (List.mem_of_getElem? (i := 705) (by decide +kernel)) rfl
theorem ms_Md_isJob : Cond.selects "GreatMachineModel" y_Md_isJob y_Md_isJob ∈ lw_w := mw_ (List.mem_of_getElem? (i := 2) (by decide +kernel)) rfl
abbrev b_Md_cancel : ByteArray := prog_8_method_14_code
def y_Md_cancel : MethodName := ⟨"GreatMachineModel", "cancel", "(I)I"⟩
theorem mc_Md_cancel : Cond.code y_Md_cancel b_Md_cancel 2 (some .int) ∈ lw_w := mw_ (List.mem_of_getElem? (i := 710) (by decide +kernel)) rfl
theorem mi_Md_cancel : Cond.initialized "GreatMachineModel" ∈ lw_w := mw_ (List.mem_of_getElem? (i := 24) (by decide +kernel)) rfl
theorem mn_Md_cancel : Cond.instanceMethod y_Md_cancel ∈ lw_w := mw_ (List.mem_of_getElem? (i := 708) (by decide +kernel)) rfl
theorem ms_Md_cancel : Cond.selects "GreatMachineModel" y_Md_cancel y_Md_cancel ∈ lw_w := mw_ (List.mem_of_getElem? (i := 709) (by decide +kernel)) rfl
abbrev b_Md_book : ByteArray := prog_8_method_19_code
def y_Md_book : MethodName := ⟨"GreatMachineModel", "book", "(III)I"⟩
theorem mc_Md_book : Cond.code y_Md_book b_Md_book 6 (some .int) ∈ lw_w := mw_ (List.mem_of_getElem? (i := 714) (by decide +kernel)) rfl
theorem mi_Md_book : Cond.initialized "GreatMachineModel" ∈ lw_w := mw_ (List.mem_of_getElem? (i := 24) (by decide +kernel)) rfl
theorem mn_Md_book : Cond.instanceMethod y_Md_book ∈ lw_w := mw_ (List.mem_of_getElem? (i := 712) (by decide +kernel)) rfl
theorem ms_Md_book : Cond.selects "GreatMachineModel" y_Md_book y_Md_book ∈ lw_w := mw_ (List.mem_of_getElem? (i := 713) (by decide +kernel)) rfl
abbrev b_Md_room : ByteArray := prog_8_method_15_code
def y_Md_room : MethodName := ⟨"GreatMachineModel", "room", "()I"⟩
theorem mc_Md_room : Cond.code y_Md_room b_Md_room 3 (some .int) ∈ lw_w := mw_ (List.mem_of_getElem? (i := 718) (by decide +kernel)) rfl
theorem mi_Md_room : Cond.initialized "GreatMachineModel" ∈ lw_w := mw_ (List.mem_of_getElem? (i := 24) (by decide +kernel)) rfl
theorem mn_Md_room : Cond.instanceMethod y_Md_room ∈ lw_w := mw_ (List.mem_of_getElem? (i := 717) (by decide +kernel)) rfl
theorem ms_Md_room : Cond.selects "GreatMachineModel" y_Md_room y_Md_room ∈ lw_w := mw_ (List.mem_of_getElem? (i := 3) (by decide +kernel)) rfl
abbrev b_Md_takenNodes : ByteArray := prog_8_method_17_code
def y_Md_takenNodes : MethodName := ⟨"GreatMachineModel", "takenNodes", "(I)I"⟩
theorem mc_Md_takenNodes : Cond.code y_Md_takenNodes b_Md_takenNodes 5 (some .int) ∈ lw_w := mw_ (List.mem_of_getElem? (i := 722) (by decide +kernel)) rfl
theorem mi_Md_takenNodes : Cond.initialized "GreatMachineModel" ∈ lw_w := mw_ (List.mem_of_getElem? (i := 24) (by decide +kernel)) rfl
theorem mn_Md_takenNodes : Cond.instanceMethod y_Md_takenNodes ∈ lw_w := mw_ (List.mem_of_getElem? (i := 721) (by decide +kernel)) rfl
theorem ms_Md_takenNodes : Cond.selects "GreatMachineModel" y_Md_takenNodes y_Md_takenNodes ∈ lw_w := mw_ (List.mem_of_getElem? (i := 4) (by decide +kernel)) rfl
abbrev b_Md_runsAt : ByteArray := prog_8_method_16_code
def y_Md_runsAt : MethodName := ⟨"GreatMachineModel", "runsAt", "(II)Z"⟩
theorem mc_Md_runsAt : Cond.code y_Md_runsAt b_Md_runsAt 3 (some .boolean) ∈ lw_w := mw_ (List.mem_of_getElem? (i := 726) (by decide +kernel)) rfl
theorem mi_Md_runsAt : Cond.initialized "GreatMachineModel" ∈ lw_w := mw_ (List.mem_of_getElem? (i := 24) (by decide +kernel)) rfl
theorem mn_Md_runsAt : Cond.instanceMethod y_Md_runsAt ∈ lw_w := mw_ (List.mem_of_getElem? (i := 725) (by decide +kernel)) rfl
theorem ms_Md_runsAt : Cond.selects "GreatMachineModel" y_Md_runsAt y_Md_runsAt ∈ lw_w := mw_ (List.mem_of_getElem? (i := 5) (by decide +kernel)) rfl
abbrev b_Md_unbook : ByteArray := prog_8_method_20_code
def y_Md_unbook : MethodName := ⟨"GreatMachineModel", "unbook", "(I)I"⟩
theorem mc_Md_unbook : Cond.code y_Md_unbook b_Md_unbook 3 (some .int) ∈ lw_w := mw_ (List.mem_of_getElem? (i := 730) (by decide +kernel)) rfl
theorem mi_Md_unbook : Cond.initialized "GreatMachineModel" ∈ lw_w := mw_ (List.mem_of_getElem? (i := 24) (by decide +kernel)) rfl
theorem mn_Md_unbook : Cond.instanceMethod y_Md_unbook ∈ lw_w := mw_ (List.mem_of_getElem? (i := 728) (by decide +kernel)) rfl
theorem ms_Md_unbook : Cond.selects "GreatMachineModel" y_Md_unbook y_Md_unbook ∈ lw_w := mw_ (List.mem_of_getElem? (i := 729) (by decide +kernel)) rfl
abbrev b_Md_ticks : ByteArray := prog_8_method_29_code
def y_Md_ticks : MethodName := ⟨"GreatMachineModel", "ticks", "(I)I"⟩
theorem mc_Md_ticks : Cond.code y_Md_ticks b_Md_ticks 3 (some .int) ∈ lw_w := mw_ (List.mem_of_getElem? (i := 734) (by decide +kernel)) rfl
theorem mi_Md_ticks : Cond.initialized "GreatMachineModel" ∈ lw_w := mw_ (List.mem_of_getElem? (i := 24) (by decide +kernel)) rfl
theorem mn_Md_ticks : Cond.instanceMethod y_Md_ticks ∈ lw_w := mw_ (List.mem_of_getElem? (i := 732) (by decide +kernel)) rfl
theorem ms_Md_ticks : Cond.selects "GreatMachineModel" y_Md_ticks y_Md_ticks ∈ lw_w := mw_ (List.mem_of_getElem? (i := 733) (by decide +kernel)) rfl
abbrev b_Md_tick : ByteArray := prog_8_method_28_code
def y_Md_tick : MethodName := ⟨"GreatMachineModel", "tick", "()V"⟩
theorem mc_Md_tick : Cond.code y_Md_tick b_Md_tick 4 none ∈ lw_w := mw_ (List.mem_of_getElem? (i := 738) (by decide +kernel)) rfl
theorem mi_Md_tick : Cond.initialized "GreatMachineModel" ∈ lw_w := mw_ (List.mem_of_getElem? (i := 24) (by decide +kernel)) rfl
theorem mn_Md_tick : Cond.instanceMethod y_Md_tick ∈ lw_w := mw_ (List.mem_of_getElem? (i := 737) (by decide +kernel)) rfl
theorem ms_Md_tick : Cond.selects "GreatMachineModel" y_Md_tick y_Md_tick ∈ lw_w := mw_ (List.mem_of_getElem? (i := 6) (by decide +kernel)) rfl
abbrev b_Md_findQueue : ByteArray := prog_8_method_27_code
def y_Md_findQueue : MethodName := ⟨"GreatMachineModel", "findQueue", "()V"⟩
theorem mc_Md_findQueue : Cond.code y_Md_findQueue b_Md_findQueue 3 none ∈ lw_w := mw_ (List.mem_of_getElem? (i := 742) (by decide +kernel)) rfl
theorem mi_Md_findQueue : Cond.initialized "GreatMachineModel" ∈ lw_w := mw_ (List.mem_of_getElem? (i := 24) (by decide +kernel)) rfl
theorem mn_Md_findQueue : Cond.instanceMethod y_Md_findQueue ∈ lw_w := mw_ (List.mem_of_getElem? (i := 741) (by decide +kernel)) rfl
theorem ms_Md_findQueue : Cond.selects "GreatMachineModel" y_Md_findQueue y_Md_findQueue ∈ lw_w := mw_ (List.mem_of_getElem? (i := 7) (by decide +kernel)) rfl
abbrev b_Md_isAhead : ByteArray := prog_8_method_26_code
def y_Md_isAhead : MethodName := ⟨"GreatMachineModel", "isAhead", "(II)Z"⟩
theorem mc_Md_isAhead : Cond.code y_Md_isAhead b_Md_isAhead 7 (some .boolean) ∈ lw_w := mw_ (List.mem_of_getElem? (i := 746) (by decide +kernel)) rfl
theorem mi_Md_isAhead : Cond.initialized "GreatMachineModel" ∈ lw_w := mw_ (List.mem_of_getElem? (i := 24) (by decide +kernel)) rfl
theorem mn_Md_isAhead : Cond.instanceMethod y_Md_isAhead ∈ lw_w := mw_ (List.mem_of_getElem? (i := 745) (by decide +kernel)) rfl
theorem ms_Md_isAhead : Cond.selects "GreatMachineModel" y_Md_isAhead y_Md_isAhead ∈ lw_w := mw_ (List.mem_of_getElem? (i := 8) (by decide +kernel)) rfl
abbrev b_Md_findTaken : ByteArray := prog_8_method_25_code
def y_Md_findTaken : MethodName := ⟨"GreatMachineModel", "findTaken", "()V"⟩
theorem mc_Md_findTaken : Cond.code y_Md_findTaken b_Md_findTaken 4 none ∈ lw_w := mw_ (List.mem_of_getElem? (i := 750) (by decide +kernel)) rfl
theorem mi_Md_findTaken : Cond.initialized "GreatMachineModel" ∈ lw_w := mw_ (List.mem_of_getElem? (i := 24) (by decide +kernel)) rfl
theorem mn_Md_findTaken : Cond.instanceMethod y_Md_findTaken ∈ lw_w := mw_ (List.mem_of_getElem? (i := 749) (by decide +kernel)) rfl
theorem ms_Md_findTaken : Cond.selects "GreatMachineModel" y_Md_findTaken y_Md_findTaken ∈ lw_w := mw_ (List.mem_of_getElem? (i := 9) (by decide +kernel)) rfl
abbrev b_Md_fits : ByteArray := prog_8_method_22_code
def y_Md_fits : MethodName := ⟨"GreatMachineModel", "fits", "(IIZ)Z"⟩
theorem mc_Md_fits : Cond.code y_Md_fits b_Md_fits 9 (some .boolean) ∈ lw_w := mw_ (List.mem_of_getElem? (i := 754) (by decide +kernel)) rfl
theorem mi_Md_fits : Cond.initialized "GreatMachineModel" ∈ lw_w := mw_ (List.mem_of_getElem? (i := 24) (by decide +kernel)) rfl
theorem mn_Md_fits : Cond.instanceMethod y_Md_fits ∈ lw_w := mw_ (List.mem_of_getElem? (i := 753) (by decide +kernel)) rfl
theorem ms_Md_fits : Cond.selects "GreatMachineModel" y_Md_fits y_Md_fits ∈ lw_w := mw_ (List.mem_of_getElem? (i := 10) (by decide +kernel)) rfl
abbrev b_Md_leftOf : ByteArray := prog_8_method_21_code
def y_Md_leftOf : MethodName := ⟨"GreatMachineModel", "leftOf", "(I)I"⟩
theorem mc_Md_leftOf : Cond.code y_Md_leftOf b_Md_leftOf 2 (some .int) ∈ lw_w := mw_ (List.mem_of_getElem? (i := 758) (by decide +kernel)) rfl
theorem mi_Md_leftOf : Cond.initialized "GreatMachineModel" ∈ lw_w := mw_ (List.mem_of_getElem? (i := 24) (by decide +kernel)) rfl
theorem mn_Md_leftOf : Cond.instanceMethod y_Md_leftOf ∈ lw_w := mw_ (List.mem_of_getElem? (i := 757) (by decide +kernel)) rfl
theorem ms_Md_leftOf : Cond.selects "GreatMachineModel" y_Md_leftOf y_Md_leftOf ∈ lw_w := mw_ (List.mem_of_getElem? (i := 11) (by decide +kernel)) rfl
abbrev b_Md_begin : ByteArray := prog_8_method_24_code
def y_Md_begin : MethodName := ⟨"GreatMachineModel", "begin", "(I)V"⟩
theorem mc_Md_begin : Cond.code y_Md_begin b_Md_begin 9 none ∈ lw_w := mw_ (List.mem_of_getElem? (i := 762) (by decide +kernel)) rfl
theorem mi_Md_begin : Cond.initialized "GreatMachineModel" ∈ lw_w := mw_ (List.mem_of_getElem? (i := 24) (by decide +kernel)) rfl
theorem mn_Md_begin : Cond.instanceMethod y_Md_begin ∈ lw_w := mw_ (List.mem_of_getElem? (i := 761) (by decide +kernel)) rfl
theorem ms_Md_begin : Cond.selects "GreatMachineModel" y_Md_begin y_Md_begin ∈ lw_w := mw_ (List.mem_of_getElem? (i := 12) (by decide +kernel)) rfl
abbrev b_Md_freeOn : ByteArray := prog_8_method_23_code
def y_Md_freeOn : MethodName := ⟨"GreatMachineModel", "freeOn", "(I)I"⟩
theorem mc_Md_freeOn : Cond.code y_Md_freeOn b_Md_freeOn 4 (some .int) ∈ lw_w := mw_ (List.mem_of_getElem? (i := 766) (by decide +kernel)) rfl
theorem mi_Md_freeOn : Cond.initialized "GreatMachineModel" ∈ lw_w := mw_ (List.mem_of_getElem? (i := 24) (by decide +kernel)) rfl
theorem mn_Md_freeOn : Cond.instanceMethod y_Md_freeOn ∈ lw_w := mw_ (List.mem_of_getElem? (i := 765) (by decide +kernel)) rfl
theorem ms_Md_freeOn : Cond.selects "GreatMachineModel" y_Md_freeOn y_Md_freeOn ∈ lw_w := mw_ (List.mem_of_getElem? (i := 13) (by decide +kernel)) rfl
abbrev b_Md_told : ByteArray := prog_8_method_30_code
def y_Md_told : MethodName := ⟨"GreatMachineModel", "told", "(II)I"⟩
theorem mc_Md_told : Cond.code y_Md_told b_Md_told 5 (some .int) ∈ lw_w := mw_ (List.mem_of_getElem? (i := 770) (by decide +kernel)) rfl
theorem mi_Md_told : Cond.initialized "GreatMachineModel" ∈ lw_w := mw_ (List.mem_of_getElem? (i := 24) (by decide +kernel)) rfl
theorem mn_Md_told : Cond.instanceMethod y_Md_told ∈ lw_w := mw_ (List.mem_of_getElem? (i := 768) (by decide +kernel)) rfl
theorem ms_Md_told : Cond.selects "GreatMachineModel" y_Md_told y_Md_told ∈ lw_w := mw_ (List.mem_of_getElem? (i := 769) (by decide +kernel)) rfl
abbrev b_Md_on : ByteArray := prog_8_method_31_code
def y_Md_on : MethodName := ⟨"GreatMachineModel", "on", "(II)I"⟩
theorem mc_Md_on : Cond.code y_Md_on b_Md_on 3 (some .int) ∈ lw_w := mw_ (List.mem_of_getElem? (i := 774) (by decide +kernel)) rfl
theorem mi_Md_on : Cond.initialized "GreatMachineModel" ∈ lw_w := mw_ (List.mem_of_getElem? (i := 24) (by decide +kernel)) rfl
theorem mn_Md_on : Cond.instanceMethod y_Md_on ∈ lw_w := mw_ (List.mem_of_getElem? (i := 772) (by decide +kernel)) rfl
theorem ms_Md_on : Cond.selects "GreatMachineModel" y_Md_on y_Md_on ∈ lw_w := mw_ (List.mem_of_getElem? (i := 773) (by decide +kernel)) rfl
abbrev b_Md_free : ByteArray := prog_8_method_32_code
def y_Md_free : MethodName := ⟨"GreatMachineModel", "free", "(I)I"⟩
theorem mc_Md_free : Cond.code y_Md_free b_Md_free 2 (some .int) ∈ lw_w := mw_ (List.mem_of_getElem? (i := 778) (by decide +kernel)) rfl
theorem mi_Md_free : Cond.initialized "GreatMachineModel" ∈ lw_w := mw_ (List.mem_of_getElem? (i := 24) (by decide +kernel)) rfl
theorem mn_Md_free : Cond.instanceMethod y_Md_free ∈ lw_w := mw_ (List.mem_of_getElem? (i := 776) (by decide +kernel)) rfl
theorem ms_Md_free : Cond.selects "GreatMachineModel" y_Md_free y_Md_free ∈ lw_w := mw_ (List.mem_of_getElem? (i := 777) (by decide +kernel)) rfl
abbrev b_Md_used : ByteArray := prog_8_method_33_code
def y_Md_used : MethodName := ⟨"GreatMachineModel", "used", "(I)I"⟩
theorem mc_Md_used : Cond.code y_Md_used b_Md_used 2 (some .int) ∈ lw_w := mw_ (List.mem_of_getElem? (i := 782) (by decide +kernel)) rfl
theorem mi_Md_used : Cond.initialized "GreatMachineModel" ∈ lw_w := mw_ (List.mem_of_getElem? (i := 24) (by decide +kernel)) rfl
theorem mn_Md_used : Cond.instanceMethod y_Md_used ∈ lw_w := mw_ (List.mem_of_getElem? (i := 780) (by decide +kernel)) rfl
theorem ms_Md_used : Cond.selects "GreatMachineModel" y_Md_used y_Md_used ∈ lw_w := mw_ (List.mem_of_getElem? (i := 781) (by decide +kernel)) rfl
abbrev b_Md_blocked : ByteArray := prog_8_method_34_code
def y_Md_blocked : MethodName := ⟨"GreatMachineModel", "blocked", "(I)I"⟩
theorem mc_Md_blocked : Cond.code y_Md_blocked b_Md_blocked 2 (some .int) ∈ lw_w := mw_ (List.mem_of_getElem? (i := 786) (by decide +kernel)) rfl
theorem mi_Md_blocked : Cond.initialized "GreatMachineModel" ∈ lw_w := mw_ (List.mem_of_getElem? (i := 24) (by decide +kernel)) rfl
theorem mn_Md_blocked : Cond.instanceMethod y_Md_blocked ∈ lw_w := mw_ (List.mem_of_getElem? (i := 784) (by decide +kernel)) rfl
theorem ms_Md_blocked : Cond.selects "GreatMachineModel" y_Md_blocked y_Md_blocked ∈ lw_w := mw_ (List.mem_of_getElem? (i := 785) (by decide +kernel)) rfl
abbrev b_Md_taken : ByteArray := prog_8_method_35_code
def y_Md_taken : MethodName := ⟨"GreatMachineModel", "taken", "(II)I"⟩
theorem mc_Md_taken : Cond.code y_Md_taken b_Md_taken 3 (some .int) ∈ lw_w := mw_ (List.mem_of_getElem? (i := 790) (by decide +kernel)) rfl
theorem mi_Md_taken : Cond.initialized "GreatMachineModel" ∈ lw_w := mw_ (List.mem_of_getElem? (i := 24) (by decide +kernel)) rfl
theorem mn_Md_taken : Cond.instanceMethod y_Md_taken ∈ lw_w := mw_ (List.mem_of_getElem? (i := 788) (by decide +kernel)) rfl
theorem ms_Md_taken : Cond.selects "GreatMachineModel" y_Md_taken y_Md_taken ∈ lw_w := mw_ (List.mem_of_getElem? (i := 789) (by decide +kernel)) rfl
abbrev b_Md_takenLicences : ByteArray := prog_8_method_18_code
def y_Md_takenLicences : MethodName := ⟨"GreatMachineModel", "takenLicences", "(I)I"⟩
theorem mc_Md_takenLicences : Cond.code y_Md_takenLicences b_Md_takenLicences 4 (some .int) ∈ lw_w := mw_ (List.mem_of_getElem? (i := 794) (by decide +kernel)) rfl
theorem mi_Md_takenLicences : Cond.initialized "GreatMachineModel" ∈ lw_w := mw_ (List.mem_of_getElem? (i := 24) (by decide +kernel)) rfl
theorem mn_Md_takenLicences : Cond.instanceMethod y_Md_takenLicences ∈ lw_w := mw_ (List.mem_of_getElem? (i := 793) (by decide +kernel)) rfl
theorem ms_Md_takenLicences : Cond.selects "GreatMachineModel" y_Md_takenLicences y_Md_takenLicences ∈ lw_w := mw_ (List.mem_of_getElem? (i := 14) (by decide +kernel)) rfl
abbrev b_Md_foreseen : ByteArray := prog_8_method_38_code
def y_Md_foreseen : MethodName := ⟨"GreatMachineModel", "foreseen", "(I)I"⟩
theorem mc_Md_foreseen : Cond.code y_Md_foreseen b_Md_foreseen 8 (some .int) ∈ lw_w := mw_ (List.mem_of_getElem? (i := 798) (by decide +kernel)) rfl
theorem mi_Md_foreseen : Cond.initialized "GreatMachineModel" ∈ lw_w := mw_ (List.mem_of_getElem? (i := 24) (by decide +kernel)) rfl
theorem mn_Md_foreseen : Cond.instanceMethod y_Md_foreseen ∈ lw_w := mw_ (List.mem_of_getElem? (i := 796) (by decide +kernel)) rfl
theorem ms_Md_foreseen : Cond.selects "GreatMachineModel" y_Md_foreseen y_Md_foreseen ∈ lw_w := mw_ (List.mem_of_getElem? (i := 797) (by decide +kernel)) rfl
abbrev b_Md_keep : ByteArray := prog_8_method_36_code
def y_Md_keep : MethodName := ⟨"GreatMachineModel", "keep", "()V"⟩
theorem mc_Md_keep : Cond.code y_Md_keep b_Md_keep 2 none ∈ lw_w := mw_ (List.mem_of_getElem? (i := 802) (by decide +kernel)) rfl
theorem mi_Md_keep : Cond.initialized "GreatMachineModel" ∈ lw_w := mw_ (List.mem_of_getElem? (i := 24) (by decide +kernel)) rfl
theorem mn_Md_keep : Cond.instanceMethod y_Md_keep ∈ lw_w := mw_ (List.mem_of_getElem? (i := 801) (by decide +kernel)) rfl
theorem ms_Md_keep : Cond.selects "GreatMachineModel" y_Md_keep y_Md_keep ∈ lw_w := mw_ (List.mem_of_getElem? (i := 15) (by decide +kernel)) rfl
abbrev b_Md_putBack : ByteArray := prog_8_method_37_code
def y_Md_putBack : MethodName := ⟨"GreatMachineModel", "putBack", "()V"⟩
theorem mc_Md_putBack : Cond.code y_Md_putBack b_Md_putBack 2 none ∈ lw_w := mw_ (List.mem_of_getElem? (i := 806) (by decide +kernel)) rfl
theorem mi_Md_putBack : Cond.initialized "GreatMachineModel" ∈ lw_w := mw_ (List.mem_of_getElem? (i := 24) (by decide +kernel)) rfl
theorem mn_Md_putBack : Cond.instanceMethod y_Md_putBack ∈ lw_w := mw_ (List.mem_of_getElem? (i := 805) (by decide +kernel)) rfl
theorem ms_Md_putBack : Cond.selects "GreatMachineModel" y_Md_putBack y_Md_putBack ∈ lw_w := mw_ (List.mem_of_getElem? (i := 16) (by decide +kernel)) rfl
abbrev b_Md_count : ByteArray := prog_8_method_39_code
def y_Md_count : MethodName := ⟨"GreatMachineModel", "count", "(I)I"⟩
theorem mc_Md_count : Cond.code y_Md_count b_Md_count 4 (some .int) ∈ lw_w := mw_ (List.mem_of_getElem? (i := 810) (by decide +kernel)) rfl
theorem mi_Md_count : Cond.initialized "GreatMachineModel" ∈ lw_w := mw_ (List.mem_of_getElem? (i := 24) (by decide +kernel)) rfl
theorem mn_Md_count : Cond.instanceMethod y_Md_count ∈ lw_w := mw_ (List.mem_of_getElem? (i := 808) (by decide +kernel)) rfl
theorem ms_Md_count : Cond.selects "GreatMachineModel" y_Md_count y_Md_count ∈ lw_w := mw_ (List.mem_of_getElem? (i := 809) (by decide +kernel)) rfl
theorem cl_La_7 : Cond.classLink "GreatMachineLaw" 7 "GreatMachine" ∈ lw_w := mw_ (List.mem_of_getElem? (i := 28) (by decide +kernel)) rfl
theorem ins_Gm : Cond.instantiable "GreatMachine" 2 ∈ lw_w := mw_ (List.mem_of_getElem? (i := 29) (by decide +kernel)) rfl
theorem ml_La_9 : Cond.methodLink "GreatMachineLaw" 9 y_Gm_init ∈ lw_w := mw_ (List.mem_of_getElem? (i := 30) (by decide +kernel)) rfl
theorem ml_Gm_1 : Cond.methodLink "GreatMachine" 1 ⟨"java/lang/Object", "<init>", "()V"⟩ ∈ lw_w := mw_ (List.mem_of_getElem? (i := 33) (by decide +kernel)) rfl
theorem cl_Gm_7 : Cond.classLink "GreatMachine" 7 "GreatMachine$Machine" ∈ lw_w := mw_ (List.mem_of_getElem? (i := 36) (by decide +kernel)) rfl
theorem ins_Mc : Cond.instantiable "GreatMachine$Machine" 16 ∈ lw_w := mw_ (List.mem_of_getElem? (i := 37) (by decide +kernel)) rfl
theorem ml_Gm_9 : Cond.methodLink "GreatMachine" 9 y_Mc_init ∈ lw_w := mw_ (List.mem_of_getElem? (i := 38) (by decide +kernel)) rfl
theorem ml_Mc_3 : Cond.methodLink "GreatMachine$Machine" 3 ⟨"java/lang/Object", "<init>", "()V"⟩ ∈ lw_w := mw_ (List.mem_of_getElem? (i := 41) (by decide +kernel)) rfl
theorem cl_Mc_9 : Cond.classLink "GreatMachine$Machine" 9 "GreatMachine$Rack" ∈ lw_w := mw_ (List.mem_of_getElem? (i := 42) (by decide +kernel)) rfl
theorem ao_Rk : Cond.arrayOver (.object "GreatMachine$Rack") ∈ lw_tbl := List.mem_of_getElem? (i := 43) (by decide +kernel)
theorem cl_Mc_17 : Cond.classLink "GreatMachine$Machine" 17 "GreatMachine$Account" ∈ lw_w := mw_ (List.mem_of_getElem? (i := 44) (by decide +kernel)) rfl
theorem ao_Ac : Cond.arrayOver (.object "GreatMachine$Account") ∈ lw_tbl := List.mem_of_getElem? (i := 45) (by decide +kernel)
theorem cl_Mc_23 : Cond.classLink "GreatMachine$Machine" 23 "GreatMachine$Job" ∈ lw_w := mw_ (List.mem_of_getElem? (i := 46) (by decide +kernel)) rfl
theorem ao_Jb : Cond.arrayOver (.object "GreatMachine$Job") ∈ lw_tbl := List.mem_of_getElem? (i := 47) (by decide +kernel)
theorem cl_Mc_29 : Cond.classLink "GreatMachine$Machine" 29 "GreatMachine$Hold" ∈ lw_w := mw_ (List.mem_of_getElem? (i := 48) (by decide +kernel)) rfl
theorem ao_Hd : Cond.arrayOver (.object "GreatMachine$Hold") ∈ lw_tbl := List.mem_of_getElem? (i := 49) (by decide +kernel)
theorem ins_Rk : Cond.instantiable "GreatMachine$Rack" 3 ∈ lw_w := mw_ (List.mem_of_getElem? (i := 50) (by decide +kernel)) rfl
theorem mln_Mc_52 : Cond.methodLinkNest "GreatMachine$Machine" 52 y_Rk_init "GreatMachine" ∈ lw_tbl := List.mem_of_getElem? (i := 51) (by decide +kernel)
theorem ml_Rk_1 : Cond.methodLink "GreatMachine$Rack" 1 ⟨"java/lang/Object", "<init>", "()V"⟩ ∈ lw_w := mw_ (List.mem_of_getElem? (i := 54) (by decide +kernel)) rfl
theorem lk_Rk_7 : Cond.fieldLink "GreatMachine$Rack" 7 "GreatMachine$Rack" "nodes" "I" ∈ lw_w := mw_ (List.mem_of_getElem? (i := 55) (by decide +kernel)) rfl
theorem lk_Mc_87 : Cond.fieldLink "GreatMachine$Machine" 87 "GreatMachine$Rack" "nodes" "I" ∈ lw_w := mw_ (List.mem_of_getElem? (i := 56) (by decide +kernel)) rfl
theorem lk_Rk_13 : Cond.fieldLink "GreatMachine$Rack" 13 "GreatMachine$Rack" "unused" "I" ∈ lw_w := mw_ (List.mem_of_getElem? (i := 57) (by decide +kernel)) rfl
theorem lk_Mc_90 : Cond.fieldLink "GreatMachine$Machine" 90 "GreatMachine$Rack" "unused" "I" ∈ lw_w := mw_ (List.mem_of_getElem? (i := 58) (by decide +kernel)) rfl
theorem lk_Gm_139 : Cond.fieldLink "GreatMachine" 139 "GreatMachine$Rack" "unused" "I" ∈ lw_w := mw_ (List.mem_of_getElem? (i := 59) (by decide +kernel)) rfl
theorem lk_Rk_16 : Cond.fieldLink "GreatMachine$Rack" 16 "GreatMachine$Rack" "drained" "Z" ∈ lw_w := mw_ (List.mem_of_getElem? (i := 60) (by decide +kernel)) rfl
theorem lk_Gm_39 : Cond.fieldLink "GreatMachine" 39 "GreatMachine$Rack" "drained" "Z" ∈ lw_w := mw_ (List.mem_of_getElem? (i := 61) (by decide +kernel)) rfl
theorem lk_Mc_102 : Cond.fieldLink "GreatMachine$Machine" 102 "GreatMachine$Rack" "drained" "Z" ∈ lw_w := mw_ (List.mem_of_getElem? (i := 62) (by decide +kernel)) rfl
theorem ac_int : Cond.arrayClass .int ∈ lw_w := mw_ (List.mem_of_getElem? (i := 70) (by decide +kernel)) rfl
theorem ins_Ac : Cond.instantiable "GreatMachine$Account" 2 ∈ lw_w := mw_ (List.mem_of_getElem? (i := 71) (by decide +kernel)) rfl
theorem mln_Mc_53 : Cond.methodLinkNest "GreatMachine$Machine" 53 y_Ac_init "GreatMachine" ∈ lw_tbl := List.mem_of_getElem? (i := 72) (by decide +kernel)
theorem ml_Ac_1 : Cond.methodLink "GreatMachine$Account" 1 ⟨"java/lang/Object", "<init>", "()V"⟩ ∈ lw_w := mw_ (List.mem_of_getElem? (i := 75) (by decide +kernel)) rfl
theorem lk_Ac_7 : Cond.fieldLink "GreatMachine$Account" 7 "GreatMachine$Account" "shares" "I" ∈ lw_w := mw_ (List.mem_of_getElem? (i := 76) (by decide +kernel)) rfl
theorem lk_Mc_96 : Cond.fieldLink "GreatMachine$Machine" 96 "GreatMachine$Account" "shares" "I" ∈ lw_w := mw_ (List.mem_of_getElem? (i := 77) (by decide +kernel)) rfl
theorem lk_Ac_13 : Cond.fieldLink "GreatMachine$Account" 13 "GreatMachine$Account" "use" "I" ∈ lw_w := mw_ (List.mem_of_getElem? (i := 78) (by decide +kernel)) rfl
theorem lk_Gm_146 : Cond.fieldLink "GreatMachine" 146 "GreatMachine$Account" "use" "I" ∈ lw_w := mw_ (List.mem_of_getElem? (i := 79) (by decide +kernel)) rfl
theorem lk_Mc_242 : Cond.fieldLink "GreatMachine$Machine" 242 "GreatMachine$Account" "use" "I" ∈ lw_w := mw_ (List.mem_of_getElem? (i := 80) (by decide +kernel)) rfl
theorem ins_Jb : Cond.instantiable "GreatMachine$Job" 14 ∈ lw_w := mw_ (List.mem_of_getElem? (i := 86) (by decide +kernel)) rfl
theorem mln_Mc_54 : Cond.methodLinkNest "GreatMachine$Machine" 54 y_Jb_init "GreatMachine" ∈ lw_tbl := List.mem_of_getElem? (i := 87) (by decide +kernel)
theorem ml_Jb_3 : Cond.methodLink "GreatMachine$Job" 3 ⟨"java/lang/Object", "<init>", "()V"⟩ ∈ lw_w := mw_ (List.mem_of_getElem? (i := 90) (by decide +kernel)) rfl
theorem lk_Jb_15 : Cond.fieldLink "GreatMachine$Job" 15 "GreatMachine$Job" "account" "I" ∈ lw_w := mw_ (List.mem_of_getElem? (i := 91) (by decide +kernel)) rfl
theorem lk_Mc_190 : Cond.fieldLink "GreatMachine$Machine" 190 "GreatMachine$Job" "account" "I" ∈ lw_w := mw_ (List.mem_of_getElem? (i := 92) (by decide +kernel)) rfl
theorem lk_Jb_19 : Cond.fieldLink "GreatMachine$Job" 19 "GreatMachine$Job" "nodes" "I" ∈ lw_w := mw_ (List.mem_of_getElem? (i := 93) (by decide +kernel)) rfl
theorem lk_Mc_152 : Cond.fieldLink "GreatMachine$Machine" 152 "GreatMachine$Job" "nodes" "I" ∈ lw_w := mw_ (List.mem_of_getElem? (i := 94) (by decide +kernel)) rfl
theorem lk_Jb_22 : Cond.fieldLink "GreatMachine$Job" 22 "GreatMachine$Job" "licences" "I" ∈ lw_w := mw_ (List.mem_of_getElem? (i := 95) (by decide +kernel)) rfl
theorem lk_Mc_133 : Cond.fieldLink "GreatMachine$Machine" 133 "GreatMachine$Job" "licences" "I" ∈ lw_w := mw_ (List.mem_of_getElem? (i := 96) (by decide +kernel)) rfl
theorem lk_Jb_25 : Cond.fieldLink "GreatMachine$Job" 25 "GreatMachine$Job" "limit" "I" ∈ lw_w := mw_ (List.mem_of_getElem? (i := 97) (by decide +kernel)) rfl
theorem lk_Jb_28 : Cond.fieldLink "GreatMachine$Job" 28 "GreatMachine$Job" "truly" "I" ∈ lw_w := mw_ (List.mem_of_getElem? (i := 98) (by decide +kernel)) rfl
theorem lk_Mc_245 : Cond.fieldLink "GreatMachine$Machine" 245 "GreatMachine$Job" "truly" "I" ∈ lw_w := mw_ (List.mem_of_getElem? (i := 99) (by decide +kernel)) rfl
theorem lk_Jb_31 : Cond.fieldLink "GreatMachine$Job" 31 "GreatMachine$Job" "save" "I" ∈ lw_w := mw_ (List.mem_of_getElem? (i := 100) (by decide +kernel)) rfl
theorem lk_Jb_34 : Cond.fieldLink "GreatMachine$Job" 34 "GreatMachine$Job" "ahead" "I" ∈ lw_w := mw_ (List.mem_of_getElem? (i := 101) (by decide +kernel)) rfl
theorem lk_Gm_85 : Cond.fieldLink "GreatMachine" 85 "GreatMachine$Job" "ahead" "I" ∈ lw_w := mw_ (List.mem_of_getElem? (i := 102) (by decide +kernel)) rfl
theorem lk_Mc_183 : Cond.fieldLink "GreatMachine$Machine" 183 "GreatMachine$Job" "ahead" "I" ∈ lw_w := mw_ (List.mem_of_getElem? (i := 103) (by decide +kernel)) rfl
theorem lk_Jb_37 : Cond.fieldLink "GreatMachine$Job" 37 "GreatMachine$Job" "state" "I" ∈ lw_w := mw_ (List.mem_of_getElem? (i := 104) (by decide +kernel)) rfl
theorem lk_Mc_99 : Cond.fieldLink "GreatMachine$Machine" 99 "GreatMachine$Job" "state" "I" ∈ lw_w := mw_ (List.mem_of_getElem? (i := 105) (by decide +kernel)) rfl
theorem lk_Gm_82 : Cond.fieldLink "GreatMachine" 82 "GreatMachine$Job" "state" "I" ∈ lw_w := mw_ (List.mem_of_getElem? (i := 106) (by decide +kernel)) rfl
theorem lk_Jb_40 : Cond.fieldLink "GreatMachine$Job" 40 "GreatMachine$Job" "begun" "I" ∈ lw_w := mw_ (List.mem_of_getElem? (i := 107) (by decide +kernel)) rfl
theorem lk_Gm_119 : Cond.fieldLink "GreatMachine" 119 "GreatMachine$Job" "begun" "I" ∈ lw_w := mw_ (List.mem_of_getElem? (i := 108) (by decide +kernel)) rfl
theorem lk_Mc_227 : Cond.fieldLink "GreatMachine$Machine" 227 "GreatMachine$Job" "begun" "I" ∈ lw_w := mw_ (List.mem_of_getElem? (i := 109) (by decide +kernel)) rfl
theorem lk_Jb_43 : Cond.fieldLink "GreatMachine$Job" 43 "GreatMachine$Job" "ended" "I" ∈ lw_w := mw_ (List.mem_of_getElem? (i := 110) (by decide +kernel)) rfl
theorem lk_Gm_122 : Cond.fieldLink "GreatMachine" 122 "GreatMachine$Job" "ended" "I" ∈ lw_w := mw_ (List.mem_of_getElem? (i := 111) (by decide +kernel)) rfl
theorem lk_Mc_254 : Cond.fieldLink "GreatMachine$Machine" 254 "GreatMachine$Job" "ended" "I" ∈ lw_w := mw_ (List.mem_of_getElem? (i := 112) (by decide +kernel)) rfl
theorem lk_Jb_46 : Cond.fieldLink "GreatMachine$Job" 46 "GreatMachine$Job" "saved" "I" ∈ lw_w := mw_ (List.mem_of_getElem? (i := 113) (by decide +kernel)) rfl
theorem lk_Gm_125 : Cond.fieldLink "GreatMachine" 125 "GreatMachine$Job" "saved" "I" ∈ lw_w := mw_ (List.mem_of_getElem? (i := 114) (by decide +kernel)) rfl
theorem lk_Mc_248 : Cond.fieldLink "GreatMachine$Machine" 248 "GreatMachine$Job" "saved" "I" ∈ lw_w := mw_ (List.mem_of_getElem? (i := 115) (by decide +kernel)) rfl
theorem lk_Jb_49 : Cond.fieldLink "GreatMachine$Job" 49 "GreatMachine$Job" "counted" "I" ∈ lw_w := mw_ (List.mem_of_getElem? (i := 116) (by decide +kernel)) rfl
theorem lk_Mc_110 : Cond.fieldLink "GreatMachine$Machine" 110 "GreatMachine$Job" "counted" "I" ∈ lw_w := mw_ (List.mem_of_getElem? (i := 117) (by decide +kernel)) rfl
theorem lk_Jb_52 : Cond.fieldLink "GreatMachine$Job" 52 "GreatMachine$Job" "takesUntil" "I" ∈ lw_w := mw_ (List.mem_of_getElem? (i := 118) (by decide +kernel)) rfl
theorem lk_Mc_123 : Cond.fieldLink "GreatMachine$Machine" 123 "GreatMachine$Job" "takesUntil" "I" ∈ lw_w := mw_ (List.mem_of_getElem? (i := 119) (by decide +kernel)) rfl
theorem lk_Jb_9 : Cond.fieldLink "GreatMachine$Job" 9 "GreatMachine$Job" "nodesOn" "[I" ∈ lw_w := mw_ (List.mem_of_getElem? (i := 120) (by decide +kernel)) rfl
theorem lk_Mc_113 : Cond.fieldLink "GreatMachine$Machine" 113 "GreatMachine$Job" "nodesOn" "[I" ∈ lw_w := mw_ (List.mem_of_getElem? (i := 121) (by decide +kernel)) rfl
theorem lk_Gm_135 : Cond.fieldLink "GreatMachine" 135 "GreatMachine$Job" "nodesOn" "[I" ∈ lw_w := mw_ (List.mem_of_getElem? (i := 122) (by decide +kernel)) rfl
theorem ins_Hd : Cond.instantiable "GreatMachine$Hold" 4 ∈ lw_w := mw_ (List.mem_of_getElem? (i := 152) (by decide +kernel)) rfl
theorem mln_Mc_55 : Cond.methodLinkNest "GreatMachine$Machine" 55 y_Hd_init "GreatMachine" ∈ lw_tbl := List.mem_of_getElem? (i := 153) (by decide +kernel)
theorem ml_Hd_1 : Cond.methodLink "GreatMachine$Hold" 1 ⟨"java/lang/Object", "<init>", "()V"⟩ ∈ lw_w := mw_ (List.mem_of_getElem? (i := 156) (by decide +kernel)) rfl
theorem lk_Hd_7 : Cond.fieldLink "GreatMachine$Hold" 7 "GreatMachine$Hold" "nodes" "I" ∈ lw_w := mw_ (List.mem_of_getElem? (i := 157) (by decide +kernel)) rfl
theorem lk_Mc_132 : Cond.fieldLink "GreatMachine$Machine" 132 "GreatMachine$Hold" "nodes" "I" ∈ lw_w := mw_ (List.mem_of_getElem? (i := 158) (by decide +kernel)) rfl
theorem lk_Hd_13 : Cond.fieldLink "GreatMachine$Hold" 13 "GreatMachine$Hold" "licences" "I" ∈ lw_w := mw_ (List.mem_of_getElem? (i := 159) (by decide +kernel)) rfl
theorem lk_Mc_136 : Cond.fieldLink "GreatMachine$Machine" 136 "GreatMachine$Hold" "licences" "I" ∈ lw_w := mw_ (List.mem_of_getElem? (i := 160) (by decide +kernel)) rfl
theorem lk_Hd_16 : Cond.fieldLink "GreatMachine$Hold" 16 "GreatMachine$Hold" "from" "I" ∈ lw_w := mw_ (List.mem_of_getElem? (i := 161) (by decide +kernel)) rfl
theorem lk_Mc_126 : Cond.fieldLink "GreatMachine$Machine" 126 "GreatMachine$Hold" "from" "I" ∈ lw_w := mw_ (List.mem_of_getElem? (i := 162) (by decide +kernel)) rfl
theorem lk_Hd_19 : Cond.fieldLink "GreatMachine$Hold" 19 "GreatMachine$Hold" "to" "I" ∈ lw_w := mw_ (List.mem_of_getElem? (i := 163) (by decide +kernel)) rfl
theorem lk_Mc_129 : Cond.fieldLink "GreatMachine$Machine" 129 "GreatMachine$Hold" "to" "I" ∈ lw_w := mw_ (List.mem_of_getElem? (i := 164) (by decide +kernel)) rfl
theorem lk_Mc_11 : Cond.fieldLink "GreatMachine$Machine" 11 "GreatMachine$Machine" "racks" "[LGreatMachine$Rack;" ∈ lw_w := mw_ (List.mem_of_getElem? (i := 174) (by decide +kernel)) rfl
theorem lk_Gm_35 : Cond.fieldLink "GreatMachine" 35 "GreatMachine$Machine" "racks" "[LGreatMachine$Rack;" ∈ lw_w := mw_ (List.mem_of_getElem? (i := 175) (by decide +kernel)) rfl
theorem lk_Mc_19 : Cond.fieldLink "GreatMachine$Machine" 19 "GreatMachine$Machine" "accounts" "[LGreatMachine$Account;" ∈ lw_w := mw_ (List.mem_of_getElem? (i := 176) (by decide +kernel)) rfl
theorem lk_Gm_142 : Cond.fieldLink "GreatMachine" 142 "GreatMachine$Machine" "accounts" "[LGreatMachine$Account;" ∈ lw_w := mw_ (List.mem_of_getElem? (i := 177) (by decide +kernel)) rfl
theorem lk_Mc_25 : Cond.fieldLink "GreatMachine$Machine" 25 "GreatMachine$Machine" "jobs" "[LGreatMachine$Job;" ∈ lw_w := mw_ (List.mem_of_getElem? (i := 178) (by decide +kernel)) rfl
theorem lk_Gm_69 : Cond.fieldLink "GreatMachine" 69 "GreatMachine$Machine" "jobs" "[LGreatMachine$Job;" ∈ lw_w := mw_ (List.mem_of_getElem? (i := 179) (by decide +kernel)) rfl
theorem lk_Mc_31 : Cond.fieldLink "GreatMachine$Machine" 31 "GreatMachine$Machine" "holds" "[LGreatMachine$Hold;" ∈ lw_w := mw_ (List.mem_of_getElem? (i := 180) (by decide +kernel)) rfl
theorem lk_Gm_101 : Cond.fieldLink "GreatMachine" 101 "GreatMachine$Machine" "holds" "[LGreatMachine$Hold;" ∈ lw_w := mw_ (List.mem_of_getElem? (i := 181) (by decide +kernel)) rfl
theorem lk_Mc_56 : Cond.fieldLink "GreatMachine$Machine" 56 "GreatMachine$Machine" "rackCount" "I" ∈ lw_w := mw_ (List.mem_of_getElem? (i := 182) (by decide +kernel)) rfl
theorem lk_Gm_23 : Cond.fieldLink "GreatMachine" 23 "GreatMachine$Machine" "rackCount" "I" ∈ lw_w := mw_ (List.mem_of_getElem? (i := 183) (by decide +kernel)) rfl
theorem lk_Mc_59 : Cond.fieldLink "GreatMachine$Machine" 59 "GreatMachine$Machine" "accountCount" "I" ∈ lw_w := mw_ (List.mem_of_getElem? (i := 184) (by decide +kernel)) rfl
theorem lk_Gm_57 : Cond.fieldLink "GreatMachine" 57 "GreatMachine$Machine" "accountCount" "I" ∈ lw_w := mw_ (List.mem_of_getElem? (i := 185) (by decide +kernel)) rfl
theorem lk_Mc_62 : Cond.fieldLink "GreatMachine$Machine" 62 "GreatMachine$Machine" "jobCount" "I" ∈ lw_w := mw_ (List.mem_of_getElem? (i := 186) (by decide +kernel)) rfl
theorem lk_Gm_66 : Cond.fieldLink "GreatMachine" 66 "GreatMachine$Machine" "jobCount" "I" ∈ lw_w := mw_ (List.mem_of_getElem? (i := 187) (by decide +kernel)) rfl
theorem lk_Mc_65 : Cond.fieldLink "GreatMachine$Machine" 65 "GreatMachine$Machine" "holdCount" "I" ∈ lw_w := mw_ (List.mem_of_getElem? (i := 188) (by decide +kernel)) rfl
theorem lk_Gm_98 : Cond.fieldLink "GreatMachine" 98 "GreatMachine$Machine" "holdCount" "I" ∈ lw_w := mw_ (List.mem_of_getElem? (i := 189) (by decide +kernel)) rfl
theorem lk_Mc_68 : Cond.fieldLink "GreatMachine$Machine" 68 "GreatMachine$Machine" "now" "I" ∈ lw_w := mw_ (List.mem_of_getElem? (i := 190) (by decide +kernel)) rfl
theorem lk_Gm_92 : Cond.fieldLink "GreatMachine" 92 "GreatMachine$Machine" "now" "I" ∈ lw_w := mw_ (List.mem_of_getElem? (i := 191) (by decide +kernel)) rfl
theorem lk_Mc_35 : Cond.fieldLink "GreatMachine$Machine" 35 "GreatMachine$Machine" "halving" "I" ∈ lw_w := mw_ (List.mem_of_getElem? (i := 192) (by decide +kernel)) rfl
theorem lk_Gm_54 : Cond.fieldLink "GreatMachine" 54 "GreatMachine$Machine" "halving" "I" ∈ lw_w := mw_ (List.mem_of_getElem? (i := 193) (by decide +kernel)) rfl
theorem lk_Mc_39 : Cond.fieldLink "GreatMachine$Machine" 39 "GreatMachine$Machine" "licencesInAll" "I" ∈ lw_w := mw_ (List.mem_of_getElem? (i := 194) (by decide +kernel)) rfl
theorem lk_Gm_51 : Cond.fieldLink "GreatMachine" 51 "GreatMachine$Machine" "licencesInAll" "I" ∈ lw_w := mw_ (List.mem_of_getElem? (i := 195) (by decide +kernel)) rfl
theorem lk_Mc_71 : Cond.fieldLink "GreatMachine$Machine" 71 "GreatMachine$Machine" "room" "I" ∈ lw_w := mw_ (List.mem_of_getElem? (i := 196) (by decide +kernel)) rfl
theorem lk_Gm_170 : Cond.fieldLink "GreatMachine" 170 "GreatMachine$Machine" "room" "I" ∈ lw_w := mw_ (List.mem_of_getElem? (i := 197) (by decide +kernel)) rfl
theorem lk_Mc_42 : Cond.fieldLink "GreatMachine$Machine" 42 "GreatMachine$Machine" "blockedJob" "I" ∈ lw_w := mw_ (List.mem_of_getElem? (i := 198) (by decide +kernel)) rfl
theorem lk_Gm_151 : Cond.fieldLink "GreatMachine" 151 "GreatMachine$Machine" "blockedJob" "I" ∈ lw_w := mw_ (List.mem_of_getElem? (i := 199) (by decide +kernel)) rfl
theorem lk_Mc_45 : Cond.fieldLink "GreatMachine$Machine" 45 "GreatMachine$Machine" "keptFrom" "I" ∈ lw_w := mw_ (List.mem_of_getElem? (i := 200) (by decide +kernel)) rfl
theorem lk_Gm_154 : Cond.fieldLink "GreatMachine" 154 "GreatMachine$Machine" "keptFrom" "I" ∈ lw_w := mw_ (List.mem_of_getElem? (i := 201) (by decide +kernel)) rfl
theorem lk_Mc_48 : Cond.fieldLink "GreatMachine$Machine" 48 "GreatMachine$Machine" "queue" "[I" ∈ lw_w := mw_ (List.mem_of_getElem? (i := 202) (by decide +kernel)) rfl
theorem lk_Mc_173 : Cond.fieldLink "GreatMachine$Machine" 173 "GreatMachine$Machine" "queueLength" "I" ∈ lw_w := mw_ (List.mem_of_getElem? (i := 203) (by decide +kernel)) rfl
theorem lk_Gm_10 : Cond.fieldLink "GreatMachine" 10 "GreatMachine" "machine" "LGreatMachine$Machine;" ∈ lw_w := mw_ (List.mem_of_getElem? (i := 237) (by decide +kernel)) rfl
theorem lk_Gm_16 : Cond.fieldLink "GreatMachine" 16 "GreatMachine" "foresight" "LGreatMachine$Machine;" ∈ lw_w := mw_ (List.mem_of_getElem? (i := 238) (by decide +kernel)) rfl
theorem ml_La_13 : Cond.methodLink "GreatMachineLaw" 13 y_Gm_rack ∈ lw_w := mw_ (List.mem_of_getElem? (i := 244) (by decide +kernel)) rfl
theorem ml_Gm_19 : Cond.methodLink "GreatMachine" 19 y_Gm_isOutside ∈ lw_w := mw_ (List.mem_of_getElem? (i := 248) (by decide +kernel)) rfl
theorem ml_Gm_27 : Cond.methodLink "GreatMachine" 27 y_Mc_addRack ∈ lw_w := mw_ (List.mem_of_getElem? (i := 251) (by decide +kernel)) rfl
theorem ml_Mc_93 : Cond.methodLink "GreatMachine$Machine" 93 y_Mc_recount ∈ lw_w := mw_ (List.mem_of_getElem? (i := 255) (by decide +kernel)) rfl
theorem ml_Mc_106 : Cond.methodLink "GreatMachine$Machine" 106 y_Mc_countedOf ∈ lw_w := mw_ (List.mem_of_getElem? (i := 259) (by decide +kernel)) rfl
theorem ml_La_18 : Cond.methodLink "GreatMachineLaw" 18 y_Gm_drain ∈ lw_w := mw_ (List.mem_of_getElem? (i := 263) (by decide +kernel)) rfl
theorem ml_Gm_31 : Cond.methodLink "GreatMachine" 31 y_Mc_hasRack ∈ lw_w := mw_ (List.mem_of_getElem? (i := 267) (by decide +kernel)) rfl
theorem ml_Gm_45 : Cond.methodLink "GreatMachine" 45 y_Mc_recount ∈ lw_w := mw_ (List.mem_of_getElem? (i := 271) (by decide +kernel)) rfl
theorem ml_La_23 : Cond.methodLink "GreatMachineLaw" 23 y_Gm_fail ∈ lw_w := mw_ (List.mem_of_getElem? (i := 272) (by decide +kernel)) rfl
theorem ml_Gm_48 : Cond.methodLink "GreatMachine" 48 y_Mc_breakRack ∈ lw_w := mw_ (List.mem_of_getElem? (i := 276) (by decide +kernel)) rfl
theorem ml_Mc_116 : Cond.methodLink "GreatMachine$Machine" 116 y_Jb_keepWhatWasSaved ∈ lw_w := mw_ (List.mem_of_getElem? (i := 280) (by decide +kernel)) rfl
theorem ml_Jb_61 : Cond.methodLink "GreatMachine$Job" 61 y_Jb_ranUntil ∈ lw_w := mw_ (List.mem_of_getElem? (i := 284) (by decide +kernel)) rfl
theorem ml_Mc_120 : Cond.methodLink "GreatMachine$Machine" 120 y_Mc_leaveNodes ∈ lw_w := mw_ (List.mem_of_getElem? (i := 288) (by decide +kernel)) rfl
theorem ml_La_27 : Cond.methodLink "GreatMachineLaw" 27 y_Gm_licences ∈ lw_w := mw_ (List.mem_of_getElem? (i := 292) (by decide +kernel)) rfl
theorem ml_La_31 : Cond.methodLink "GreatMachineLaw" 31 y_Gm_half ∈ lw_w := mw_ (List.mem_of_getElem? (i := 296) (by decide +kernel)) rfl
theorem ml_La_35 : Cond.methodLink "GreatMachineLaw" 35 y_Gm_account ∈ lw_w := mw_ (List.mem_of_getElem? (i := 300) (by decide +kernel)) rfl
theorem ml_Gm_60 : Cond.methodLink "GreatMachine" 60 y_Mc_addAccount ∈ lw_w := mw_ (List.mem_of_getElem? (i := 304) (by decide +kernel)) rfl
theorem ml_La_39 : Cond.methodLink "GreatMachineLaw" 39 y_Gm_job ∈ lw_w := mw_ (List.mem_of_getElem? (i := 308) (by decide +kernel)) rfl
theorem ml_Gm_63 : Cond.methodLink "GreatMachine" 63 y_Mc_hasAccount ∈ lw_w := mw_ (List.mem_of_getElem? (i := 312) (by decide +kernel)) rfl
theorem ml_Gm_73 : Cond.methodLink "GreatMachine" 73 y_Jb_want ∈ lw_w := mw_ (List.mem_of_getElem? (i := 316) (by decide +kernel)) rfl
theorem ml_La_44 : Cond.methodLink "GreatMachineLaw" 44 y_Gm_behind ∈ lw_w := mw_ (List.mem_of_getElem? (i := 320) (by decide +kernel)) rfl
theorem ml_Gm_79 : Cond.methodLink "GreatMachine" 79 y_Mc_hasJob ∈ lw_w := mw_ (List.mem_of_getElem? (i := 324) (by decide +kernel)) rfl
theorem ml_La_49 : Cond.methodLink "GreatMachineLaw" 49 y_Gm_cancel ∈ lw_w := mw_ (List.mem_of_getElem? (i := 328) (by decide +kernel)) rfl
theorem ml_Gm_88 : Cond.methodLink "GreatMachine" 88 y_Mc_leaveNodes ∈ lw_w := mw_ (List.mem_of_getElem? (i := 332) (by decide +kernel)) rfl
theorem ml_La_53 : Cond.methodLink "GreatMachineLaw" 53 y_Gm_book ∈ lw_w := mw_ (List.mem_of_getElem? (i := 333) (by decide +kernel)) rfl
theorem ml_Gm_95 : Cond.methodLink "GreatMachine" 95 y_Mc_nodesFit ∈ lw_w := mw_ (List.mem_of_getElem? (i := 337) (by decide +kernel)) rfl
theorem ml_Mc_137 : Cond.methodLink "GreatMachine$Machine" 137 y_Mc_nodesTaken ∈ lw_w := mw_ (List.mem_of_getElem? (i := 341) (by decide +kernel)) rfl
theorem ml_Mc_141 : Cond.methodLink "GreatMachine$Machine" 141 y_Hd_beginsWithin ∈ lw_w := mw_ (List.mem_of_getElem? (i := 345) (by decide +kernel)) rfl
theorem ml_Gm_105 : Cond.methodLink "GreatMachine" 105 y_Hd_set ∈ lw_w := mw_ (List.mem_of_getElem? (i := 349) (by decide +kernel)) rfl
theorem ml_La_58 : Cond.methodLink "GreatMachineLaw" 58 y_Gm_unbook ∈ lw_w := mw_ (List.mem_of_getElem? (i := 353) (by decide +kernel)) rfl
theorem ml_Gm_111 : Cond.methodLink "GreatMachine" 111 y_Mc_dropBooking ∈ lw_w := mw_ (List.mem_of_getElem? (i := 357) (by decide +kernel)) rfl
theorem ml_Mc_84 : Cond.methodLink "GreatMachine$Machine" 84 y_Hd_become ∈ lw_w := mw_ (List.mem_of_getElem? (i := 361) (by decide +kernel)) rfl
theorem ml_Hd_22 : Cond.methodLink "GreatMachine$Hold" 22 y_Hd_set ∈ lw_w := mw_ (List.mem_of_getElem? (i := 365) (by decide +kernel)) rfl
theorem ml_La_62 : Cond.methodLink "GreatMachineLaw" 62 y_Gm_ticks ∈ lw_w := mw_ (List.mem_of_getElem? (i := 366) (by decide +kernel)) rfl
theorem ml_Gm_115 : Cond.methodLink "GreatMachine" 115 y_Mc_passTick ∈ lw_w := mw_ (List.mem_of_getElem? (i := 370) (by decide +kernel)) rfl
theorem ml_Mc_160 : Cond.methodLink "GreatMachine$Machine" 160 y_Mc_lineUp ∈ lw_w := mw_ (List.mem_of_getElem? (i := 374) (by decide +kernel)) rfl
theorem ml_Mc_176 : Cond.methodLink "GreatMachine$Machine" 176 y_Mc_mayBegin ∈ lw_w := mw_ (List.mem_of_getElem? (i := 378) (by decide +kernel)) rfl
theorem ml_Mc_186 : Cond.methodLink "GreatMachine$Machine" 186 y_Mc_hasJob ∈ lw_w := mw_ (List.mem_of_getElem? (i := 382) (by decide +kernel)) rfl
theorem ml_Mc_180 : Cond.methodLink "GreatMachine$Machine" 180 y_Mc_putInQueue ∈ lw_w := mw_ (List.mem_of_getElem? (i := 383) (by decide +kernel)) rfl
theorem ml_Mc_193 : Cond.methodLink "GreatMachine$Machine" 193 y_Ac_usedLessThan ∈ lw_w := mw_ (List.mem_of_getElem? (i := 387) (by decide +kernel)) rfl
theorem ml_Mc_163 : Cond.methodLink "GreatMachine$Machine" 163 y_Mc_serveQueue ∈ lw_w := mw_ (List.mem_of_getElem? (i := 391) (by decide +kernel)) rfl
theorem ml_Mc_197 : Cond.methodLink "GreatMachine$Machine" 197 y_Mc_fits ∈ lw_w := mw_ (List.mem_of_getElem? (i := 395) (by decide +kernel)) rfl
theorem ml_Mc_148 : Cond.methodLink "GreatMachine$Machine" 148 y_Jb_left ∈ lw_w := mw_ (List.mem_of_getElem? (i := 399) (by decide +kernel)) rfl
theorem ml_Mc_153 : Cond.methodLink "GreatMachine$Machine" 153 y_Mc_nodesFit ∈ lw_w := mw_ (List.mem_of_getElem? (i := 403) (by decide +kernel)) rfl
theorem ml_Mc_157 : Cond.methodLink "GreatMachine$Machine" 157 y_Mc_licencesFit ∈ lw_w := mw_ (List.mem_of_getElem? (i := 404) (by decide +kernel)) rfl
theorem ml_Mc_145 : Cond.methodLink "GreatMachine$Machine" 145 y_Mc_licencesTaken ∈ lw_w := mw_ (List.mem_of_getElem? (i := 408) (by decide +kernel)) rfl
theorem ml_Mc_201 : Cond.methodLink "GreatMachine$Machine" 201 y_Mc_begin ∈ lw_w := mw_ (List.mem_of_getElem? (i := 412) (by decide +kernel)) rfl
theorem ml_Mc_224 : Cond.methodLink "GreatMachine$Machine" 224 y_Mc_fewestRacks ∈ lw_w := mw_ (List.mem_of_getElem? (i := 416) (by decide +kernel)) rfl
theorem ml_Mc_230 : Cond.methodLink "GreatMachine$Machine" 230 y_In_bitCount ∈ lw_w := mw_ (List.mem_of_getElem? (i := 420) (by decide +kernel)) rfl
theorem kc_In_265 : Cond.constant "java/lang/Integer" 265 1431655765 ∈ lw_w := mw_ (List.mem_of_getElem? (i := 423) (by decide +kernel)) rfl
theorem kc_In_266 : Cond.constant "java/lang/Integer" 266 858993459 ∈ lw_w := mw_ (List.mem_of_getElem? (i := 424) (by decide +kernel)) rfl
theorem kc_In_267 : Cond.constant "java/lang/Integer" 267 252645135 ∈ lw_w := mw_ (List.mem_of_getElem? (i := 425) (by decide +kernel)) rfl
theorem ml_Mc_235 : Cond.methodLink "GreatMachine$Machine" 235 y_Mc_unusedOn ∈ lw_w := mw_ (List.mem_of_getElem? (i := 426) (by decide +kernel)) rfl
theorem ml_Mc_218 : Cond.methodLink "GreatMachine$Machine" 218 ⟨"java/lang/Math", "min", "(II)I"⟩ ∈ lw_w := mw_ (List.mem_of_getElem? (i := 430) (by decide +kernel)) rfl
theorem ml_Mc_204 : Cond.methodLink "GreatMachine$Machine" 204 y_Mc_firstFit ∈ lw_w := mw_ (List.mem_of_getElem? (i := 433) (by decide +kernel)) rfl
theorem ml_Mc_211 : Cond.methodLink "GreatMachine$Machine" 211 y_Mc_nextEnd ∈ lw_w := mw_ (List.mem_of_getElem? (i := 437) (by decide +kernel)) rfl
theorem ml_Mc_214 : Cond.methodLink "GreatMachine$Machine" 214 y_Mc_nearer ∈ lw_w := mw_ (List.mem_of_getElem? (i := 441) (by decide +kernel)) rfl
theorem ml_Mc_207 : Cond.methodLink "GreatMachine$Machine" 207 y_Hd_set ∈ lw_w := mw_ (List.mem_of_getElem? (i := 444) (by decide +kernel)) rfl
theorem ml_Mc_166 : Cond.methodLink "GreatMachine$Machine" 166 y_Mc_runJobs ∈ lw_w := mw_ (List.mem_of_getElem? (i := 445) (by decide +kernel)) rfl
theorem ml_Mc_238 : Cond.methodLink "GreatMachine$Machine" 238 y_Mc_runOne ∈ lw_w := mw_ (List.mem_of_getElem? (i := 449) (by decide +kernel)) rfl
theorem ml_Mc_251 : Cond.methodLink "GreatMachine$Machine" 251 y_Jb_ranUntil ∈ lw_w := mw_ (List.mem_of_getElem? (i := 453) (by decide +kernel)) rfl
theorem ml_Mc_170 : Cond.methodLink "GreatMachine$Machine" 170 y_Mc_halveUse ∈ lw_w := mw_ (List.mem_of_getElem? (i := 454) (by decide +kernel)) rfl
theorem ml_La_66 : Cond.methodLink "GreatMachineLaw" 66 y_Gm_told ∈ lw_w := mw_ (List.mem_of_getElem? (i := 458) (by decide +kernel)) rfl
theorem ml_Gm_128 : Cond.methodLink "GreatMachine" 128 y_Jb_ranUntil ∈ lw_w := mw_ (List.mem_of_getElem? (i := 462) (by decide +kernel)) rfl
theorem ml_Gm_131 : Cond.methodLink "GreatMachine" 131 y_Jb_racksHeld ∈ lw_w := mw_ (List.mem_of_getElem? (i := 463) (by decide +kernel)) rfl
theorem ml_La_70 : Cond.methodLink "GreatMachineLaw" 70 y_Gm_on ∈ lw_w := mw_ (List.mem_of_getElem? (i := 467) (by decide +kernel)) rfl
theorem ml_La_74 : Cond.methodLink "GreatMachineLaw" 74 y_Gm_free ∈ lw_w := mw_ (List.mem_of_getElem? (i := 471) (by decide +kernel)) rfl
theorem ml_La_78 : Cond.methodLink "GreatMachineLaw" 78 y_Gm_used ∈ lw_w := mw_ (List.mem_of_getElem? (i := 475) (by decide +kernel)) rfl
theorem ml_La_82 : Cond.methodLink "GreatMachineLaw" 82 y_Gm_blocked ∈ lw_w := mw_ (List.mem_of_getElem? (i := 479) (by decide +kernel)) rfl
theorem ml_La_86 : Cond.methodLink "GreatMachineLaw" 86 y_Gm_taken ∈ lw_w := mw_ (List.mem_of_getElem? (i := 483) (by decide +kernel)) rfl
theorem ml_Gm_157 : Cond.methodLink "GreatMachine" 157 y_Mc_nodesTaken ∈ lw_w := mw_ (List.mem_of_getElem? (i := 487) (by decide +kernel)) rfl
theorem ml_Gm_160 : Cond.methodLink "GreatMachine" 160 y_Mc_licencesTaken ∈ lw_w := mw_ (List.mem_of_getElem? (i := 488) (by decide +kernel)) rfl
theorem ml_La_90 : Cond.methodLink "GreatMachineLaw" 90 y_Gm_foreseen ∈ lw_w := mw_ (List.mem_of_getElem? (i := 489) (by decide +kernel)) rfl
theorem ml_Gm_163 : Cond.methodLink "GreatMachine" 163 y_Mc_become ∈ lw_w := mw_ (List.mem_of_getElem? (i := 493) (by decide +kernel)) rfl
theorem ml_Mc_74 : Cond.methodLink "GreatMachine$Machine" 74 y_Rk_become ∈ lw_w := mw_ (List.mem_of_getElem? (i := 497) (by decide +kernel)) rfl
theorem ml_Mc_78 : Cond.methodLink "GreatMachine$Machine" 78 y_Ac_become ∈ lw_w := mw_ (List.mem_of_getElem? (i := 501) (by decide +kernel)) rfl
theorem ml_Mc_81 : Cond.methodLink "GreatMachine$Machine" 81 y_Jb_become ∈ lw_w := mw_ (List.mem_of_getElem? (i := 505) (by decide +kernel)) rfl
theorem ml_Jb_55 : Cond.methodLink "GreatMachine$Job" 55 ⟨"java/lang/System", "arraycopy", "(Ljava/lang/Object;ILjava/lang/Object;II)V"⟩ ∈ lw_w := mw_ (List.mem_of_getElem? (i := 509) (by decide +kernel)) rfl
theorem ml_La_94 : Cond.methodLink "GreatMachineLaw" 94 y_Gm_count ∈ lw_w := mw_ (List.mem_of_getElem? (i := 512) (by decide +kernel)) rfl
theorem ml_Gm_167 : Cond.methodLink "GreatMachine" 167 y_Mc_jobsThatAre ∈ lw_w := mw_ (List.mem_of_getElem? (i := 516) (by decide +kernel)) rfl
theorem cl_La_10 : Cond.classLink "GreatMachineLaw" 10 "GreatMachineModel" ∈ lw_w := mw_ (List.mem_of_getElem? (i := 520) (by decide +kernel)) rfl
theorem ins_Md : Cond.instantiable "GreatMachineModel" 44 ∈ lw_w := mw_ (List.mem_of_getElem? (i := 521) (by decide +kernel)) rfl
theorem ml_La_12 : Cond.methodLink "GreatMachineLaw" 12 y_Md_init ∈ lw_w := mw_ (List.mem_of_getElem? (i := 522) (by decide +kernel)) rfl
theorem ml_Md_1 : Cond.methodLink "GreatMachineModel" 1 ⟨"java/lang/Object", "<init>", "()V"⟩ ∈ lw_w := mw_ (List.mem_of_getElem? (i := 525) (by decide +kernel)) rfl
theorem lk_Md_148 : Cond.fieldLink "GreatMachineModel" 148 "GreatMachineModel" "time" "I" ∈ lw_w := mw_ (List.mem_of_getElem? (i := 526) (by decide +kernel)) rfl
theorem lk_Md_7 : Cond.fieldLink "GreatMachineModel" 7 "GreatMachineModel" "half" "I" ∈ lw_w := mw_ (List.mem_of_getElem? (i := 527) (by decide +kernel)) rfl
theorem lk_Md_13 : Cond.fieldLink "GreatMachineModel" 13 "GreatMachineModel" "allLicences" "I" ∈ lw_w := mw_ (List.mem_of_getElem? (i := 528) (by decide +kernel)) rfl
theorem lk_Md_117 : Cond.fieldLink "GreatMachineModel" 117 "GreatMachineModel" "racks" "I" ∈ lw_w := mw_ (List.mem_of_getElem? (i := 529) (by decide +kernel)) rfl
theorem lk_Md_16 : Cond.fieldLink "GreatMachineModel" 16 "GreatMachineModel" "nodes" "[I" ∈ lw_w := mw_ (List.mem_of_getElem? (i := 530) (by decide +kernel)) rfl
theorem lk_Md_20 : Cond.fieldLink "GreatMachineModel" 20 "GreatMachineModel" "isDrained" "[Z" ∈ lw_w := mw_ (List.mem_of_getElem? (i := 531) (by decide +kernel)) rfl
theorem lk_Md_135 : Cond.fieldLink "GreatMachineModel" 135 "GreatMachineModel" "accounts" "I" ∈ lw_w := mw_ (List.mem_of_getElem? (i := 532) (by decide +kernel)) rfl
theorem lk_Md_24 : Cond.fieldLink "GreatMachineModel" 24 "GreatMachineModel" "shares" "[I" ∈ lw_w := mw_ (List.mem_of_getElem? (i := 533) (by decide +kernel)) rfl
theorem lk_Md_27 : Cond.fieldLink "GreatMachineModel" 27 "GreatMachineModel" "used" "[I" ∈ lw_w := mw_ (List.mem_of_getElem? (i := 534) (by decide +kernel)) rfl
theorem lk_Md_124 : Cond.fieldLink "GreatMachineModel" 124 "GreatMachineModel" "jobs" "I" ∈ lw_w := mw_ (List.mem_of_getElem? (i := 535) (by decide +kernel)) rfl
theorem lk_Md_30 : Cond.fieldLink "GreatMachineModel" 30 "GreatMachineModel" "account" "[I" ∈ lw_w := mw_ (List.mem_of_getElem? (i := 536) (by decide +kernel)) rfl
theorem lk_Md_33 : Cond.fieldLink "GreatMachineModel" 33 "GreatMachineModel" "wants" "[I" ∈ lw_w := mw_ (List.mem_of_getElem? (i := 537) (by decide +kernel)) rfl
theorem lk_Md_36 : Cond.fieldLink "GreatMachineModel" 36 "GreatMachineModel" "needs" "[I" ∈ lw_w := mw_ (List.mem_of_getElem? (i := 538) (by decide +kernel)) rfl
theorem lk_Md_39 : Cond.fieldLink "GreatMachineModel" 39 "GreatMachineModel" "limit" "[I" ∈ lw_w := mw_ (List.mem_of_getElem? (i := 539) (by decide +kernel)) rfl
theorem lk_Md_42 : Cond.fieldLink "GreatMachineModel" 42 "GreatMachineModel" "truly" "[I" ∈ lw_w := mw_ (List.mem_of_getElem? (i := 540) (by decide +kernel)) rfl
theorem lk_Md_45 : Cond.fieldLink "GreatMachineModel" 45 "GreatMachineModel" "save" "[I" ∈ lw_w := mw_ (List.mem_of_getElem? (i := 541) (by decide +kernel)) rfl
theorem lk_Md_48 : Cond.fieldLink "GreatMachineModel" 48 "GreatMachineModel" "ahead" "[I" ∈ lw_w := mw_ (List.mem_of_getElem? (i := 542) (by decide +kernel)) rfl
theorem lk_Md_51 : Cond.fieldLink "GreatMachineModel" 51 "GreatMachineModel" "state" "[I" ∈ lw_w := mw_ (List.mem_of_getElem? (i := 543) (by decide +kernel)) rfl
theorem lk_Md_54 : Cond.fieldLink "GreatMachineModel" 54 "GreatMachineModel" "began" "[I" ∈ lw_w := mw_ (List.mem_of_getElem? (i := 544) (by decide +kernel)) rfl
theorem lk_Md_57 : Cond.fieldLink "GreatMachineModel" 57 "GreatMachineModel" "ended" "[I" ∈ lw_w := mw_ (List.mem_of_getElem? (i := 545) (by decide +kernel)) rfl
theorem lk_Md_60 : Cond.fieldLink "GreatMachineModel" 60 "GreatMachineModel" "saved" "[I" ∈ lw_w := mw_ (List.mem_of_getElem? (i := 546) (by decide +kernel)) rfl
theorem lk_Md_63 : Cond.fieldLink "GreatMachineModel" 63 "GreatMachineModel" "ran" "[I" ∈ lw_w := mw_ (List.mem_of_getElem? (i := 547) (by decide +kernel)) rfl
theorem lk_Md_66 : Cond.fieldLink "GreatMachineModel" 66 "GreatMachineModel" "leftAt" "[I" ∈ lw_w := mw_ (List.mem_of_getElem? (i := 548) (by decide +kernel)) rfl
theorem lk_Md_69 : Cond.fieldLink "GreatMachineModel" 69 "GreatMachineModel" "on" "[I" ∈ lw_w := mw_ (List.mem_of_getElem? (i := 549) (by decide +kernel)) rfl
theorem lk_Md_145 : Cond.fieldLink "GreatMachineModel" 145 "GreatMachineModel" "bookings" "I" ∈ lw_w := mw_ (List.mem_of_getElem? (i := 550) (by decide +kernel)) rfl
theorem lk_Md_72 : Cond.fieldLink "GreatMachineModel" 72 "GreatMachineModel" "bookNodes" "[I" ∈ lw_w := mw_ (List.mem_of_getElem? (i := 551) (by decide +kernel)) rfl
theorem lk_Md_75 : Cond.fieldLink "GreatMachineModel" 75 "GreatMachineModel" "bookFrom" "[I" ∈ lw_w := mw_ (List.mem_of_getElem? (i := 552) (by decide +kernel)) rfl
theorem lk_Md_78 : Cond.fieldLink "GreatMachineModel" 78 "GreatMachineModel" "bookTo" "[I" ∈ lw_w := mw_ (List.mem_of_getElem? (i := 553) (by decide +kernel)) rfl
theorem lk_Md_81 : Cond.fieldLink "GreatMachineModel" 81 "GreatMachineModel" "blocked" "I" ∈ lw_w := mw_ (List.mem_of_getElem? (i := 554) (by decide +kernel)) rfl
theorem lk_Md_84 : Cond.fieldLink "GreatMachineModel" 84 "GreatMachineModel" "kept" "I" ∈ lw_w := mw_ (List.mem_of_getElem? (i := 555) (by decide +kernel)) rfl
theorem lk_Md_162 : Cond.fieldLink "GreatMachineModel" 162 "GreatMachineModel" "keptLeft" "I" ∈ lw_w := mw_ (List.mem_of_getElem? (i := 556) (by decide +kernel)) rfl
theorem lk_Md_190 : Cond.fieldLink "GreatMachineModel" 190 "GreatMachineModel" "isForeseen" "Z" ∈ lw_w := mw_ (List.mem_of_getElem? (i := 557) (by decide +kernel)) rfl
theorem lk_Md_165 : Cond.fieldLink "GreatMachineModel" 165 "GreatMachineModel" "roomNow" "I" ∈ lw_w := mw_ (List.mem_of_getElem? (i := 558) (by decide +kernel)) rfl
theorem lk_Md_87 : Cond.fieldLink "GreatMachineModel" 87 "GreatMachineModel" "nodesAt" "[I" ∈ lw_w := mw_ (List.mem_of_getElem? (i := 559) (by decide +kernel)) rfl
theorem lk_Md_90 : Cond.fieldLink "GreatMachineModel" 90 "GreatMachineModel" "licencesAt" "[I" ∈ lw_w := mw_ (List.mem_of_getElem? (i := 560) (by decide +kernel)) rfl
theorem lk_Md_93 : Cond.fieldLink "GreatMachineModel" 93 "GreatMachineModel" "queue" "[I" ∈ lw_w := mw_ (List.mem_of_getElem? (i := 561) (by decide +kernel)) rfl
theorem lk_Md_171 : Cond.fieldLink "GreatMachineModel" 171 "GreatMachineModel" "queued" "I" ∈ lw_w := mw_ (List.mem_of_getElem? (i := 562) (by decide +kernel)) rfl
theorem lk_Md_96 : Cond.fieldLink "GreatMachineModel" 96 "GreatMachineModel" "wasState" "[I" ∈ lw_w := mw_ (List.mem_of_getElem? (i := 563) (by decide +kernel)) rfl
theorem lk_Md_99 : Cond.fieldLink "GreatMachineModel" 99 "GreatMachineModel" "wasBegan" "[I" ∈ lw_w := mw_ (List.mem_of_getElem? (i := 564) (by decide +kernel)) rfl
theorem lk_Md_102 : Cond.fieldLink "GreatMachineModel" 102 "GreatMachineModel" "wasEnded" "[I" ∈ lw_w := mw_ (List.mem_of_getElem? (i := 565) (by decide +kernel)) rfl
theorem lk_Md_105 : Cond.fieldLink "GreatMachineModel" 105 "GreatMachineModel" "wasRan" "[I" ∈ lw_w := mw_ (List.mem_of_getElem? (i := 566) (by decide +kernel)) rfl
theorem lk_Md_108 : Cond.fieldLink "GreatMachineModel" 108 "GreatMachineModel" "wasLeft" "[I" ∈ lw_w := mw_ (List.mem_of_getElem? (i := 567) (by decide +kernel)) rfl
theorem lk_Md_111 : Cond.fieldLink "GreatMachineModel" 111 "GreatMachineModel" "wasOn" "[I" ∈ lw_w := mw_ (List.mem_of_getElem? (i := 568) (by decide +kernel)) rfl
theorem lk_Md_114 : Cond.fieldLink "GreatMachineModel" 114 "GreatMachineModel" "wasUsed" "[I" ∈ lw_w := mw_ (List.mem_of_getElem? (i := 569) (by decide +kernel)) rfl
theorem ac_boolean : Cond.arrayClass .boolean ∈ lw_w := mw_ (List.mem_of_getElem? (i := 659) (by decide +kernel)) rfl
theorem ml_La_17 : Cond.methodLink "GreatMachineLaw" 17 y_Md_rack ∈ lw_w := mw_ (List.mem_of_getElem? (i := 660) (by decide +kernel)) rfl
theorem ml_Md_120 : Cond.methodLink "GreatMachineModel" 120 y_Md_in ∈ lw_w := mw_ (List.mem_of_getElem? (i := 664) (by decide +kernel)) rfl
theorem ml_La_22 : Cond.methodLink "GreatMachineLaw" 22 y_Md_drain ∈ lw_w := mw_ (List.mem_of_getElem? (i := 667) (by decide +kernel)) rfl
theorem ml_Md_127 : Cond.methodLink "GreatMachineModel" 127 y_Md_isRack ∈ lw_w := mw_ (List.mem_of_getElem? (i := 671) (by decide +kernel)) rfl
theorem ml_La_26 : Cond.methodLink "GreatMachineLaw" 26 y_Md_fail ∈ lw_w := mw_ (List.mem_of_getElem? (i := 675) (by decide +kernel)) rfl
theorem ml_Md_131 : Cond.methodLink "GreatMachineModel" 131 y_Md_leave ∈ lw_w := mw_ (List.mem_of_getElem? (i := 679) (by decide +kernel)) rfl
theorem ml_La_30 : Cond.methodLink "GreatMachineLaw" 30 y_Md_licences ∈ lw_w := mw_ (List.mem_of_getElem? (i := 683) (by decide +kernel)) rfl
theorem ml_La_34 : Cond.methodLink "GreatMachineLaw" 34 y_Md_half ∈ lw_w := mw_ (List.mem_of_getElem? (i := 687) (by decide +kernel)) rfl
theorem ml_La_38 : Cond.methodLink "GreatMachineLaw" 38 y_Md_account ∈ lw_w := mw_ (List.mem_of_getElem? (i := 691) (by decide +kernel)) rfl
theorem ml_La_43 : Cond.methodLink "GreatMachineLaw" 43 y_Md_job ∈ lw_w := mw_ (List.mem_of_getElem? (i := 695) (by decide +kernel)) rfl
theorem ml_La_48 : Cond.methodLink "GreatMachineLaw" 48 y_Md_behind ∈ lw_w := mw_ (List.mem_of_getElem? (i := 699) (by decide +kernel)) rfl
theorem ml_Md_138 : Cond.methodLink "GreatMachineModel" 138 y_Md_isJob ∈ lw_w := mw_ (List.mem_of_getElem? (i := 703) (by decide +kernel)) rfl
theorem ml_La_52 : Cond.methodLink "GreatMachineLaw" 52 y_Md_cancel ∈ lw_w := mw_ (List.mem_of_getElem? (i := 707) (by decide +kernel)) rfl
theorem ml_La_57 : Cond.methodLink "GreatMachineLaw" 57 y_Md_book ∈ lw_w := mw_ (List.mem_of_getElem? (i := 711) (by decide +kernel)) rfl
theorem ml_Md_151 : Cond.methodLink "GreatMachineModel" 151 y_Md_room ∈ lw_w := mw_ (List.mem_of_getElem? (i := 715) (by decide +kernel)) rfl
theorem ml_Md_155 : Cond.methodLink "GreatMachineModel" 155 y_Md_takenNodes ∈ lw_w := mw_ (List.mem_of_getElem? (i := 719) (by decide +kernel)) rfl
theorem ml_Md_141 : Cond.methodLink "GreatMachineModel" 141 y_Md_runsAt ∈ lw_w := mw_ (List.mem_of_getElem? (i := 723) (by decide +kernel)) rfl
theorem ml_La_61 : Cond.methodLink "GreatMachineLaw" 61 y_Md_unbook ∈ lw_w := mw_ (List.mem_of_getElem? (i := 727) (by decide +kernel)) rfl
theorem ml_La_65 : Cond.methodLink "GreatMachineLaw" 65 y_Md_ticks ∈ lw_w := mw_ (List.mem_of_getElem? (i := 731) (by decide +kernel)) rfl
theorem ml_Md_194 : Cond.methodLink "GreatMachineModel" 194 y_Md_tick ∈ lw_w := mw_ (List.mem_of_getElem? (i := 735) (by decide +kernel)) rfl
theorem ml_Md_177 : Cond.methodLink "GreatMachineModel" 177 y_Md_findQueue ∈ lw_w := mw_ (List.mem_of_getElem? (i := 739) (by decide +kernel)) rfl
theorem ml_Md_174 : Cond.methodLink "GreatMachineModel" 174 y_Md_isAhead ∈ lw_w := mw_ (List.mem_of_getElem? (i := 743) (by decide +kernel)) rfl
theorem ml_Md_180 : Cond.methodLink "GreatMachineModel" 180 y_Md_findTaken ∈ lw_w := mw_ (List.mem_of_getElem? (i := 747) (by decide +kernel)) rfl
theorem ml_Md_183 : Cond.methodLink "GreatMachineModel" 183 y_Md_fits ∈ lw_w := mw_ (List.mem_of_getElem? (i := 751) (by decide +kernel)) rfl
theorem ml_Md_159 : Cond.methodLink "GreatMachineModel" 159 y_Md_leftOf ∈ lw_w := mw_ (List.mem_of_getElem? (i := 755) (by decide +kernel)) rfl
theorem ml_Md_187 : Cond.methodLink "GreatMachineModel" 187 y_Md_begin ∈ lw_w := mw_ (List.mem_of_getElem? (i := 759) (by decide +kernel)) rfl
theorem ml_Md_168 : Cond.methodLink "GreatMachineModel" 168 y_Md_freeOn ∈ lw_w := mw_ (List.mem_of_getElem? (i := 763) (by decide +kernel)) rfl
theorem ml_La_69 : Cond.methodLink "GreatMachineLaw" 69 y_Md_told ∈ lw_w := mw_ (List.mem_of_getElem? (i := 767) (by decide +kernel)) rfl
theorem ml_La_73 : Cond.methodLink "GreatMachineLaw" 73 y_Md_on ∈ lw_w := mw_ (List.mem_of_getElem? (i := 771) (by decide +kernel)) rfl
theorem ml_La_77 : Cond.methodLink "GreatMachineLaw" 77 y_Md_free ∈ lw_w := mw_ (List.mem_of_getElem? (i := 775) (by decide +kernel)) rfl
theorem ml_La_81 : Cond.methodLink "GreatMachineLaw" 81 y_Md_used ∈ lw_w := mw_ (List.mem_of_getElem? (i := 779) (by decide +kernel)) rfl
theorem ml_La_85 : Cond.methodLink "GreatMachineLaw" 85 y_Md_blocked ∈ lw_w := mw_ (List.mem_of_getElem? (i := 783) (by decide +kernel)) rfl
theorem ml_La_89 : Cond.methodLink "GreatMachineLaw" 89 y_Md_taken ∈ lw_w := mw_ (List.mem_of_getElem? (i := 787) (by decide +kernel)) rfl
theorem ml_Md_197 : Cond.methodLink "GreatMachineModel" 197 y_Md_takenLicences ∈ lw_w := mw_ (List.mem_of_getElem? (i := 791) (by decide +kernel)) rfl
theorem ml_La_93 : Cond.methodLink "GreatMachineLaw" 93 y_Md_foreseen ∈ lw_w := mw_ (List.mem_of_getElem? (i := 795) (by decide +kernel)) rfl
theorem ml_Md_200 : Cond.methodLink "GreatMachineModel" 200 y_Md_keep ∈ lw_w := mw_ (List.mem_of_getElem? (i := 799) (by decide +kernel)) rfl
theorem ml_Md_203 : Cond.methodLink "GreatMachineModel" 203 y_Md_putBack ∈ lw_w := mw_ (List.mem_of_getElem? (i := 803) (by decide +kernel)) rfl
theorem ml_La_97 : Cond.methodLink "GreatMachineLaw" 97 y_Md_count ∈ lw_w := mw_ (List.mem_of_getElem? (i := 807) (by decide +kernel)) rfl
end
section
/-! THE WORLD: the class' two machines (m = 0, 1) and the model (m = 2), each a table of ints t f i; every cell of the heap is read off them -/
abbrev LL := List (Option Value)
abbrev TT := Nat → Nat → Int
abbrev WW := Nat → TT
abbrev Ew := (Nat → Nat) × (Nat → ClassId)
def iv (e : Int) : Value := .int (Int32.ofInt e)
def rf (E : Ew) (k : Nat) : Value := .ref (E.1 k)
def tu (t : TT) (f i : Nat) (x : Int) : TT := fun a b => if a = f ∧ b = i then x else t a b
def sm (S : WW) (m : Nat) (t : TT) : WW := fun a => if a = m then t else S a
def ar (t : TT) (f : Nat) : Nat → Int32 := fun i => Int32.ofInt (t f i)
def ir (e : Int) : Prop := -2147483648 ≤ e ∧ e ≤ 2147483647
theorem tu_eq (t : TT) (f i : Nat) (x : Int) : tu t f i x f i = x := by simp [tu]
theorem tu_ne {t : TT} {f i a b : Nat} {x : Int} (h : ¬ (a = f ∧ b = i)) : tu t f i x a b = t a b := if_neg h
theorem sm_eq (S : WW) (m : Nat) (t : TT) : sm S m t m = t := by simp [sm]
theorem sm_ne {S : WW} {m a : Nat} {t : TT} (h : a ≠ m) : sm S m t a = S a := if_neg h
theorem sm_sm (S : WW) (m : Nat) (t t' : TT) : sm (sm S m t) m t' = sm S m t' := by
  funext a; simp only [sm]; split <;> rfl
theorem sm_self (S : WW) (m : Nat) : sm S m (S m) = S := by
  funext a; simp only [sm]; split
  · rename_i h; rw [h]
  · rfl
theorem sm_comm (S : WW) {m n : Nat} (h : m ≠ n) (t u : TT) : sm (sm S m t) n u = sm (sm S n u) m t := by
  funext a; simp only [sm]; split
  · rename_i h1; rw [if_neg (by omega)]
  · rfl
theorem iv_add (a b : Int) : Value.int (Int32.ofInt a + Int32.ofInt b) = iv (a + b) := by rw [iv, Int32.ofInt_add]
theorem iv_sub (a b : Int) : Value.int (Int32.ofInt a - Int32.ofInt b) = iv (a - b) := by rw [iv, Int32.ofInt_sub]
theorem iv_mul (a b : Int) : Value.int (Int32.ofInt a * Int32.ofInt b) = iv (a * b) := by rw [iv, Int32.ofInt_mul]
theorem ir_to {a : Int} (h : ir a) : (Int32.ofInt a).toInt = a := Int32.toInt_ofInt_of_le (by have := h.1; omega) (by have := h.2; omega)
theorem ir_lt {a b : Int} (ha : ir a) (hb : ir b) : Int32.ofInt a < Int32.ofInt b ↔ a < b := by rw [Int32.lt_iff_toInt_lt, ir_to ha, ir_to hb]
theorem ir_le {a b : Int} (ha : ir a) (hb : ir b) : Int32.ofInt a ≤ Int32.ofInt b ↔ a ≤ b := by rw [Int32.le_iff_toInt_le, ir_to ha, ir_to hb]
theorem ir_eq {a b : Int} (ha : ir a) (hb : ir b) : Int32.ofInt a = Int32.ofInt b ↔ a = b := by rw [← Int32.toInt_inj, ir_to ha, ir_to hb]
theorem ir_0 : ir 0 := ⟨by omega, by omega⟩
theorem ir_mk {a : Int} (h1 : -2147483648 ≤ a) (h2 : a ≤ 2147483647) : ir a := ⟨h1, h2⟩
theorem iv_of (x : Int32) : Value.int x = iv x.toInt := by rw [iv, Int32.ofInt_toInt]
theorem ir_of (x : Int32) : ir x.toInt := ⟨by have := x.le_toInt; simpa using this, by have := x.toInt_lt; omega⟩
theorem ir_in {i n : Nat} {e : Int} (he : e = (i : Int)) (hi : i < n) (hn : n < 2147483648) : vp_in (Int32.ofInt e) n ∧ (Int32.ofInt e).toNatClampNeg = i := by
  subst he
  have h : (Int32.ofInt (i : Int)).toInt = (i : Int) := ir_to ⟨by omega, by omega⟩
  refine ⟨vp_in_iff.mpr (by rw [h]; omega), ?_⟩
  show (Int32.ofInt (i : Int)).toInt.toNat = i
  rw [h]; rfl
def bs (m : Nat) : Nat := 33 + 85 * m
def kMc (m : Nat) : Nat := bs m + 0
def kRa (m : Nat) : Nat := bs m + 1
def kAa (m : Nat) : Nat := bs m + 2
def kJa (m : Nat) : Nat := bs m + 3
def kHa (m : Nat) : Nat := bs m + 4
def kQu (m : Nat) : Nat := bs m + 5
def kRk (m i : Nat) : Nat := bs m + (6 + i)
def kAc (m i : Nat) : Nat := bs m + (10 + i)
def kJb (m i : Nat) : Nat := bs m + (16 + i)
def kOn (m i : Nat) : Nat := bs m + (46 + i)
def kHd (m i : Nat) : Nat := bs m + (76 + i)
def kMd (a : Nat) : Nat := 2 + a

def mdf (a : Nat) : Nat := [12, 14, 15, 16, 17, 18, 19, 20, 21, 22, 23, 24, 25, 26, 27, 35, 36, 30, 31, 33, 34, 39, 40, 11, 41, 42, 43, 44, 45, 46, 47].getD a 0
def mdl (a : Nat) : Nat := [4, 4, 6, 6, 30, 30, 30, 30, 30, 30, 30, 30, 30, 30, 30, 30, 30, 120, 8, 8, 8, 260, 260, 30, 30, 30, 30, 30, 30, 120, 6].getD a 0
def mdt (a : Nat) : Nat := if a = 1 then 1 else 0
theorem mdf_inj : ∀ a, a < 31 → ∀ b, b < 31 → mdf a = mdf b → a = b := by decide +kernel
theorem mdl_small : ∀ a, a < 31 → mdl a < 2147483648 := by decide +kernel
def oMc (E : Ew) (B : Nat) (t : TT) : List Value := [rf E (B + 1), rf E (B + 2), rf E (B + 3), rf E (B + 4), iv (t 0 0), iv (t 1 0), iv (t 2 0), iv (t 3 0), iv (t 4 0), iv (t 5 0), iv (t 6 0), iv (t 7 0), iv (t 8 0), iv (t 9 0), rf E (B + 5), iv (t 10 0)]
def oRk (t : TT) (i : Nat) : List Value := [iv (t 12 i), iv (t 13 i), iv (t 14 i)]
def oAc (t : TT) (i : Nat) : List Value := [iv (t 15 i), iv (t 16 i)]
def oJb (E : Ew) (B : Nat) (t : TT) (i : Nat) : List Value := [iv (t 17 i), iv (t 18 i), iv (t 19 i), iv (t 20 i), iv (t 21 i), iv (t 22 i), iv (t 23 i), iv (t 24 i), iv (t 25 i), iv (t 26 i), iv (t 27 i), iv (t 28 i), iv (t 29 i), rf E (B + (46 + i))]
def oHd (t : TT) (i : Nat) : List Value := [iv (t 31 i), iv (t 32 i), iv (t 33 i), iv (t 34 i)]
def oMd (E : Ew) (t : TT) : List Value := [iv (t 4 0), iv (t 5 0), iv (t 6 0), iv (t 0 0), rf E 2, rf E 3, iv (t 1 0), rf E 4, rf E 5, iv (t 2 0), rf E 6, rf E 7, rf E 8, rf E 9, rf E 10, rf E 11, rf E 12, rf E 13, rf E 14, rf E 15, rf E 16, rf E 17, rf E 18, rf E 19, iv (t 3 0), rf E 20, rf E 21, rf E 22, iv (t 8 0), iv (t 9 0), iv (t 37 0), iv (t 38 0), iv (t 48 0), rf E 23, rf E 24, rf E 25, iv (t 10 0), rf E 26, rf E 27, rf E 28, rf E 29, rf E 30, rf E 31, rf E 32]
def mcel (E : Ew) (B : Nat) (t : TT) (j : Nat) : va_E :=
  if j = 0 then .inr (3, oMc E B t)
  else if j = 1 then .inl (E.2 2, 4, .inr (.inr (.inr (.inr fun i => some (E.1 (B + (6 + i)))))))
  else if j = 2 then .inl (E.2 3, 6, .inr (.inr (.inr (.inr fun i => some (E.1 (B + (10 + i)))))))
  else if j = 3 then .inl (E.2 4, 30, .inr (.inr (.inr (.inr fun i => some (E.1 (B + (16 + i)))))))
  else if j = 4 then .inl (E.2 5, 9, .inr (.inr (.inr (.inr fun i => some (E.1 (B + (76 + i)))))))
  else if j = 5 then .inl (E.2 0, 30, .inl (ar t 11))
  else if j < 10 then .inr (4, oRk t (j - 6))
  else if j < 16 then .inr (0, oAc t (j - 10))
  else if j < 46 then .inr (2, oJb E B t (j - 16))
  else if j < 76 then .inl (E.2 0, 4, .inl (ar t (100 + (j - 46))))
  else .inr (1, oHd t (j - 76))
def zcel (E : Ew) (S : WW) (k : Nat) : va_E :=
  if k = 0 then .inr (5, [rf E (bs 0), rf E (bs 1)])
  else if k = 1 then .inr (6, oMd E (S 2))
  else if k < 33 then .inl (E.2 (mdt (k - 2)), mdl (k - 2), .inl (ar (S 2) (mdf (k - 2))))
  else if k < 118 then mcel E (bs 0) (S 0) (k - 33)
  else mcel E (bs 1) (S 1) (k - 118)
def wld (E : Ew) (S : WW) : va_W := (List.range 203).map (fun k => (E.1 k, zcel E S k))
def tys (E : Ew) : List (ClassId × FieldType) := [(E.2 0, .int), (E.2 1, .boolean), (E.2 2, .object "GreatMachine$Rack"), (E.2 3, .object "GreatMachine$Account"), (E.2 4, .object "GreatMachine$Job"), (E.2 5, .object "GreatMachine$Hold")]
def EOk (E : Ew) : Prop := ∀ i j, i < 203 → j < 203 → E.1 i = E.1 j → i = j
theorem wld_len (E : Ew) (S : WW) : (wld E S).length = 203 := by simp [wld]
theorem wld_at {E : Ew} {S : WW} {k : Nat} (h : k < 203) : (wld E S)[k]? = some (E.1 k, zcel E S k) := by
  simp [wld, List.getElem?_range h]
theorem wld_of {E : Ew} {S : WW} {k : Nat} {q : Nat × va_E} (h : (wld E S)[k]? = some q) : k < 203 ∧ q = (E.1 k, zcel E S k) := by
  have h1 : k < 203 := by have := (List.getElem?_eq_some_iff.mp h).1; rwa [wld_len] at this
  rw [wld_at h1] at h
  exact ⟨h1, (Option.some.inj h).symm⟩
theorem wld_set {E : Ew} {S S' : WW} {k : Nat} {e : va_E} (hk : k < 203) (h1 : zcel E S' k = e) (h2 : ∀ j, j < 203 → j ≠ k → zcel E S' j = zcel E S j) : (wld E S).set k (E.1 k, e) = wld E S' := by
  subst h1
  apply List.ext_getElem?
  intro j
  rw [List.getElem?_set]
  by_cases hj : j < 203
  · rw [wld_at hj, wld_len]
    by_cases hjk : k = j
    · subst hjk; simp [hj, wld_at hj]
    · rw [if_neg hjk, wld_at hj, h2 j hj (fun q => hjk q.symm)]
  · rw [List.getElem?_eq_none (by rw [wld_len]; omega)]
    rw [if_neg (by omega), List.getElem?_eq_none (by rw [wld_len]; omega)]
theorem wld_D {E : Ew} {S : WW} {A : Nat → Prop} (hE : EOk E) (hA : ∀ k, k < 203 → A (E.1 k)) : va_D A (wld E S) := by
  refine ⟨fun i j p q hp hq hpq => ?_, fun k q hq => ?_⟩
  · obtain ⟨h1, rfl⟩ := wld_of hp
    obtain ⟨h2, rfl⟩ := wld_of hq
    exact hE i j h1 h2 hpq
  · obtain ⟨h1, rfl⟩ := wld_of hq
    exact hA k h1
theorem zM {E : Ew} {S : WW} {m j : Nat} (hm : m < 2) (hj : j < 85) : zcel E S (bs m + j) = mcel E (bs m) (S m) j := by
  rcases (show m = 0 ∨ m = 1 by omega) with rfl | rfl
  · unfold zcel
    rw [if_neg (by unfold bs; omega), if_neg (by unfold bs; omega), if_neg (by unfold bs; omega), if_pos (by unfold bs; omega), show bs 0 + j - 33 = j by unfold bs; omega]
  · unfold zcel
    rw [if_neg (by unfold bs; omega), if_neg (by unfold bs; omega), if_neg (by unfold bs; omega), if_neg (by unfold bs; omega), show bs 1 + j - 118 = j by unfold bs; omega]
/-- one cell of machine m is changed -/
theorem zM_ne {E : Ew} {S : WW} {m j0 : Nat} {t t' : TT} (hm : m < 2) (h : ∀ j, j < 85 → j ≠ j0 → mcel E (bs m) t' j = mcel E (bs m) t j) : ∀ j, j < 203 → j ≠ bs m + j0 → zcel E (sm S m t') j = zcel E (sm S m t) j := by
  intro j hj hne
  unfold zcel
  by_cases h0 : j = 0
  · simp [h0]
  by_cases h1 : j = 1
  · rw [if_neg h0, if_neg h0, if_pos h1, if_pos h1, sm_ne (by omega), sm_ne (by omega)]
  by_cases h2 : j < 33
  · rw [if_neg h0, if_neg h0, if_neg h1, if_neg h1, if_pos h2, if_pos h2, sm_ne (by omega), sm_ne (by omega)]
  by_cases h3 : j < 118
  · rw [if_neg h0, if_neg h0, if_neg h1, if_neg h1, if_neg h2, if_neg h2, if_pos h3, if_pos h3]
    by_cases hm0 : m = 0
    · subst hm0; rw [sm_eq, sm_eq]; exact h _ (by omega) (by unfold bs at hne; omega)
    · rw [sm_ne (by omega), sm_ne (by omega)]
  · rw [if_neg h0, if_neg h0, if_neg h1, if_neg h1, if_neg h2, if_neg h2, if_neg h3, if_neg h3]
    by_cases hm0 : m = 1
    · subst hm0; rw [sm_eq, sm_eq]; exact h _ (by omega) (by unfold bs at hne; omega)
    · rw [sm_ne (by omega), sm_ne (by omega)]
theorem ar_ne {t : TT} {f i g : Nat} {x : Int} (h : g ≠ f) : ar (tu t f i x) g = ar t g := by
  funext a; simp only [ar, tu]; rw [if_neg (by omega)]
theorem ar_eq {t : TT} {f i : Nat} {x : Int} : ar (tu t f i x) f = upd (ar t f) i (Int32.ofInt x) := by
  funext a; simp only [ar, tu, upd]; by_cases h : a = i <;> simp [h]
theorem zMc {E : Ew} {S : WW} {m : Nat} (hm : m < 2) : zcel E S (kMc m) = .inr (3, oMc E (bs m) (S m)) := by rw [kMc, zM hm (by omega)]; rfl
theorem zRa {E : Ew} {S : WW} {m : Nat} (hm : m < 2) : zcel E S (kRa m) = .inl (E.2 2, 4, .inr (.inr (.inr (.inr fun i => some (E.1 (kRk m i)))))) := by rw [kRa, zM hm (by omega)]; rfl
theorem zAa {E : Ew} {S : WW} {m : Nat} (hm : m < 2) : zcel E S (kAa m) = .inl (E.2 3, 6, .inr (.inr (.inr (.inr fun i => some (E.1 (kAc m i)))))) := by rw [kAa, zM hm (by omega)]; rfl
theorem zJa {E : Ew} {S : WW} {m : Nat} (hm : m < 2) : zcel E S (kJa m) = .inl (E.2 4, 30, .inr (.inr (.inr (.inr fun i => some (E.1 (kJb m i)))))) := by rw [kJa, zM hm (by omega)]; rfl
theorem zHa {E : Ew} {S : WW} {m : Nat} (hm : m < 2) : zcel E S (kHa m) = .inl (E.2 5, 9, .inr (.inr (.inr (.inr fun i => some (E.1 (kHd m i)))))) := by rw [kHa, zM hm (by omega)]; rfl
theorem zQu {E : Ew} {S : WW} {m : Nat} (hm : m < 2) : zcel E S (kQu m) = .inl (E.2 0, 30, .inl (ar (S m) 11)) := by rw [kQu, zM hm (by omega)]; rfl
theorem zRk {E : Ew} {S : WW} {m i : Nat} (hm : m < 2) (hi : i < 4) : zcel E S (kRk m i) = .inr (4, oRk (S m) i) := by
  rw [kRk, zM hm (by omega)]; unfold mcel; simp (disch := omega) only [if_neg, if_pos]; rw [show 6 + i - 6 = i by omega]
theorem zAc {E : Ew} {S : WW} {m i : Nat} (hm : m < 2) (hi : i < 6) : zcel E S (kAc m i) = .inr (0, oAc (S m) i) := by
  rw [kAc, zM hm (by omega)]; unfold mcel; simp (disch := omega) only [if_neg, if_pos]; rw [show 10 + i - 10 = i by omega]
theorem zJb {E : Ew} {S : WW} {m i : Nat} (hm : m < 2) (hi : i < 30) : zcel E S (kJb m i) = .inr (2, oJb E (bs m) (S m) i) := by
  rw [kJb, zM hm (by omega)]; unfold mcel; simp (disch := omega) only [if_neg, if_pos]; rw [show 16 + i - 16 = i by omega]
theorem zOn {E : Ew} {S : WW} {m i : Nat} (hm : m < 2) (hi : i < 30) : zcel E S (kOn m i) = .inl (E.2 0, 4, .inl (ar (S m) (100 + i))) := by
  rw [kOn, zM hm (by omega)]; unfold mcel; simp (disch := omega) only [if_neg, if_pos]; rw [show 46 + i - 46 = i by omega]
theorem zHd {E : Ew} {S : WW} {m i : Nat} (hm : m < 2) (hi : i < 9) : zcel E S (kHd m i) = .inr (1, oHd (S m) i) := by
  rw [kHd, zM hm (by omega)]; unfold mcel; simp (disch := omega) only [if_neg]; rw [show 76 + i - 76 = i by omega]
theorem zMd {E : Ew} {S : WW} : zcel E S 1 = .inr (6, oMd E (S 2)) := rfl
theorem zGm {E : Ew} {S : WW} : zcel E S 0 = .inr (5, [rf E (bs 0), rf E (bs 1)]) := rfl
theorem zMa {E : Ew} {S : WW} {a : Nat} (ha : a < 31) : zcel E S (kMd a) = .inl (E.2 (mdt a), mdl a, .inl (ar (S 2) (mdf a))) := by
  unfold zcel kMd
  rw [if_neg (by omega), if_neg (by omega), if_pos (by omega), show 2 + a - 2 = a by omega]
theorem kMc_lt {m : Nat} (hm : m < 2) : kMc m < 203 := by unfold kMc bs; omega
theorem kRa_lt {m : Nat} (hm : m < 2) : kRa m < 203 := by unfold kRa bs; omega
theorem kAa_lt {m : Nat} (hm : m < 2) : kAa m < 203 := by unfold kAa bs; omega
theorem kJa_lt {m : Nat} (hm : m < 2) : kJa m < 203 := by unfold kJa bs; omega
theorem kHa_lt {m : Nat} (hm : m < 2) : kHa m < 203 := by unfold kHa bs; omega
theorem kQu_lt {m : Nat} (hm : m < 2) : kQu m < 203 := by unfold kQu bs; omega
theorem kRk_lt {m i : Nat} (hm : m < 2) (hi : i < 4) : kRk m i < 203 := by unfold kRk bs; omega
theorem kAc_lt {m i : Nat} (hm : m < 2) (hi : i < 6) : kAc m i < 203 := by unfold kAc bs; omega
theorem kJb_lt {m i : Nat} (hm : m < 2) (hi : i < 30) : kJb m i < 203 := by unfold kJb bs; omega
theorem kOn_lt {m i : Nat} (hm : m < 2) (hi : i < 30) : kOn m i < 203 := by unfold kOn bs; omega
theorem kHd_lt {m i : Nat} (hm : m < 2) (hi : i < 9) : kHd m i < 203 := by unfold kHd bs; omega
theorem kMd_lt {a : Nat} (ha : a < 31) : kMd a < 203 := by unfold kMd; omega

theorem mx_Mc {E : Ew} {B : Nat} {t : TT} {f i : Nat} {x : Int} (hf : f < 11) : ∀ j, j < 85 → j ≠ 0 → mcel E B (tu t f i x) j = mcel E B t j := by
  intro j hj hne
  have key : ∀ a b, ¬ (a = f ∧ b = i) → tu t f i x a b = t a b := fun a b h => tu_ne h
  unfold mcel
  by_cases h0 : j = 0
  · rw [if_pos h0, if_pos h0]; unfold oMc; simp (disch := omega) only [key]
  by_cases h1 : j = 1
  · rw [if_neg h0, if_neg h0, if_pos h1, if_pos h1]
  by_cases h2 : j = 2
  · rw [if_neg h0, if_neg h0, if_neg h1, if_neg h1, if_pos h2, if_pos h2]
  by_cases h3 : j = 3
  · rw [if_neg h0, if_neg h0, if_neg h1, if_neg h1, if_neg h2, if_neg h2, if_pos h3, if_pos h3]
  by_cases h4 : j = 4
  · rw [if_neg h0, if_neg h0, if_neg h1, if_neg h1, if_neg h2, if_neg h2, if_neg h3, if_neg h3, if_pos h4, if_pos h4]
  rw [if_neg h0, if_neg h0, if_neg h1, if_neg h1, if_neg h2, if_neg h2, if_neg h3, if_neg h3, if_neg h4, if_neg h4]
  by_cases h5 : j = 5
  · rw [if_pos h5, if_pos h5, ar_ne (by omega)]
  rw [if_neg h5, if_neg h5]
  by_cases h6 : j < 10
  · rw [if_pos h6, if_pos h6]; unfold oRk; simp (disch := omega) only [key]
  rw [if_neg h6, if_neg h6]
  by_cases h7 : j < 16
  · rw [if_pos h7, if_pos h7]; unfold oAc; simp (disch := omega) only [key]
  rw [if_neg h7, if_neg h7]
  by_cases h8 : j < 46
  · rw [if_pos h8, if_pos h8]; unfold oJb; simp (disch := omega) only [key]
  rw [if_neg h8, if_neg h8]
  by_cases h9 : j < 76
  · rw [if_pos h9, if_pos h9, ar_ne (by omega)]
  rw [if_neg h9, if_neg h9]; unfold oHd; simp (disch := omega) only [key]
theorem mx_Qu {E : Ew} {B : Nat} {t : TT} {f i : Nat} {x : Int} (hf : f = 11) : ∀ j, j < 85 → j ≠ 5 → mcel E B (tu t f i x) j = mcel E B t j := by
  intro j hj hne
  have key : ∀ a b, ¬ (a = f ∧ b = i) → tu t f i x a b = t a b := fun a b h => tu_ne h
  unfold mcel
  by_cases h0 : j = 0
  · rw [if_pos h0, if_pos h0]; unfold oMc; simp (disch := omega) only [key]
  by_cases h1 : j = 1
  · rw [if_neg h0, if_neg h0, if_pos h1, if_pos h1]
  by_cases h2 : j = 2
  · rw [if_neg h0, if_neg h0, if_neg h1, if_neg h1, if_pos h2, if_pos h2]
  by_cases h3 : j = 3
  · rw [if_neg h0, if_neg h0, if_neg h1, if_neg h1, if_neg h2, if_neg h2, if_pos h3, if_pos h3]
  by_cases h4 : j = 4
  · rw [if_neg h0, if_neg h0, if_neg h1, if_neg h1, if_neg h2, if_neg h2, if_neg h3, if_neg h3, if_pos h4, if_pos h4]
  rw [if_neg h0, if_neg h0, if_neg h1, if_neg h1, if_neg h2, if_neg h2, if_neg h3, if_neg h3, if_neg h4, if_neg h4]
  by_cases h5 : j = 5
  · rw [if_pos h5, if_pos h5, ar_ne (by omega)]
  rw [if_neg h5, if_neg h5]
  by_cases h6 : j < 10
  · rw [if_pos h6, if_pos h6]; unfold oRk; simp (disch := omega) only [key]
  rw [if_neg h6, if_neg h6]
  by_cases h7 : j < 16
  · rw [if_pos h7, if_pos h7]; unfold oAc; simp (disch := omega) only [key]
  rw [if_neg h7, if_neg h7]
  by_cases h8 : j < 46
  · rw [if_pos h8, if_pos h8]; unfold oJb; simp (disch := omega) only [key]
  rw [if_neg h8, if_neg h8]
  by_cases h9 : j < 76
  · rw [if_pos h9, if_pos h9, ar_ne (by omega)]
  rw [if_neg h9, if_neg h9]; unfold oHd; simp (disch := omega) only [key]
theorem mx_Rk {E : Ew} {B : Nat} {t : TT} {f i : Nat} {x : Int} (h1 : 12 ≤ f) (h2 : f ≤ 14) (hi : i < 4) : ∀ j, j < 85 → j ≠ 6 + i → mcel E B (tu t f i x) j = mcel E B t j := by
  intro j hj hne
  have key : ∀ a b, ¬ (a = f ∧ b = i) → tu t f i x a b = t a b := fun a b h => tu_ne h
  unfold mcel
  by_cases h0 : j = 0
  · rw [if_pos h0, if_pos h0]; unfold oMc; simp (disch := omega) only [key]
  by_cases h1 : j = 1
  · rw [if_neg h0, if_neg h0, if_pos h1, if_pos h1]
  by_cases h2 : j = 2
  · rw [if_neg h0, if_neg h0, if_neg h1, if_neg h1, if_pos h2, if_pos h2]
  by_cases h3 : j = 3
  · rw [if_neg h0, if_neg h0, if_neg h1, if_neg h1, if_neg h2, if_neg h2, if_pos h3, if_pos h3]
  by_cases h4 : j = 4
  · rw [if_neg h0, if_neg h0, if_neg h1, if_neg h1, if_neg h2, if_neg h2, if_neg h3, if_neg h3, if_pos h4, if_pos h4]
  rw [if_neg h0, if_neg h0, if_neg h1, if_neg h1, if_neg h2, if_neg h2, if_neg h3, if_neg h3, if_neg h4, if_neg h4]
  by_cases h5 : j = 5
  · rw [if_pos h5, if_pos h5, ar_ne (by omega)]
  rw [if_neg h5, if_neg h5]
  by_cases h6 : j < 10
  · rw [if_pos h6, if_pos h6]; unfold oRk; simp (disch := omega) only [key]
  rw [if_neg h6, if_neg h6]
  by_cases h7 : j < 16
  · rw [if_pos h7, if_pos h7]; unfold oAc; simp (disch := omega) only [key]
  rw [if_neg h7, if_neg h7]
  by_cases h8 : j < 46
  · rw [if_pos h8, if_pos h8]; unfold oJb; simp (disch := omega) only [key]
  rw [if_neg h8, if_neg h8]
  by_cases h9 : j < 76
  · rw [if_pos h9, if_pos h9, ar_ne (by omega)]
  rw [if_neg h9, if_neg h9]; unfold oHd; simp (disch := omega) only [key]
theorem mx_Ac {E : Ew} {B : Nat} {t : TT} {f i : Nat} {x : Int} (h1 : 15 ≤ f) (h2 : f ≤ 16) (hi : i < 6) : ∀ j, j < 85 → j ≠ 10 + i → mcel E B (tu t f i x) j = mcel E B t j := by
  intro j hj hne
  have key : ∀ a b, ¬ (a = f ∧ b = i) → tu t f i x a b = t a b := fun a b h => tu_ne h
  unfold mcel
  by_cases h0 : j = 0
  · rw [if_pos h0, if_pos h0]; unfold oMc; simp (disch := omega) only [key]
  by_cases h1 : j = 1
  · rw [if_neg h0, if_neg h0, if_pos h1, if_pos h1]
  by_cases h2 : j = 2
  · rw [if_neg h0, if_neg h0, if_neg h1, if_neg h1, if_pos h2, if_pos h2]
  by_cases h3 : j = 3
  · rw [if_neg h0, if_neg h0, if_neg h1, if_neg h1, if_neg h2, if_neg h2, if_pos h3, if_pos h3]
  by_cases h4 : j = 4
  · rw [if_neg h0, if_neg h0, if_neg h1, if_neg h1, if_neg h2, if_neg h2, if_neg h3, if_neg h3, if_pos h4, if_pos h4]
  rw [if_neg h0, if_neg h0, if_neg h1, if_neg h1, if_neg h2, if_neg h2, if_neg h3, if_neg h3, if_neg h4, if_neg h4]
  by_cases h5 : j = 5
  · rw [if_pos h5, if_pos h5, ar_ne (by omega)]
  rw [if_neg h5, if_neg h5]
  by_cases h6 : j < 10
  · rw [if_pos h6, if_pos h6]; unfold oRk; simp (disch := omega) only [key]
  rw [if_neg h6, if_neg h6]
  by_cases h7 : j < 16
  · rw [if_pos h7, if_pos h7]; unfold oAc; simp (disch := omega) only [key]
  rw [if_neg h7, if_neg h7]
  by_cases h8 : j < 46
  · rw [if_pos h8, if_pos h8]; unfold oJb; simp (disch := omega) only [key]
  rw [if_neg h8, if_neg h8]
  by_cases h9 : j < 76
  · rw [if_pos h9, if_pos h9, ar_ne (by omega)]
  rw [if_neg h9, if_neg h9]; unfold oHd; simp (disch := omega) only [key]
theorem mx_Jb {E : Ew} {B : Nat} {t : TT} {f i : Nat} {x : Int} (h1 : 17 ≤ f) (h2 : f ≤ 29) (hi : i < 30) : ∀ j, j < 85 → j ≠ 16 + i → mcel E B (tu t f i x) j = mcel E B t j := by
  intro j hj hne
  have key : ∀ a b, ¬ (a = f ∧ b = i) → tu t f i x a b = t a b := fun a b h => tu_ne h
  unfold mcel
  by_cases h0 : j = 0
  · rw [if_pos h0, if_pos h0]; unfold oMc; simp (disch := omega) only [key]
  by_cases h1 : j = 1
  · rw [if_neg h0, if_neg h0, if_pos h1, if_pos h1]
  by_cases h2 : j = 2
  · rw [if_neg h0, if_neg h0, if_neg h1, if_neg h1, if_pos h2, if_pos h2]
  by_cases h3 : j = 3
  · rw [if_neg h0, if_neg h0, if_neg h1, if_neg h1, if_neg h2, if_neg h2, if_pos h3, if_pos h3]
  by_cases h4 : j = 4
  · rw [if_neg h0, if_neg h0, if_neg h1, if_neg h1, if_neg h2, if_neg h2, if_neg h3, if_neg h3, if_pos h4, if_pos h4]
  rw [if_neg h0, if_neg h0, if_neg h1, if_neg h1, if_neg h2, if_neg h2, if_neg h3, if_neg h3, if_neg h4, if_neg h4]
  by_cases h5 : j = 5
  · rw [if_pos h5, if_pos h5, ar_ne (by omega)]
  rw [if_neg h5, if_neg h5]
  by_cases h6 : j < 10
  · rw [if_pos h6, if_pos h6]; unfold oRk; simp (disch := omega) only [key]
  rw [if_neg h6, if_neg h6]
  by_cases h7 : j < 16
  · rw [if_pos h7, if_pos h7]; unfold oAc; simp (disch := omega) only [key]
  rw [if_neg h7, if_neg h7]
  by_cases h8 : j < 46
  · rw [if_pos h8, if_pos h8]; unfold oJb; simp (disch := omega) only [key]
  rw [if_neg h8, if_neg h8]
  by_cases h9 : j < 76
  · rw [if_pos h9, if_pos h9, ar_ne (by omega)]
  rw [if_neg h9, if_neg h9]; unfold oHd; simp (disch := omega) only [key]
theorem mx_On {E : Ew} {B : Nat} {t : TT} {f i : Nat} {x : Int} {n : Nat} (hf : f = 100 + n) (hn : n < 30) : ∀ j, j < 85 → j ≠ 46 + n → mcel E B (tu t f i x) j = mcel E B t j := by
  intro j hj hne
  have key : ∀ a b, ¬ (a = f ∧ b = i) → tu t f i x a b = t a b := fun a b h => tu_ne h
  unfold mcel
  by_cases h0 : j = 0
  · rw [if_pos h0, if_pos h0]; unfold oMc; simp (disch := omega) only [key]
  by_cases h1 : j = 1
  · rw [if_neg h0, if_neg h0, if_pos h1, if_pos h1]
  by_cases h2 : j = 2
  · rw [if_neg h0, if_neg h0, if_neg h1, if_neg h1, if_pos h2, if_pos h2]
  by_cases h3 : j = 3
  · rw [if_neg h0, if_neg h0, if_neg h1, if_neg h1, if_neg h2, if_neg h2, if_pos h3, if_pos h3]
  by_cases h4 : j = 4
  · rw [if_neg h0, if_neg h0, if_neg h1, if_neg h1, if_neg h2, if_neg h2, if_neg h3, if_neg h3, if_pos h4, if_pos h4]
  rw [if_neg h0, if_neg h0, if_neg h1, if_neg h1, if_neg h2, if_neg h2, if_neg h3, if_neg h3, if_neg h4, if_neg h4]
  by_cases h5 : j = 5
  · rw [if_pos h5, if_pos h5, ar_ne (by omega)]
  rw [if_neg h5, if_neg h5]
  by_cases h6 : j < 10
  · rw [if_pos h6, if_pos h6]; unfold oRk; simp (disch := omega) only [key]
  rw [if_neg h6, if_neg h6]
  by_cases h7 : j < 16
  · rw [if_pos h7, if_pos h7]; unfold oAc; simp (disch := omega) only [key]
  rw [if_neg h7, if_neg h7]
  by_cases h8 : j < 46
  · rw [if_pos h8, if_pos h8]; unfold oJb; simp (disch := omega) only [key]
  rw [if_neg h8, if_neg h8]
  by_cases h9 : j < 76
  · rw [if_pos h9, if_pos h9, ar_ne (by omega)]
  rw [if_neg h9, if_neg h9]; unfold oHd; simp (disch := omega) only [key]
theorem mx_Hd {E : Ew} {B : Nat} {t : TT} {f i : Nat} {x : Int} (h1 : 31 ≤ f) (h2 : f ≤ 34) (hi : i < 9) : ∀ j, j < 85 → j ≠ 76 + i → mcel E B (tu t f i x) j = mcel E B t j := by
  intro j hj hne
  have key : ∀ a b, ¬ (a = f ∧ b = i) → tu t f i x a b = t a b := fun a b h => tu_ne h
  unfold mcel
  by_cases h0 : j = 0
  · rw [if_pos h0, if_pos h0]; unfold oMc; simp (disch := omega) only [key]
  by_cases h1 : j = 1
  · rw [if_neg h0, if_neg h0, if_pos h1, if_pos h1]
  by_cases h2 : j = 2
  · rw [if_neg h0, if_neg h0, if_neg h1, if_neg h1, if_pos h2, if_pos h2]
  by_cases h3 : j = 3
  · rw [if_neg h0, if_neg h0, if_neg h1, if_neg h1, if_neg h2, if_neg h2, if_pos h3, if_pos h3]
  by_cases h4 : j = 4
  · rw [if_neg h0, if_neg h0, if_neg h1, if_neg h1, if_neg h2, if_neg h2, if_neg h3, if_neg h3, if_pos h4, if_pos h4]
  rw [if_neg h0, if_neg h0, if_neg h1, if_neg h1, if_neg h2, if_neg h2, if_neg h3, if_neg h3, if_neg h4, if_neg h4]
  by_cases h5 : j = 5
  · rw [if_pos h5, if_pos h5, ar_ne (by omega)]
  rw [if_neg h5, if_neg h5]
  by_cases h6 : j < 10
  · rw [if_pos h6, if_pos h6]; unfold oRk; simp (disch := omega) only [key]
  rw [if_neg h6, if_neg h6]
  by_cases h7 : j < 16
  · rw [if_pos h7, if_pos h7]; unfold oAc; simp (disch := omega) only [key]
  rw [if_neg h7, if_neg h7]
  by_cases h8 : j < 46
  · rw [if_pos h8, if_pos h8]; unfold oJb; simp (disch := omega) only [key]
  rw [if_neg h8, if_neg h8]
  by_cases h9 : j < 76
  · rw [if_pos h9, if_pos h9, ar_ne (by omega)]
  rw [if_neg h9, if_neg h9]; unfold oHd; simp (disch := omega) only [key]
theorem zD_ne {E : Ew} {S : WW} {t t' : TT} {k : Nat} (h1 : k ≠ 1 → oMd E t' = oMd E t) (h2 : ∀ a, a < 31 → kMd a ≠ k → ar t' (mdf a) = ar t (mdf a)) : ∀ j, j < 203 → j ≠ k → zcel E (sm S 2 t') j = zcel E (sm S 2 t) j := by
  intro j hj hne
  unfold zcel
  by_cases h0 : j = 0
  · simp [h0]
  by_cases e1 : j = 1
  · rw [if_neg h0, if_neg h0, if_pos e1, if_pos e1, sm_eq, sm_eq, h1 (by omega)]
  by_cases e2 : j < 33
  · rw [if_neg h0, if_neg h0, if_neg e1, if_neg e1, if_pos e2, if_pos e2, sm_eq, sm_eq, h2 (j - 2) (by omega) (by unfold kMd; omega)]
  rw [if_neg h0, if_neg h0, if_neg e1, if_neg e1, if_neg e2, if_neg e2, sm_ne (by omega), sm_ne (by omega), sm_ne (by omega), sm_ne (by omega)]
theorem mdf_scal : ∀ a, a < 31 → ∀ f, f ∈ [0, 1, 2, 3, 4, 5, 6, 8, 9, 10, 37, 38, 48] → mdf a ≠ f := by decide +kernel
theorem oMd_ne {E : Ew} {t : TT} {a i : Nat} {x : Int} (ha : a < 31) : oMd E (tu t (mdf a) i x) = oMd E t := by
  have key : ∀ f, f ∈ [0, 1, 2, 3, 4, 5, 6, 8, 9, 10, 37, 38, 48] → tu t (mdf a) i x f 0 = t f 0 := fun f hf => tu_ne (fun h => mdf_scal a ha f hf h.1.symm)
  unfold oMd
  rw [key 0 (by decide), key 1 (by decide), key 2 (by decide), key 3 (by decide), key 4 (by decide), key 5 (by decide), key 6 (by decide), key 8 (by decide), key 9 (by decide), key 10 (by decide), key 37 (by decide), key 38 (by decide), key 48 (by decide)]
end
section
/-! THE ROWS: 'g S pc L st': the machine at this world, place, locals and stack comes to its end as the contract has it -/
def al (L : LL) : List (Nat × Value) := (List.range L.length).filterMap (fun i => (L[i]?.join).map (fun v => (i, v)))
theorem al_mem {L : LL} {i : Nat} {v : Value} : (i, v) ∈ al L ↔ L[i]? = some (some v) := by
  unfold al
  rw [List.mem_filterMap]
  constructor
  · rintro ⟨j, hj, h⟩
    cases hL : L[j]? with
    | none => rw [hL] at h; simp at h
    | some o =>
      cases o with
      | none => rw [hL] at h; simp at h
      | some w => rw [hL] at h; simp at h; rw [← h.1, ← h.2, hL]
  · intro h
    refine ⟨i, List.mem_range.mpr ?_, by rw [h]; rfl⟩
    exact (List.getElem?_eq_some_iff.mp h).1
def LH (ls : Array Slot) (nL : Nat) (L : LL) : Prop := L.length = nL ∧ lv_has ls nL (al L) ∧ ∀ (i : Nat) (v : Value), L[i]? = some (some v) → v.category = 1
theorem LH.at {ls : Array Slot} {nL : Nat} {L : LL} (h : LH ls nL L) {i : Nat} {v : Value} (hi : L[i]? = some (some v)) : ls[i]? = some (.val v) := h.2.1.2.2 (i, v) (al_mem.mpr hi)
theorem LH.st {ls ls' : Array Slot} {nL : Nat} {L : LL} (h : LH ls nL L) {i : Nat} {v : Value} (hv : v.category = 1) (hi : i < nL) (hl : lv_has ls' nL ((i, v) :: (al L).filter (fun q => !(q.1 == i) && !(q.1 + 1 == i && q.2.category == 2)))) : LH ls' nL (L.set i (some v)) := by
  refine ⟨by rw [List.length_set]; exact h.1, ⟨hl.1, hl.2.1, fun q hq => ?_⟩, fun j w hj => ?_⟩
  · obtain ⟨j, w⟩ := q
    have hj := al_mem.mp hq
    rw [List.getElem?_set] at hj
    by_cases hji : i = j
    · subst hji
      rw [if_pos rfl, if_pos (by rw [h.1]; exact hi)] at hj
      obtain rfl : v = w := by simpa using hj
      exact hl.2.2 (i, v) List.mem_cons_self
    · rw [if_neg hji] at hj
      refine hl.2.2 (j, w) (List.mem_cons_of_mem _ (List.mem_filter.mpr ⟨al_mem.mpr hj, ?_⟩))
      have hc := h.2.2 j w hj
      simp only [hc]
      have : (j == i) = false := by simp; omega
      simp [this]
  · rw [List.getElem?_set] at hj
    by_cases hji : i = j
    · subst hji
      rw [if_pos rfl, if_pos (by rw [h.1]; exact hi)] at hj
      obtain rfl : v = w := by simpa using hj
      exact hv
    · rw [if_neg hji] at hj
      exact h.2.2 j w hj
theorem LH.sub {ls : Array Slot} {nL : Nat} {L L' : LL} (h : LH ls nL L) (hl : L'.length = nL) (hs : ∀ (i : Nat) (v : Value), L'[i]? = some (some v) → L[i]? = some (some v)) : LH ls nL L' :=
  ⟨hl, ⟨h.2.1.1, h.2.1.2.1, fun q hq => h.2.1.2.2 q (al_mem.mpr (hs q.1 q.2 (al_mem.mp hq)))⟩, fun i v hv => h.2.2 i v (hs i v hv)⟩
def Cw (g : WW → Nat → LL → List Value → Prop) (own : String) (cc : ByteArray) (nL h : Nat) (l : Launch) (E : Ew) : Prop :=
  ∃ (p : Program) (e : Env) (R : Room) (s : State) (mi : MethodId) (args : Array Value) (below : List Frame) (meth : Method) (c : Code) (cells slots : Nat) (Q : State → Prop) (A : Nat → Prop) (H0 : Heap) (D : va_G),
    CallFix p mi c cc nL s args lw_w own ∧ EOk E ∧ (∀ k, k < 203 → A (E.1 k)) ∧ va_K D classes (tys E) s ∧ (h ≤ R.frames ∧ 40 * h ≤ R.locals ∧ cells ≤ R.cells ∧ slots ≤ R.slots) ∧
    ∀ (S : WW) (pc : Nat) (L : LL) (st : List Value), g S pc L st ↔ ∀ (H : Heap) (locs : List Loc) (ls : Array Slot), va_P D classes (wld E S) H → va_S A H0 H locs → LH ls nL L → W p l e R s mi args below meth c H locs cells slots Q (F0 mi pc ls st)
def Rm (h : Nat) : Room := { frames := h, cells := 0, slots := 0, locals := 40 * h }
def Ax (E : Ew) : Nat → Prop := fun q => ∃ k, k < 203 ∧ q = E.1 k
def Wat (E : Ew) (D : va_G) (S : WW) (U : State) : Prop := EOk E ∧ va_P D classes (wld E S) U.heap ∧ va_K D classes (tys E) U
def Qx (E : Ew) (D : va_G) (v : Option Value) (S' : WW) : Array Value → State → Outcome → State → Prop := fun _ st oc t => (oc = .returned v ∧ va_P D classes (wld E S') t.heap) ∧ va_F (Ax E) st t
/-- a method's contract: at world S and these arguments it answers v and leaves world S' -/
def Kf (l : Launch) (y : MethodName) (cc : ByteArray) (nL : Nat) (ret : Option FieldType) (h : Nat) (E : Ew) (S : WW) (as : List Value) (v : Option Value) (S' : WW) : Prop :=
  ∀ D : va_G, Met l y (Cond.code y cc nL ret :: lw_w) (Rm h) (va_Pc as (Wat E D S)) (Qx E D v S') 0 0 (Ax E)
theorem lw_wgood : GoodIn lw_w lw_w := fun w hw => ⟨hw, good_of_word (List.mem_filter.mp hw).2⟩
theorem good_c {y : MethodName} {cc : ByteArray} {nL : Nat} {ret : Option FieldType} (h : Cond.code y cc nL ret ∈ lw_w) : GoodIn lw_w (Cond.code y cc nL ret :: lw_w) := fun w hw => by
  rcases List.mem_cons.mp hw with rfl | hw
  · exact lw_wgood _ h
  · exact lw_wgood _ hw
theorem good_V {own C : String} {idx : Nat} {y : MethodName} {cc : ByteArray} {nL : Nat} {ret : Option FieldType} (hl : Cond.methodLink own idx y ∈ lw_w) (hi : Cond.instanceMethod y ∈ lw_w) (hs : Cond.selects C y y ∈ lw_w) (hn : Cond.initialized C ∈ lw_w) (h : Cond.code y cc nL ret ∈ lw_w) : GoodIn lw_w (wsV own idx C y (Cond.code y cc nL ret :: lw_w)) := fun w hw => by
  rcases List.mem_append.mp hw with hw | hw
  · rcases List.mem_cons.mp hw with rfl | hw
    · exact lw_wgood _ hl
    rcases List.mem_cons.mp hw with rfl | hw
    · exact lw_wgood _ hi
    rcases List.mem_cons.mp hw with rfl | hw
    · exact lw_wgood _ hs
    rcases List.mem_cons.mp hw with rfl | hw
    · exact lw_wgood _ hn
    cases hw
  · exact good_c h w hw
theorem good_S {own : String} {idx : Nat} {y : MethodName} {cc : ByteArray} {nL : Nat} {ret : Option FieldType} (hl : Cond.methodLink own idx y ∈ lw_w) (hi : Cond.static y ∈ lw_w) (hn : Cond.initialized y.cls ∈ lw_w) (h : Cond.code y cc nL ret ∈ lw_w) : GoodIn lw_w (va_wsS own idx y (Cond.code y cc nL ret :: lw_w)) := fun w hw => by
  rcases List.mem_append.mp hw with hw | hw
  · rcases List.mem_cons.mp hw with rfl | hw
    · exact lw_wgood _ hl
    rcases List.mem_cons.mp hw with rfl | hw
    · exact lw_wgood _ hi
    rcases List.mem_cons.mp hw with rfl | hw
    · exact lw_wgood _ hn
    cases hw
  · exact good_c h w hw
theorem Wat_blind {E : Ew} {D : va_G} {S : WW} {as : List Value} : FrameBlind (va_Pc as (Wat E D S)) := fun a U f mk h => by
  obtain ⟨h1, h2, h3, h4⟩ := h
  exact ⟨h1, h2, h3, va_K.moved (u := U) (U := U.calling f mk a) (Vm.Alike.refl U.vm) h4⟩
theorem Ax_A {E : Ew} {A : Nat → Prop} (hA : ∀ k, k < 203 → A (E.1 k)) : ∀ q, Ax E q → A q := fun q hq => by
  obtain ⟨k, hk, rfl⟩ := hq; exact hA k hk
section CALL
variable {p : Program} {l : Launch} {e : Env} {R : Room} {s : State} {mi : MethodId} {args : Array Value} {below : List Frame} {meth : Method} {c : Code} {H : Heap} {locs : List Loc} {cells slots : Nat} {Q : State → Prop} {pc : Nat} {ls : Array Slot} {rest st0 : List Value} {a : Array Value} {A0 : Nat → Prop} {H0 : Heap} {E : Ew} {D : va_G} {v : Option Value} {S' : WW}
theorem cq_call (hr : va_Run p l e R s mi args below meth c H locs cells slots 0 0 (F0 mi pc ls st0) rest (Qx E D v S' a) (Ax E)) (hS : va_S A0 H0 H locs) (hA : ∀ q, Ax E q → A0 q)
    (kk : ∀ (H1 : Heap) (locs1 : List Loc), va_P D classes (wld E S') H1 → va_S A0 H0 H1 locs1 → W p l e R s mi args below meth c H1 locs1 cells slots Q (F0 mi (pc + 3) ls (v.toList ++ rest))) : W p l e R s mi args below meth c H locs cells slots Q (F0 mi pc ls st0) := by
  intro T hT X
  obtain ⟨v2, st₀, t, T', L, h0, X', hL, e1, e2, ⟨⟨hv, hp⟩, hz, hk⟩, st⟩ := hr T hT X
  cases hv
  rw [h0] at hz hk
  obtain ⟨t2, a1, b1⟩ := kk T'.heap (locs ++ L) (by rw [e1]; exact hp)
    ⟨Nat.le_trans hS.1 (by rw [e1]; exact hz), fun q h1 h2 => by rw [e1, hk q (Nat.lt_of_lt_of_le h1 hS.1) (fun z => h2 (hA q z))]; exact hS.2.1 q h1 h2, fun q hq => by
      rcases List.mem_append.mp hq with h | h
      · exact hS.2.2 q h
      · exact hA _ (hL q h)⟩ T' rfl X'
  exact ⟨t2, st t2 a1, b1⟩
end CALL
section ROWS
variable {g : WW → Nat → LL → List Value → Prop} {own : String} {cc : ByteArray} {nL h : Nat} {l : Launch} {E : Ew} {S S' S0 : WW} {pc : Nat} {L : LL} {st : List Value} {m : Nat} {t : TT}
/-- an instance method is called -/
theorem r_callV (C : Cw g own cc nL h l E) {y : MethodName} {cb : ByteArray} {nB hB idx : Nat} {ret : Option FieldType} {as : List Value} {k : Nat} {v : Option Value} (K : Kf l y cb nB ret hB E S (rf E k :: as) v S') (hh : hB < h) (hn : nB ≤ 21) (hl : Cond.methodLink own idx y ∈ lw_w) (hi : Cond.instanceMethod y ∈ lw_w) (hs : Cond.selects y.cls y y ∈ lw_w) (hc : Cond.code y cb nB ret ∈ lw_w) (hin : Cond.initialized y.cls ∈ lw_w)
    (hd : y.cls ≠ "java/lang/invoke/MethodHandle" ∧ y.cls ≠ "java/lang/invoke/VarHandle" ∧ (parseMethodDescriptor y.desc).map (fun d => d.parameters.length) = some as.length) {ci : Nat} {fs : List Value} {q : vw_C} (hk : k < 203) (hz : zcel E S k = .inr (ci, fs)) (hq : classes[ci]? = some q) (hqc : q.1 = y.cls) (hW : (st.map fun v => v.category).sum ≤ 8)
    (d : decode cc pc = .ok (.invokevirtual idx, 3)) (kk : g S' (pc + 3) L (v.toList ++ st)) : g S pc L (as.reverse ++ rf E k :: st) := by
  obtain ⟨p, e, R, s, mi, args, below, meth, c, cells, slots, Q, A, H0, D, ⟨hx, hb, hml, hown, hts⟩, hE, hA, hK, hR, hg⟩ := C
  refine (hg _ _ _ _).mpr fun H locs ls hP hS hL => ?_
  have hwk := wld_at (E := E) (S := S) hk
  rw [hz] at hwk
  refine cq_call (va_runV (Ts := lw_w) (own := own) (C := y.cls) (As := as) (rest := st) (b := E.1 k) (n := as.length) (bytes := cb) (maxL := nB) (ret := ret) ⟨hx, hb, hml, hown, hts⟩ (K D) (cwV as.length hts (good_V hl hi hs hin hc) rfl rfl rfl ⟨rfl, hd⟩ ⟨by show hB + 1 ≤ _; omega, by show 8 + (nB + 11) + 40 * hB ≤ _; omega⟩) ⟨Wat_blind, by rw [← hqc]; exact va_recv hK hP hq hwk, fun U hU hW => ⟨rfl, hE, by rw [hU]; exact hP, va_K.moved hW.alike hK⟩⟩ rfl rfl hL.2.1.1 rfl (lv_room hW) d ⟨by omega, by omega⟩) hS (Ax_A hA) fun H1 locs1 hP1 hS1 => (hg _ _ _ _).mp kk H1 locs1 ls hP1 hS1 hL
/-- a static method is called -/
theorem r_callS (C : Cw g own cc nL h l E) {y : MethodName} {cb : ByteArray} {nB hB idx : Nat} {ret : Option FieldType} {as : List Value} {v : Option Value} (K : Kf l y cb nB ret hB E S as v S') (hh : hB < h) (hn : nB ≤ 21) (hl : Cond.methodLink own idx y ∈ lw_w) (hi : Cond.static y ∈ lw_w) (hc : Cond.code y cb nB ret ∈ lw_w) (hin : Cond.initialized y.cls ∈ lw_w)
    (hd : y.cls ≠ "java/lang/invoke/MethodHandle" ∧ y.cls ≠ "java/lang/invoke/VarHandle" ∧ (parseMethodDescriptor y.desc).map (fun d => d.parameters.length) = some as.length) (hW : (st.map fun v => v.category).sum ≤ 8)
    (d : decode cc pc = .ok (.invokestatic idx, 3)) (kk : g S' (pc + 3) L (v.toList ++ st)) : g S pc L (as.reverse ++ st) := by
  obtain ⟨p, e, R, s, mi, args, below, meth, c, cells, slots, Q, A, H0, D, ⟨hx, hb, hml, hown, hts⟩, hE, hA, hK, hR, hg⟩ := C
  refine (hg _ _ _ _).mpr fun H locs ls hP hS hL => ?_
  refine cq_call (va_runS (Ts := lw_w) (own := own) (As := as) (rest := st) (n := as.length) (bytes := cb) (maxL := nB) (ret := ret) ⟨hx, hb, hml, hown, hts⟩ (K D) (va_cwS as.length hts (good_S hl hi hin hc) rfl rfl rfl hd ⟨by show hB + 1 ≤ _; omega, by show 8 + (nB + 11) + 40 * hB ≤ _; omega⟩) ⟨Wat_blind, fun U hU hW => ⟨rfl, hE, by rw [hU]; exact hP, va_K.moved hW.alike hK⟩⟩ rfl rfl hL.2.1.1 rfl (lv_room hW) d ⟨by omega, by omega⟩) hS (Ax_A hA) fun H1 locs1 hP1 hS1 => (hg _ _ _ _).mp kk H1 locs1 ls hP1 hS1 hL
/-- a static call of a static own method (class = own) is the same row; Math.min apart -/
theorem r_min (C : Cw g own cc nL h l E) {idx : Nat} {a b : Int} (ha : ir a) (hb' : ir b) (hh : 0 < h) (hl : Cond.methodLink own idx Lib.Math.min.name ∈ lw_w) (hi : Cond.static Lib.Math.min.name ∈ lw_w) (hn : Cond.initialized "java/lang/Math" ∈ lw_w) (hc : Cond.code Lib.Math.min.name Lib.Math.min.code 2 (some .int) ∈ lw_w) (hW : (st.map fun v => v.category).sum ≤ 8)
    (d : decode cc pc = .ok (.invokestatic idx, 3)) (kk : g S (pc + 3) L (iv (min a b) :: st)) : g S pc L (iv b :: iv a :: st) := by
  obtain ⟨p, e, R, s, mi, args, below, meth, c, cells, slots, Q, A, H0, D, ⟨hx, hb, hml, hown, hts⟩, hE, hA, hK, hR, hg⟩ := C
  refine (hg _ _ _ _).mpr fun H locs ls hP hS hL => ?_
  refine va_mmin hx hb (by rw [hml]; exact hL.2.1.1.symm) hown (hts _ hl) (hts _ hi) (hts _ hn) (hts _ hc) (by omega) (by omega) hR.2.2.1 hR.2.2.2 d ?_
  have e1 : (if Int32.ofInt b < Int32.ofInt a then Int32.ofInt b else Int32.ofInt a) = Int32.ofInt (min a b) := by
    by_cases q : b < a
    · rw [if_pos ((ir_lt hb' ha).mpr q), Int.min_eq_right (by omega)]
    · rw [if_neg (fun z => q ((ir_lt hb' ha).mp z)), Int.min_eq_left (by omega)]
  rw [e1]
  exact (hg _ _ _ _).mp kk H locs ls hP hS hL
/-- fewer locals known -/
theorem r_sub (C : Cw g own cc nL h l E) {L' : LL} (hl : L'.length = nL) (hs : ∀ (i : Nat) (v : Value), L'[i]? = some (some v) → L[i]? = some (some v)) (kk : g S pc L' st) : g S pc L st := by
  obtain ⟨p, e, R, s, mi, args, below, meth, c, cells, slots, Q, A, H0, D, hf, hE, hA, hK, hR, hg⟩ := C
  exact (hg _ _ _ _).mpr fun H locs ls hP hS hL => (hg _ _ _ _).mp kk H locs ls hP hS (hL.sub hl hs)

theorem r_iconst (C : Cw g own cc nL h l E) {n : Int} (d : decode cc pc = .ok (.iconst n, 1)) (kk : g S (pc + 1) L (iv n :: st)) : g S pc L st := by
  obtain ⟨p, e0, R, s, mi, args, below, meth, c, cells, slots, Q, A, H0, D, ⟨hx, hb, hml, hown, hts⟩, hE, hA, hK, hR, hg⟩ := C
  refine (hg _ _ _ _).mpr fun H locs ls hP hS hL => ?_
  exact lv_iconst hx hb d rfl ((hg _ _ _ _).mp kk H locs ls hP hS hL)
theorem r_bipush (C : Cw g own cc nL h l E) {n : Int} (d : decode cc pc = .ok (.bipush n, 2)) (hn : (Int8.ofInt n).toInt32 = Int32.ofInt n) (kk : g S (pc + 2) L (iv n :: st)) : g S pc L st := by
  obtain ⟨p, e0, R, s, mi, args, below, meth, c, cells, slots, Q, A, H0, D, ⟨hx, hb, hml, hown, hts⟩, hE, hA, hK, hR, hg⟩ := C
  refine (hg _ _ _ _).mpr fun H locs ls hP hS hL => ?_
  exact lv_bipush hx hb d hn ((hg _ _ _ _).mp kk H locs ls hP hS hL)
theorem r_sipush (C : Cw g own cc nL h l E) {n : Int} (d : decode cc pc = .ok (.sipush n, 3)) (hn : (Int16.ofInt n).toInt32 = Int32.ofInt n) (kk : g S (pc + 3) L (iv n :: st)) : g S pc L st := by
  obtain ⟨p, e0, R, s, mi, args, below, meth, c, cells, slots, Q, A, H0, D, ⟨hx, hb, hml, hown, hts⟩, hE, hA, hK, hR, hg⟩ := C
  refine (hg _ _ _ _).mpr fun H locs ls hP hS hL => ?_
  exact lv_sipush hx hb d hn ((hg _ _ _ _).mp kk H locs ls hP hS hL)
theorem r_iload_n (C : Cw g own cc nL h l E) {k : Fin 4} {v : Int} (d : decode cc pc = .ok (.iload_n k, 1)) (hl : L[(k : Nat)]? = some (some (iv v))) (kk : g S (pc + 1) L (iv v :: st)) : g S pc L st := by
  obtain ⟨p, e0, R, s, mi, args, below, meth, c, cells, slots, Q, A, H0, D, ⟨hx, hb, hml, hown, hts⟩, hE, hA, hK, hR, hg⟩ := C
  refine (hg _ _ _ _).mpr fun H locs ls hP hS hL => ?_
  exact lv_iload_n hx hb d rfl (hL.at hl) ((hg _ _ _ _).mp kk H locs ls hP hS hL)
theorem r_iload (C : Cw g own cc nL h l E) {k : Nat} {v : Int} (d : decode cc pc = .ok (.iload k, 2)) (hl : L[k]? = some (some (iv v))) (kk : g S (pc + 2) L (iv v :: st)) : g S pc L st := by
  obtain ⟨p, e0, R, s, mi, args, below, meth, c, cells, slots, Q, A, H0, D, ⟨hx, hb, hml, hown, hts⟩, hE, hA, hK, hR, hg⟩ := C
  refine (hg _ _ _ _).mpr fun H locs ls hP hS hL => ?_
  exact lv_iload hx hb d (hL.at hl) ((hg _ _ _ _).mp kk H locs ls hP hS hL)
theorem r_aload_n (C : Cw g own cc nL h l E) {k : Fin 4} {v : Nat} (d : decode cc pc = .ok (.aload_n k, 1)) (hl : L[(k : Nat)]? = some (some (rf E v))) (kk : g S (pc + 1) L (rf E v :: st)) : g S pc L st := by
  obtain ⟨p, e0, R, s, mi, args, below, meth, c, cells, slots, Q, A, H0, D, ⟨hx, hb, hml, hown, hts⟩, hE, hA, hK, hR, hg⟩ := C
  refine (hg _ _ _ _).mpr fun H locs ls hP hS hL => ?_
  exact lv_aload_n hx hb d rfl (hL.at hl) ((hg _ _ _ _).mp kk H locs ls hP hS hL)
theorem r_aload (C : Cw g own cc nL h l E) {k : Nat} {v : Nat} (d : decode cc pc = .ok (.aload k, 2)) (hl : L[k]? = some (some (rf E v))) (kk : g S (pc + 2) L (rf E v :: st)) : g S pc L st := by
  obtain ⟨p, e0, R, s, mi, args, below, meth, c, cells, slots, Q, A, H0, D, ⟨hx, hb, hml, hown, hts⟩, hE, hA, hK, hR, hg⟩ := C
  refine (hg _ _ _ _).mpr fun H locs ls hP hS hL => ?_
  exact lv_aload hx hb d (hL.at hl) ((hg _ _ _ _).mp kk H locs ls hP hS hL)
theorem r_istore_0 (C : Cw g own cc nL h l E) {a0 : Option Value} {v : Int} (d : decode cc pc = .ok (.istore_n 0, 1)) (kk : g S (pc + 1) (some (iv v) :: L) st) : g S pc (a0 :: L) (iv v :: st) := by
  obtain ⟨p, e0, R, s, mi, args, below, meth, c, cells, slots, Q, A, H0, D, ⟨hx, hb, hml, hown, hts⟩, hE, hA, hK, hR, hg⟩ := C
  refine (hg _ _ _ _).mpr fun H locs ls hP hS hL => ?_
  exact lv_istore_n hx hb d rfl hL.2.1 (by have := hL.1; simp at this; omega) rfl (fun ls2 h2 => (hg _ _ _ _).mp kk H locs ls2 hP hS (hL.st (i := 0) (v := iv v) rfl (by have := hL.1; simp at this; omega) h2))
theorem r_astore_0 (C : Cw g own cc nL h l E) {a0 : Option Value} {v : Nat} (d : decode cc pc = .ok (.astore_n 0, 1)) (kk : g S (pc + 1) (some (rf E v) :: L) st) : g S pc (a0 :: L) (rf E v :: st) := by
  obtain ⟨p, e0, R, s, mi, args, below, meth, c, cells, slots, Q, A, H0, D, ⟨hx, hb, hml, hown, hts⟩, hE, hA, hK, hR, hg⟩ := C
  refine (hg _ _ _ _).mpr fun H locs ls hP hS hL => ?_
  exact lv_astore_n hx hb d rfl hL.2.1 (by have := hL.1; simp at this; omega) rfl (fun ls2 h2 => (hg _ _ _ _).mp kk H locs ls2 hP hS (hL.st (i := 0) (v := rf E v) rfl (by have := hL.1; simp at this; omega) h2))
theorem r_iinc_0 (C : Cw g own cc nL h l E) {a0 : Option Value} {v n : Int} (d : decode cc pc = .ok (.iinc 0 n, 3)) (kk : g S (pc + 3) (some (iv (v + n)) :: L) st) : g S pc (some (iv v) :: L) st := by
  obtain ⟨p, e0, R, s, mi, args, below, meth, c, cells, slots, Q, A, H0, D, ⟨hx, hb, hml, hown, hts⟩, hE, hA, hK, hR, hg⟩ := C
  refine (hg _ _ _ _).mpr fun H locs ls hP hS hL => ?_
  obtain ⟨kz, hkz⟩ := List.getElem?_of_mem (al_mem.mpr (show (some (iv v) :: L)[0]? = some (some (iv v)) from rfl))
  refine lv_iinc hx hb d hL.2.1 hkz rfl (by have := hL.1; simp at this; omega) rfl (fun ls2 h2 => ?_)
  rw [← Int32.ofInt_add] at h2
  exact (hg _ _ _ _).mp kk H locs ls2 hP hS (hL.st (i := 0) (v := iv (v + n)) rfl (by have := hL.1; simp at this; omega) h2)
theorem r_istore_1 (C : Cw g own cc nL h l E) {a0 a1 : Option Value} {v : Int} (d : decode cc pc = .ok (.istore_n 1, 1)) (kk : g S (pc + 1) (a0 :: some (iv v) :: L) st) : g S pc (a0 :: a1 :: L) (iv v :: st) := by
  obtain ⟨p, e0, R, s, mi, args, below, meth, c, cells, slots, Q, A, H0, D, ⟨hx, hb, hml, hown, hts⟩, hE, hA, hK, hR, hg⟩ := C
  refine (hg _ _ _ _).mpr fun H locs ls hP hS hL => ?_
  exact lv_istore_n hx hb d rfl hL.2.1 (by have := hL.1; simp at this; omega) rfl (fun ls2 h2 => (hg _ _ _ _).mp kk H locs ls2 hP hS (hL.st (i := 1) (v := iv v) rfl (by have := hL.1; simp at this; omega) h2))
theorem r_astore_1 (C : Cw g own cc nL h l E) {a0 a1 : Option Value} {v : Nat} (d : decode cc pc = .ok (.astore_n 1, 1)) (kk : g S (pc + 1) (a0 :: some (rf E v) :: L) st) : g S pc (a0 :: a1 :: L) (rf E v :: st) := by
  obtain ⟨p, e0, R, s, mi, args, below, meth, c, cells, slots, Q, A, H0, D, ⟨hx, hb, hml, hown, hts⟩, hE, hA, hK, hR, hg⟩ := C
  refine (hg _ _ _ _).mpr fun H locs ls hP hS hL => ?_
  exact lv_astore_n hx hb d rfl hL.2.1 (by have := hL.1; simp at this; omega) rfl (fun ls2 h2 => (hg _ _ _ _).mp kk H locs ls2 hP hS (hL.st (i := 1) (v := rf E v) rfl (by have := hL.1; simp at this; omega) h2))
theorem r_iinc_1 (C : Cw g own cc nL h l E) {a0 : Option Value} {v n : Int} (d : decode cc pc = .ok (.iinc 1 n, 3)) (kk : g S (pc + 3) (a0 :: some (iv (v + n)) :: L) st) : g S pc (a0 :: some (iv v) :: L) st := by
  obtain ⟨p, e0, R, s, mi, args, below, meth, c, cells, slots, Q, A, H0, D, ⟨hx, hb, hml, hown, hts⟩, hE, hA, hK, hR, hg⟩ := C
  refine (hg _ _ _ _).mpr fun H locs ls hP hS hL => ?_
  obtain ⟨kz, hkz⟩ := List.getElem?_of_mem (al_mem.mpr (show (a0 :: some (iv v) :: L)[1]? = some (some (iv v)) from rfl))
  refine lv_iinc hx hb d hL.2.1 hkz rfl (by have := hL.1; simp at this; omega) rfl (fun ls2 h2 => ?_)
  rw [← Int32.ofInt_add] at h2
  exact (hg _ _ _ _).mp kk H locs ls2 hP hS (hL.st (i := 1) (v := iv (v + n)) rfl (by have := hL.1; simp at this; omega) h2)
theorem r_istore_2 (C : Cw g own cc nL h l E) {a0 a1 a2 : Option Value} {v : Int} (d : decode cc pc = .ok (.istore_n 2, 1)) (kk : g S (pc + 1) (a0 :: a1 :: some (iv v) :: L) st) : g S pc (a0 :: a1 :: a2 :: L) (iv v :: st) := by
  obtain ⟨p, e0, R, s, mi, args, below, meth, c, cells, slots, Q, A, H0, D, ⟨hx, hb, hml, hown, hts⟩, hE, hA, hK, hR, hg⟩ := C
  refine (hg _ _ _ _).mpr fun H locs ls hP hS hL => ?_
  exact lv_istore_n hx hb d rfl hL.2.1 (by have := hL.1; simp at this; omega) rfl (fun ls2 h2 => (hg _ _ _ _).mp kk H locs ls2 hP hS (hL.st (i := 2) (v := iv v) rfl (by have := hL.1; simp at this; omega) h2))
theorem r_astore_2 (C : Cw g own cc nL h l E) {a0 a1 a2 : Option Value} {v : Nat} (d : decode cc pc = .ok (.astore_n 2, 1)) (kk : g S (pc + 1) (a0 :: a1 :: some (rf E v) :: L) st) : g S pc (a0 :: a1 :: a2 :: L) (rf E v :: st) := by
  obtain ⟨p, e0, R, s, mi, args, below, meth, c, cells, slots, Q, A, H0, D, ⟨hx, hb, hml, hown, hts⟩, hE, hA, hK, hR, hg⟩ := C
  refine (hg _ _ _ _).mpr fun H locs ls hP hS hL => ?_
  exact lv_astore_n hx hb d rfl hL.2.1 (by have := hL.1; simp at this; omega) rfl (fun ls2 h2 => (hg _ _ _ _).mp kk H locs ls2 hP hS (hL.st (i := 2) (v := rf E v) rfl (by have := hL.1; simp at this; omega) h2))
theorem r_iinc_2 (C : Cw g own cc nL h l E) {a0 a1 : Option Value} {v n : Int} (d : decode cc pc = .ok (.iinc 2 n, 3)) (kk : g S (pc + 3) (a0 :: a1 :: some (iv (v + n)) :: L) st) : g S pc (a0 :: a1 :: some (iv v) :: L) st := by
  obtain ⟨p, e0, R, s, mi, args, below, meth, c, cells, slots, Q, A, H0, D, ⟨hx, hb, hml, hown, hts⟩, hE, hA, hK, hR, hg⟩ := C
  refine (hg _ _ _ _).mpr fun H locs ls hP hS hL => ?_
  obtain ⟨kz, hkz⟩ := List.getElem?_of_mem (al_mem.mpr (show (a0 :: a1 :: some (iv v) :: L)[2]? = some (some (iv v)) from rfl))
  refine lv_iinc hx hb d hL.2.1 hkz rfl (by have := hL.1; simp at this; omega) rfl (fun ls2 h2 => ?_)
  rw [← Int32.ofInt_add] at h2
  exact (hg _ _ _ _).mp kk H locs ls2 hP hS (hL.st (i := 2) (v := iv (v + n)) rfl (by have := hL.1; simp at this; omega) h2)
theorem r_istore_3 (C : Cw g own cc nL h l E) {a0 a1 a2 a3 : Option Value} {v : Int} (d : decode cc pc = .ok (.istore_n 3, 1)) (kk : g S (pc + 1) (a0 :: a1 :: a2 :: some (iv v) :: L) st) : g S pc (a0 :: a1 :: a2 :: a3 :: L) (iv v :: st) := by
  obtain ⟨p, e0, R, s, mi, args, below, meth, c, cells, slots, Q, A, H0, D, ⟨hx, hb, hml, hown, hts⟩, hE, hA, hK, hR, hg⟩ := C
  refine (hg _ _ _ _).mpr fun H locs ls hP hS hL => ?_
  exact lv_istore_n hx hb d rfl hL.2.1 (by have := hL.1; simp at this; omega) rfl (fun ls2 h2 => (hg _ _ _ _).mp kk H locs ls2 hP hS (hL.st (i := 3) (v := iv v) rfl (by have := hL.1; simp at this; omega) h2))
theorem r_astore_3 (C : Cw g own cc nL h l E) {a0 a1 a2 a3 : Option Value} {v : Nat} (d : decode cc pc = .ok (.astore_n 3, 1)) (kk : g S (pc + 1) (a0 :: a1 :: a2 :: some (rf E v) :: L) st) : g S pc (a0 :: a1 :: a2 :: a3 :: L) (rf E v :: st) := by
  obtain ⟨p, e0, R, s, mi, args, below, meth, c, cells, slots, Q, A, H0, D, ⟨hx, hb, hml, hown, hts⟩, hE, hA, hK, hR, hg⟩ := C
  refine (hg _ _ _ _).mpr fun H locs ls hP hS hL => ?_
  exact lv_astore_n hx hb d rfl hL.2.1 (by have := hL.1; simp at this; omega) rfl (fun ls2 h2 => (hg _ _ _ _).mp kk H locs ls2 hP hS (hL.st (i := 3) (v := rf E v) rfl (by have := hL.1; simp at this; omega) h2))
theorem r_iinc_3 (C : Cw g own cc nL h l E) {a0 a1 a2 : Option Value} {v n : Int} (d : decode cc pc = .ok (.iinc 3 n, 3)) (kk : g S (pc + 3) (a0 :: a1 :: a2 :: some (iv (v + n)) :: L) st) : g S pc (a0 :: a1 :: a2 :: some (iv v) :: L) st := by
  obtain ⟨p, e0, R, s, mi, args, below, meth, c, cells, slots, Q, A, H0, D, ⟨hx, hb, hml, hown, hts⟩, hE, hA, hK, hR, hg⟩ := C
  refine (hg _ _ _ _).mpr fun H locs ls hP hS hL => ?_
  obtain ⟨kz, hkz⟩ := List.getElem?_of_mem (al_mem.mpr (show (a0 :: a1 :: a2 :: some (iv v) :: L)[3]? = some (some (iv v)) from rfl))
  refine lv_iinc hx hb d hL.2.1 hkz rfl (by have := hL.1; simp at this; omega) rfl (fun ls2 h2 => ?_)
  rw [← Int32.ofInt_add] at h2
  exact (hg _ _ _ _).mp kk H locs ls2 hP hS (hL.st (i := 3) (v := iv (v + n)) rfl (by have := hL.1; simp at this; omega) h2)
theorem r_istore_4 (C : Cw g own cc nL h l E) {a0 a1 a2 a3 a4 : Option Value} {v : Int} (d : decode cc pc = .ok (.istore 4, 2)) (kk : g S (pc + 2) (a0 :: a1 :: a2 :: a3 :: some (iv v) :: L) st) : g S pc (a0 :: a1 :: a2 :: a3 :: a4 :: L) (iv v :: st) := by
  obtain ⟨p, e0, R, s, mi, args, below, meth, c, cells, slots, Q, A, H0, D, ⟨hx, hb, hml, hown, hts⟩, hE, hA, hK, hR, hg⟩ := C
  refine (hg _ _ _ _).mpr fun H locs ls hP hS hL => ?_
  exact lv_istore hx hb d hL.2.1 (by have := hL.1; simp at this; omega) rfl (fun ls2 h2 => (hg _ _ _ _).mp kk H locs ls2 hP hS (hL.st (i := 4) (v := iv v) rfl (by have := hL.1; simp at this; omega) h2))
theorem r_astore_4 (C : Cw g own cc nL h l E) {a0 a1 a2 a3 a4 : Option Value} {v : Nat} (d : decode cc pc = .ok (.astore 4, 2)) (kk : g S (pc + 2) (a0 :: a1 :: a2 :: a3 :: some (rf E v) :: L) st) : g S pc (a0 :: a1 :: a2 :: a3 :: a4 :: L) (rf E v :: st) := by
  obtain ⟨p, e0, R, s, mi, args, below, meth, c, cells, slots, Q, A, H0, D, ⟨hx, hb, hml, hown, hts⟩, hE, hA, hK, hR, hg⟩ := C
  refine (hg _ _ _ _).mpr fun H locs ls hP hS hL => ?_
  exact lv_astore hx hb d hL.2.1 (by have := hL.1; simp at this; omega) rfl (fun ls2 h2 => (hg _ _ _ _).mp kk H locs ls2 hP hS (hL.st (i := 4) (v := rf E v) rfl (by have := hL.1; simp at this; omega) h2))
theorem r_iinc_4 (C : Cw g own cc nL h l E) {a0 a1 a2 a3 : Option Value} {v n : Int} (d : decode cc pc = .ok (.iinc 4 n, 3)) (kk : g S (pc + 3) (a0 :: a1 :: a2 :: a3 :: some (iv (v + n)) :: L) st) : g S pc (a0 :: a1 :: a2 :: a3 :: some (iv v) :: L) st := by
  obtain ⟨p, e0, R, s, mi, args, below, meth, c, cells, slots, Q, A, H0, D, ⟨hx, hb, hml, hown, hts⟩, hE, hA, hK, hR, hg⟩ := C
  refine (hg _ _ _ _).mpr fun H locs ls hP hS hL => ?_
  obtain ⟨kz, hkz⟩ := List.getElem?_of_mem (al_mem.mpr (show (a0 :: a1 :: a2 :: a3 :: some (iv v) :: L)[4]? = some (some (iv v)) from rfl))
  refine lv_iinc hx hb d hL.2.1 hkz rfl (by have := hL.1; simp at this; omega) rfl (fun ls2 h2 => ?_)
  rw [← Int32.ofInt_add] at h2
  exact (hg _ _ _ _).mp kk H locs ls2 hP hS (hL.st (i := 4) (v := iv (v + n)) rfl (by have := hL.1; simp at this; omega) h2)
theorem r_istore_5 (C : Cw g own cc nL h l E) {a0 a1 a2 a3 a4 a5 : Option Value} {v : Int} (d : decode cc pc = .ok (.istore 5, 2)) (kk : g S (pc + 2) (a0 :: a1 :: a2 :: a3 :: a4 :: some (iv v) :: L) st) : g S pc (a0 :: a1 :: a2 :: a3 :: a4 :: a5 :: L) (iv v :: st) := by
  obtain ⟨p, e0, R, s, mi, args, below, meth, c, cells, slots, Q, A, H0, D, ⟨hx, hb, hml, hown, hts⟩, hE, hA, hK, hR, hg⟩ := C
  refine (hg _ _ _ _).mpr fun H locs ls hP hS hL => ?_
  exact lv_istore hx hb d hL.2.1 (by have := hL.1; simp at this; omega) rfl (fun ls2 h2 => (hg _ _ _ _).mp kk H locs ls2 hP hS (hL.st (i := 5) (v := iv v) rfl (by have := hL.1; simp at this; omega) h2))
theorem r_astore_5 (C : Cw g own cc nL h l E) {a0 a1 a2 a3 a4 a5 : Option Value} {v : Nat} (d : decode cc pc = .ok (.astore 5, 2)) (kk : g S (pc + 2) (a0 :: a1 :: a2 :: a3 :: a4 :: some (rf E v) :: L) st) : g S pc (a0 :: a1 :: a2 :: a3 :: a4 :: a5 :: L) (rf E v :: st) := by
  obtain ⟨p, e0, R, s, mi, args, below, meth, c, cells, slots, Q, A, H0, D, ⟨hx, hb, hml, hown, hts⟩, hE, hA, hK, hR, hg⟩ := C
  refine (hg _ _ _ _).mpr fun H locs ls hP hS hL => ?_
  exact lv_astore hx hb d hL.2.1 (by have := hL.1; simp at this; omega) rfl (fun ls2 h2 => (hg _ _ _ _).mp kk H locs ls2 hP hS (hL.st (i := 5) (v := rf E v) rfl (by have := hL.1; simp at this; omega) h2))
theorem r_iinc_5 (C : Cw g own cc nL h l E) {a0 a1 a2 a3 a4 : Option Value} {v n : Int} (d : decode cc pc = .ok (.iinc 5 n, 3)) (kk : g S (pc + 3) (a0 :: a1 :: a2 :: a3 :: a4 :: some (iv (v + n)) :: L) st) : g S pc (a0 :: a1 :: a2 :: a3 :: a4 :: some (iv v) :: L) st := by
  obtain ⟨p, e0, R, s, mi, args, below, meth, c, cells, slots, Q, A, H0, D, ⟨hx, hb, hml, hown, hts⟩, hE, hA, hK, hR, hg⟩ := C
  refine (hg _ _ _ _).mpr fun H locs ls hP hS hL => ?_
  obtain ⟨kz, hkz⟩ := List.getElem?_of_mem (al_mem.mpr (show (a0 :: a1 :: a2 :: a3 :: a4 :: some (iv v) :: L)[5]? = some (some (iv v)) from rfl))
  refine lv_iinc hx hb d hL.2.1 hkz rfl (by have := hL.1; simp at this; omega) rfl (fun ls2 h2 => ?_)
  rw [← Int32.ofInt_add] at h2
  exact (hg _ _ _ _).mp kk H locs ls2 hP hS (hL.st (i := 5) (v := iv (v + n)) rfl (by have := hL.1; simp at this; omega) h2)
theorem r_istore_6 (C : Cw g own cc nL h l E) {a0 a1 a2 a3 a4 a5 a6 : Option Value} {v : Int} (d : decode cc pc = .ok (.istore 6, 2)) (kk : g S (pc + 2) (a0 :: a1 :: a2 :: a3 :: a4 :: a5 :: some (iv v) :: L) st) : g S pc (a0 :: a1 :: a2 :: a3 :: a4 :: a5 :: a6 :: L) (iv v :: st) := by
  obtain ⟨p, e0, R, s, mi, args, below, meth, c, cells, slots, Q, A, H0, D, ⟨hx, hb, hml, hown, hts⟩, hE, hA, hK, hR, hg⟩ := C
  refine (hg _ _ _ _).mpr fun H locs ls hP hS hL => ?_
  exact lv_istore hx hb d hL.2.1 (by have := hL.1; simp at this; omega) rfl (fun ls2 h2 => (hg _ _ _ _).mp kk H locs ls2 hP hS (hL.st (i := 6) (v := iv v) rfl (by have := hL.1; simp at this; omega) h2))
theorem r_astore_6 (C : Cw g own cc nL h l E) {a0 a1 a2 a3 a4 a5 a6 : Option Value} {v : Nat} (d : decode cc pc = .ok (.astore 6, 2)) (kk : g S (pc + 2) (a0 :: a1 :: a2 :: a3 :: a4 :: a5 :: some (rf E v) :: L) st) : g S pc (a0 :: a1 :: a2 :: a3 :: a4 :: a5 :: a6 :: L) (rf E v :: st) := by
  obtain ⟨p, e0, R, s, mi, args, below, meth, c, cells, slots, Q, A, H0, D, ⟨hx, hb, hml, hown, hts⟩, hE, hA, hK, hR, hg⟩ := C
  refine (hg _ _ _ _).mpr fun H locs ls hP hS hL => ?_
  exact lv_astore hx hb d hL.2.1 (by have := hL.1; simp at this; omega) rfl (fun ls2 h2 => (hg _ _ _ _).mp kk H locs ls2 hP hS (hL.st (i := 6) (v := rf E v) rfl (by have := hL.1; simp at this; omega) h2))
theorem r_iinc_6 (C : Cw g own cc nL h l E) {a0 a1 a2 a3 a4 a5 : Option Value} {v n : Int} (d : decode cc pc = .ok (.iinc 6 n, 3)) (kk : g S (pc + 3) (a0 :: a1 :: a2 :: a3 :: a4 :: a5 :: some (iv (v + n)) :: L) st) : g S pc (a0 :: a1 :: a2 :: a3 :: a4 :: a5 :: some (iv v) :: L) st := by
  obtain ⟨p, e0, R, s, mi, args, below, meth, c, cells, slots, Q, A, H0, D, ⟨hx, hb, hml, hown, hts⟩, hE, hA, hK, hR, hg⟩ := C
  refine (hg _ _ _ _).mpr fun H locs ls hP hS hL => ?_
  obtain ⟨kz, hkz⟩ := List.getElem?_of_mem (al_mem.mpr (show (a0 :: a1 :: a2 :: a3 :: a4 :: a5 :: some (iv v) :: L)[6]? = some (some (iv v)) from rfl))
  refine lv_iinc hx hb d hL.2.1 hkz rfl (by have := hL.1; simp at this; omega) rfl (fun ls2 h2 => ?_)
  rw [← Int32.ofInt_add] at h2
  exact (hg _ _ _ _).mp kk H locs ls2 hP hS (hL.st (i := 6) (v := iv (v + n)) rfl (by have := hL.1; simp at this; omega) h2)
theorem r_istore_7 (C : Cw g own cc nL h l E) {a0 a1 a2 a3 a4 a5 a6 a7 : Option Value} {v : Int} (d : decode cc pc = .ok (.istore 7, 2)) (kk : g S (pc + 2) (a0 :: a1 :: a2 :: a3 :: a4 :: a5 :: a6 :: some (iv v) :: L) st) : g S pc (a0 :: a1 :: a2 :: a3 :: a4 :: a5 :: a6 :: a7 :: L) (iv v :: st) := by
  obtain ⟨p, e0, R, s, mi, args, below, meth, c, cells, slots, Q, A, H0, D, ⟨hx, hb, hml, hown, hts⟩, hE, hA, hK, hR, hg⟩ := C
  refine (hg _ _ _ _).mpr fun H locs ls hP hS hL => ?_
  exact lv_istore hx hb d hL.2.1 (by have := hL.1; simp at this; omega) rfl (fun ls2 h2 => (hg _ _ _ _).mp kk H locs ls2 hP hS (hL.st (i := 7) (v := iv v) rfl (by have := hL.1; simp at this; omega) h2))
theorem r_astore_7 (C : Cw g own cc nL h l E) {a0 a1 a2 a3 a4 a5 a6 a7 : Option Value} {v : Nat} (d : decode cc pc = .ok (.astore 7, 2)) (kk : g S (pc + 2) (a0 :: a1 :: a2 :: a3 :: a4 :: a5 :: a6 :: some (rf E v) :: L) st) : g S pc (a0 :: a1 :: a2 :: a3 :: a4 :: a5 :: a6 :: a7 :: L) (rf E v :: st) := by
  obtain ⟨p, e0, R, s, mi, args, below, meth, c, cells, slots, Q, A, H0, D, ⟨hx, hb, hml, hown, hts⟩, hE, hA, hK, hR, hg⟩ := C
  refine (hg _ _ _ _).mpr fun H locs ls hP hS hL => ?_
  exact lv_astore hx hb d hL.2.1 (by have := hL.1; simp at this; omega) rfl (fun ls2 h2 => (hg _ _ _ _).mp kk H locs ls2 hP hS (hL.st (i := 7) (v := rf E v) rfl (by have := hL.1; simp at this; omega) h2))
theorem r_iinc_7 (C : Cw g own cc nL h l E) {a0 a1 a2 a3 a4 a5 a6 : Option Value} {v n : Int} (d : decode cc pc = .ok (.iinc 7 n, 3)) (kk : g S (pc + 3) (a0 :: a1 :: a2 :: a3 :: a4 :: a5 :: a6 :: some (iv (v + n)) :: L) st) : g S pc (a0 :: a1 :: a2 :: a3 :: a4 :: a5 :: a6 :: some (iv v) :: L) st := by
  obtain ⟨p, e0, R, s, mi, args, below, meth, c, cells, slots, Q, A, H0, D, ⟨hx, hb, hml, hown, hts⟩, hE, hA, hK, hR, hg⟩ := C
  refine (hg _ _ _ _).mpr fun H locs ls hP hS hL => ?_
  obtain ⟨kz, hkz⟩ := List.getElem?_of_mem (al_mem.mpr (show (a0 :: a1 :: a2 :: a3 :: a4 :: a5 :: a6 :: some (iv v) :: L)[7]? = some (some (iv v)) from rfl))
  refine lv_iinc hx hb d hL.2.1 hkz rfl (by have := hL.1; simp at this; omega) rfl (fun ls2 h2 => ?_)
  rw [← Int32.ofInt_add] at h2
  exact (hg _ _ _ _).mp kk H locs ls2 hP hS (hL.st (i := 7) (v := iv (v + n)) rfl (by have := hL.1; simp at this; omega) h2)
theorem r_istore_8 (C : Cw g own cc nL h l E) {a0 a1 a2 a3 a4 a5 a6 a7 a8 : Option Value} {v : Int} (d : decode cc pc = .ok (.istore 8, 2)) (kk : g S (pc + 2) (a0 :: a1 :: a2 :: a3 :: a4 :: a5 :: a6 :: a7 :: some (iv v) :: L) st) : g S pc (a0 :: a1 :: a2 :: a3 :: a4 :: a5 :: a6 :: a7 :: a8 :: L) (iv v :: st) := by
  obtain ⟨p, e0, R, s, mi, args, below, meth, c, cells, slots, Q, A, H0, D, ⟨hx, hb, hml, hown, hts⟩, hE, hA, hK, hR, hg⟩ := C
  refine (hg _ _ _ _).mpr fun H locs ls hP hS hL => ?_
  exact lv_istore hx hb d hL.2.1 (by have := hL.1; simp at this; omega) rfl (fun ls2 h2 => (hg _ _ _ _).mp kk H locs ls2 hP hS (hL.st (i := 8) (v := iv v) rfl (by have := hL.1; simp at this; omega) h2))
theorem r_astore_8 (C : Cw g own cc nL h l E) {a0 a1 a2 a3 a4 a5 a6 a7 a8 : Option Value} {v : Nat} (d : decode cc pc = .ok (.astore 8, 2)) (kk : g S (pc + 2) (a0 :: a1 :: a2 :: a3 :: a4 :: a5 :: a6 :: a7 :: some (rf E v) :: L) st) : g S pc (a0 :: a1 :: a2 :: a3 :: a4 :: a5 :: a6 :: a7 :: a8 :: L) (rf E v :: st) := by
  obtain ⟨p, e0, R, s, mi, args, below, meth, c, cells, slots, Q, A, H0, D, ⟨hx, hb, hml, hown, hts⟩, hE, hA, hK, hR, hg⟩ := C
  refine (hg _ _ _ _).mpr fun H locs ls hP hS hL => ?_
  exact lv_astore hx hb d hL.2.1 (by have := hL.1; simp at this; omega) rfl (fun ls2 h2 => (hg _ _ _ _).mp kk H locs ls2 hP hS (hL.st (i := 8) (v := rf E v) rfl (by have := hL.1; simp at this; omega) h2))
theorem r_iinc_8 (C : Cw g own cc nL h l E) {a0 a1 a2 a3 a4 a5 a6 a7 : Option Value} {v n : Int} (d : decode cc pc = .ok (.iinc 8 n, 3)) (kk : g S (pc + 3) (a0 :: a1 :: a2 :: a3 :: a4 :: a5 :: a6 :: a7 :: some (iv (v + n)) :: L) st) : g S pc (a0 :: a1 :: a2 :: a3 :: a4 :: a5 :: a6 :: a7 :: some (iv v) :: L) st := by
  obtain ⟨p, e0, R, s, mi, args, below, meth, c, cells, slots, Q, A, H0, D, ⟨hx, hb, hml, hown, hts⟩, hE, hA, hK, hR, hg⟩ := C
  refine (hg _ _ _ _).mpr fun H locs ls hP hS hL => ?_
  obtain ⟨kz, hkz⟩ := List.getElem?_of_mem (al_mem.mpr (show (a0 :: a1 :: a2 :: a3 :: a4 :: a5 :: a6 :: a7 :: some (iv v) :: L)[8]? = some (some (iv v)) from rfl))
  refine lv_iinc hx hb d hL.2.1 hkz rfl (by have := hL.1; simp at this; omega) rfl (fun ls2 h2 => ?_)
  rw [← Int32.ofInt_add] at h2
  exact (hg _ _ _ _).mp kk H locs ls2 hP hS (hL.st (i := 8) (v := iv (v + n)) rfl (by have := hL.1; simp at this; omega) h2)
theorem r_istore_9 (C : Cw g own cc nL h l E) {a0 a1 a2 a3 a4 a5 a6 a7 a8 a9 : Option Value} {v : Int} (d : decode cc pc = .ok (.istore 9, 2)) (kk : g S (pc + 2) (a0 :: a1 :: a2 :: a3 :: a4 :: a5 :: a6 :: a7 :: a8 :: some (iv v) :: L) st) : g S pc (a0 :: a1 :: a2 :: a3 :: a4 :: a5 :: a6 :: a7 :: a8 :: a9 :: L) (iv v :: st) := by
  obtain ⟨p, e0, R, s, mi, args, below, meth, c, cells, slots, Q, A, H0, D, ⟨hx, hb, hml, hown, hts⟩, hE, hA, hK, hR, hg⟩ := C
  refine (hg _ _ _ _).mpr fun H locs ls hP hS hL => ?_
  exact lv_istore hx hb d hL.2.1 (by have := hL.1; simp at this; omega) rfl (fun ls2 h2 => (hg _ _ _ _).mp kk H locs ls2 hP hS (hL.st (i := 9) (v := iv v) rfl (by have := hL.1; simp at this; omega) h2))
theorem r_astore_9 (C : Cw g own cc nL h l E) {a0 a1 a2 a3 a4 a5 a6 a7 a8 a9 : Option Value} {v : Nat} (d : decode cc pc = .ok (.astore 9, 2)) (kk : g S (pc + 2) (a0 :: a1 :: a2 :: a3 :: a4 :: a5 :: a6 :: a7 :: a8 :: some (rf E v) :: L) st) : g S pc (a0 :: a1 :: a2 :: a3 :: a4 :: a5 :: a6 :: a7 :: a8 :: a9 :: L) (rf E v :: st) := by
  obtain ⟨p, e0, R, s, mi, args, below, meth, c, cells, slots, Q, A, H0, D, ⟨hx, hb, hml, hown, hts⟩, hE, hA, hK, hR, hg⟩ := C
  refine (hg _ _ _ _).mpr fun H locs ls hP hS hL => ?_
  exact lv_astore hx hb d hL.2.1 (by have := hL.1; simp at this; omega) rfl (fun ls2 h2 => (hg _ _ _ _).mp kk H locs ls2 hP hS (hL.st (i := 9) (v := rf E v) rfl (by have := hL.1; simp at this; omega) h2))
theorem r_iinc_9 (C : Cw g own cc nL h l E) {a0 a1 a2 a3 a4 a5 a6 a7 a8 : Option Value} {v n : Int} (d : decode cc pc = .ok (.iinc 9 n, 3)) (kk : g S (pc + 3) (a0 :: a1 :: a2 :: a3 :: a4 :: a5 :: a6 :: a7 :: a8 :: some (iv (v + n)) :: L) st) : g S pc (a0 :: a1 :: a2 :: a3 :: a4 :: a5 :: a6 :: a7 :: a8 :: some (iv v) :: L) st := by
  obtain ⟨p, e0, R, s, mi, args, below, meth, c, cells, slots, Q, A, H0, D, ⟨hx, hb, hml, hown, hts⟩, hE, hA, hK, hR, hg⟩ := C
  refine (hg _ _ _ _).mpr fun H locs ls hP hS hL => ?_
  obtain ⟨kz, hkz⟩ := List.getElem?_of_mem (al_mem.mpr (show (a0 :: a1 :: a2 :: a3 :: a4 :: a5 :: a6 :: a7 :: a8 :: some (iv v) :: L)[9]? = some (some (iv v)) from rfl))
  refine lv_iinc hx hb d hL.2.1 hkz rfl (by have := hL.1; simp at this; omega) rfl (fun ls2 h2 => ?_)
  rw [← Int32.ofInt_add] at h2
  exact (hg _ _ _ _).mp kk H locs ls2 hP hS (hL.st (i := 9) (v := iv (v + n)) rfl (by have := hL.1; simp at this; omega) h2)
theorem r_istore_10 (C : Cw g own cc nL h l E) {a0 a1 a2 a3 a4 a5 a6 a7 a8 a9 a10 : Option Value} {v : Int} (d : decode cc pc = .ok (.istore 10, 2)) (kk : g S (pc + 2) (a0 :: a1 :: a2 :: a3 :: a4 :: a5 :: a6 :: a7 :: a8 :: a9 :: some (iv v) :: L) st) : g S pc (a0 :: a1 :: a2 :: a3 :: a4 :: a5 :: a6 :: a7 :: a8 :: a9 :: a10 :: L) (iv v :: st) := by
  obtain ⟨p, e0, R, s, mi, args, below, meth, c, cells, slots, Q, A, H0, D, ⟨hx, hb, hml, hown, hts⟩, hE, hA, hK, hR, hg⟩ := C
  refine (hg _ _ _ _).mpr fun H locs ls hP hS hL => ?_
  exact lv_istore hx hb d hL.2.1 (by have := hL.1; simp at this; omega) rfl (fun ls2 h2 => (hg _ _ _ _).mp kk H locs ls2 hP hS (hL.st (i := 10) (v := iv v) rfl (by have := hL.1; simp at this; omega) h2))
theorem r_astore_10 (C : Cw g own cc nL h l E) {a0 a1 a2 a3 a4 a5 a6 a7 a8 a9 a10 : Option Value} {v : Nat} (d : decode cc pc = .ok (.astore 10, 2)) (kk : g S (pc + 2) (a0 :: a1 :: a2 :: a3 :: a4 :: a5 :: a6 :: a7 :: a8 :: a9 :: some (rf E v) :: L) st) : g S pc (a0 :: a1 :: a2 :: a3 :: a4 :: a5 :: a6 :: a7 :: a8 :: a9 :: a10 :: L) (rf E v :: st) := by
  obtain ⟨p, e0, R, s, mi, args, below, meth, c, cells, slots, Q, A, H0, D, ⟨hx, hb, hml, hown, hts⟩, hE, hA, hK, hR, hg⟩ := C
  refine (hg _ _ _ _).mpr fun H locs ls hP hS hL => ?_
  exact lv_astore hx hb d hL.2.1 (by have := hL.1; simp at this; omega) rfl (fun ls2 h2 => (hg _ _ _ _).mp kk H locs ls2 hP hS (hL.st (i := 10) (v := rf E v) rfl (by have := hL.1; simp at this; omega) h2))
theorem r_iinc_10 (C : Cw g own cc nL h l E) {a0 a1 a2 a3 a4 a5 a6 a7 a8 a9 : Option Value} {v n : Int} (d : decode cc pc = .ok (.iinc 10 n, 3)) (kk : g S (pc + 3) (a0 :: a1 :: a2 :: a3 :: a4 :: a5 :: a6 :: a7 :: a8 :: a9 :: some (iv (v + n)) :: L) st) : g S pc (a0 :: a1 :: a2 :: a3 :: a4 :: a5 :: a6 :: a7 :: a8 :: a9 :: some (iv v) :: L) st := by
  obtain ⟨p, e0, R, s, mi, args, below, meth, c, cells, slots, Q, A, H0, D, ⟨hx, hb, hml, hown, hts⟩, hE, hA, hK, hR, hg⟩ := C
  refine (hg _ _ _ _).mpr fun H locs ls hP hS hL => ?_
  obtain ⟨kz, hkz⟩ := List.getElem?_of_mem (al_mem.mpr (show (a0 :: a1 :: a2 :: a3 :: a4 :: a5 :: a6 :: a7 :: a8 :: a9 :: some (iv v) :: L)[10]? = some (some (iv v)) from rfl))
  refine lv_iinc hx hb d hL.2.1 hkz rfl (by have := hL.1; simp at this; omega) rfl (fun ls2 h2 => ?_)
  rw [← Int32.ofInt_add] at h2
  exact (hg _ _ _ _).mp kk H locs ls2 hP hS (hL.st (i := 10) (v := iv (v + n)) rfl (by have := hL.1; simp at this; omega) h2)
theorem r_iadd (C : Cw g own cc nL h l E) {a b : Int} (d : decode cc pc = .ok (.iadd, 1)) (kk : g S (pc + 1) L (iv (a + b) :: st)) : g S pc L (iv b :: iv a :: st) := by
  obtain ⟨p, e0, R, s, mi, args, below, meth, c, cells, slots, Q, A, H0, D, ⟨hx, hb, hml, hown, hts⟩, hE, hA, hK, hR, hg⟩ := C
  refine (hg _ _ _ _).mpr fun H locs ls hP hS hL => ?_
  refine lv_iadd hx hb d ?_
  rw [iv_add]
  exact (hg _ _ _ _).mp kk H locs ls hP hS hL
theorem r_isub (C : Cw g own cc nL h l E) {a b : Int} (d : decode cc pc = .ok (.isub, 1)) (kk : g S (pc + 1) L (iv (a - b) :: st)) : g S pc L (iv b :: iv a :: st) := by
  obtain ⟨p, e0, R, s, mi, args, below, meth, c, cells, slots, Q, A, H0, D, ⟨hx, hb, hml, hown, hts⟩, hE, hA, hK, hR, hg⟩ := C
  refine (hg _ _ _ _).mpr fun H locs ls hP hS hL => ?_
  refine lv_isub hx hb d ?_
  rw [iv_sub]
  exact (hg _ _ _ _).mp kk H locs ls hP hS hL
theorem r_imul (C : Cw g own cc nL h l E) {a b : Int} (d : decode cc pc = .ok (.imul, 1)) (kk : g S (pc + 1) L (iv (a * b) :: st)) : g S pc L (iv b :: iv a :: st) := by
  obtain ⟨p, e0, R, s, mi, args, below, meth, c, cells, slots, Q, A, H0, D, ⟨hx, hb, hml, hown, hts⟩, hE, hA, hK, hR, hg⟩ := C
  refine (hg _ _ _ _).mpr fun H locs ls hP hS hL => ?_
  refine lv_imul hx hb d ?_
  rw [iv_mul]
  exact (hg _ _ _ _).mp kk H locs ls hP hS hL
theorem r_icmp_lt (C : Cw g own cc nL h l E) {a b off : Int} {tgt : Nat} (d : decode cc pc = .ok (.if_icmp .lt off, 3)) (ht : (pc : Int) + off = (tgt : Int)) (ha : ir a) (hb' : ir b) (kt : a < b → g S tgt L st) (kf : ¬ (a < b) → g S (pc + 3) L st) : g S pc L (iv b :: iv a :: st) := by
  obtain ⟨p, e0, R, s, mi, args, below, meth, c, cells, slots, Q, A, H0, D, ⟨hx, hb, hml, hown, hts⟩, hE, hA, hK, hR, hg⟩ := C
  refine (hg _ _ _ _).mpr fun H locs ls hP hS hL => ?_
  exact lv_icmp_lt hx hb d ht (fun q => (hg _ _ _ _).mp (kt ((ir_lt ha hb').mp q)) H locs ls hP hS hL) (fun q => (hg _ _ _ _).mp (kf (fun z => q ((ir_lt ha hb').mpr z))) H locs ls hP hS hL)
theorem r_if_lt (C : Cw g own cc nL h l E) {a off : Int} {tgt : Nat} (d : decode cc pc = .ok (.ifCond .lt off, 3)) (ht : (pc : Int) + off = (tgt : Int)) (ha : ir a) (kt : a < 0 → g S tgt L st) (kf : ¬ (a < 0) → g S (pc + 3) L st) : g S pc L (iv a :: st) := by
  obtain ⟨p, e0, R, s, mi, args, below, meth, c, cells, slots, Q, A, H0, D, ⟨hx, hb, hml, hown, hts⟩, hE, hA, hK, hR, hg⟩ := C
  refine (hg _ _ _ _).mpr fun H locs ls hP hS hL => ?_
  exact lv_if_lt hx hb d ht (fun q => (hg _ _ _ _).mp (kt ((ir_lt ha ir_0).mp q)) H locs ls hP hS hL) (fun q => (hg _ _ _ _).mp (kf (fun z => q ((ir_lt ha ir_0).mpr z))) H locs ls hP hS hL)
theorem r_icmp_ge (C : Cw g own cc nL h l E) {a b off : Int} {tgt : Nat} (d : decode cc pc = .ok (.if_icmp .ge off, 3)) (ht : (pc : Int) + off = (tgt : Int)) (ha : ir a) (hb' : ir b) (kt : b ≤ a → g S tgt L st) (kf : ¬ (b ≤ a) → g S (pc + 3) L st) : g S pc L (iv b :: iv a :: st) := by
  obtain ⟨p, e0, R, s, mi, args, below, meth, c, cells, slots, Q, A, H0, D, ⟨hx, hb, hml, hown, hts⟩, hE, hA, hK, hR, hg⟩ := C
  refine (hg _ _ _ _).mpr fun H locs ls hP hS hL => ?_
  exact lv_icmp_ge hx hb d ht (fun q => (hg _ _ _ _).mp (kt ((ir_le hb' ha).mp q)) H locs ls hP hS hL) (fun q => (hg _ _ _ _).mp (kf (fun z => q ((ir_le hb' ha).mpr z))) H locs ls hP hS hL)
theorem r_if_ge (C : Cw g own cc nL h l E) {a off : Int} {tgt : Nat} (d : decode cc pc = .ok (.ifCond .ge off, 3)) (ht : (pc : Int) + off = (tgt : Int)) (ha : ir a) (kt : 0 ≤ a → g S tgt L st) (kf : ¬ (0 ≤ a) → g S (pc + 3) L st) : g S pc L (iv a :: st) := by
  obtain ⟨p, e0, R, s, mi, args, below, meth, c, cells, slots, Q, A, H0, D, ⟨hx, hb, hml, hown, hts⟩, hE, hA, hK, hR, hg⟩ := C
  refine (hg _ _ _ _).mpr fun H locs ls hP hS hL => ?_
  exact lv_if_ge hx hb d ht (fun q => (hg _ _ _ _).mp (kt ((ir_le ir_0 ha).mp q)) H locs ls hP hS hL) (fun q => (hg _ _ _ _).mp (kf (fun z => q ((ir_le ir_0 ha).mpr z))) H locs ls hP hS hL)
theorem r_icmp_gt (C : Cw g own cc nL h l E) {a b off : Int} {tgt : Nat} (d : decode cc pc = .ok (.if_icmp .gt off, 3)) (ht : (pc : Int) + off = (tgt : Int)) (ha : ir a) (hb' : ir b) (kt : b < a → g S tgt L st) (kf : ¬ (b < a) → g S (pc + 3) L st) : g S pc L (iv b :: iv a :: st) := by
  obtain ⟨p, e0, R, s, mi, args, below, meth, c, cells, slots, Q, A, H0, D, ⟨hx, hb, hml, hown, hts⟩, hE, hA, hK, hR, hg⟩ := C
  refine (hg _ _ _ _).mpr fun H locs ls hP hS hL => ?_
  exact lv_icmp_gt hx hb d ht (fun q => (hg _ _ _ _).mp (kt ((ir_lt hb' ha).mp q)) H locs ls hP hS hL) (fun q => (hg _ _ _ _).mp (kf (fun z => q ((ir_lt hb' ha).mpr z))) H locs ls hP hS hL)
theorem r_if_gt (C : Cw g own cc nL h l E) {a off : Int} {tgt : Nat} (d : decode cc pc = .ok (.ifCond .gt off, 3)) (ht : (pc : Int) + off = (tgt : Int)) (ha : ir a) (kt : 0 < a → g S tgt L st) (kf : ¬ (0 < a) → g S (pc + 3) L st) : g S pc L (iv a :: st) := by
  obtain ⟨p, e0, R, s, mi, args, below, meth, c, cells, slots, Q, A, H0, D, ⟨hx, hb, hml, hown, hts⟩, hE, hA, hK, hR, hg⟩ := C
  refine (hg _ _ _ _).mpr fun H locs ls hP hS hL => ?_
  exact lv_if_gt hx hb d ht (fun q => (hg _ _ _ _).mp (kt ((ir_lt ir_0 ha).mp q)) H locs ls hP hS hL) (fun q => (hg _ _ _ _).mp (kf (fun z => q ((ir_lt ir_0 ha).mpr z))) H locs ls hP hS hL)
theorem r_icmp_le (C : Cw g own cc nL h l E) {a b off : Int} {tgt : Nat} (d : decode cc pc = .ok (.if_icmp .le off, 3)) (ht : (pc : Int) + off = (tgt : Int)) (ha : ir a) (hb' : ir b) (kt : a ≤ b → g S tgt L st) (kf : ¬ (a ≤ b) → g S (pc + 3) L st) : g S pc L (iv b :: iv a :: st) := by
  obtain ⟨p, e0, R, s, mi, args, below, meth, c, cells, slots, Q, A, H0, D, ⟨hx, hb, hml, hown, hts⟩, hE, hA, hK, hR, hg⟩ := C
  refine (hg _ _ _ _).mpr fun H locs ls hP hS hL => ?_
  exact lv_icmp_le hx hb d ht (fun q => (hg _ _ _ _).mp (kt ((ir_le ha hb').mp q)) H locs ls hP hS hL) (fun q => (hg _ _ _ _).mp (kf (fun z => q ((ir_le ha hb').mpr z))) H locs ls hP hS hL)
theorem r_if_le (C : Cw g own cc nL h l E) {a off : Int} {tgt : Nat} (d : decode cc pc = .ok (.ifCond .le off, 3)) (ht : (pc : Int) + off = (tgt : Int)) (ha : ir a) (kt : a ≤ 0 → g S tgt L st) (kf : ¬ (a ≤ 0) → g S (pc + 3) L st) : g S pc L (iv a :: st) := by
  obtain ⟨p, e0, R, s, mi, args, below, meth, c, cells, slots, Q, A, H0, D, ⟨hx, hb, hml, hown, hts⟩, hE, hA, hK, hR, hg⟩ := C
  refine (hg _ _ _ _).mpr fun H locs ls hP hS hL => ?_
  exact lv_if_le hx hb d ht (fun q => (hg _ _ _ _).mp (kt ((ir_le ha ir_0).mp q)) H locs ls hP hS hL) (fun q => (hg _ _ _ _).mp (kf (fun z => q ((ir_le ha ir_0).mpr z))) H locs ls hP hS hL)
theorem r_icmp_eq (C : Cw g own cc nL h l E) {a b off : Int} {tgt : Nat} (d : decode cc pc = .ok (.if_icmp .eq off, 3)) (ht : (pc : Int) + off = (tgt : Int)) (ha : ir a) (hb' : ir b) (kt : a = b → g S tgt L st) (kf : ¬ (a = b) → g S (pc + 3) L st) : g S pc L (iv b :: iv a :: st) := by
  obtain ⟨p, e0, R, s, mi, args, below, meth, c, cells, slots, Q, A, H0, D, ⟨hx, hb, hml, hown, hts⟩, hE, hA, hK, hR, hg⟩ := C
  refine (hg _ _ _ _).mpr fun H locs ls hP hS hL => ?_
  exact lv_icmp_eq hx hb d ht (fun q => (hg _ _ _ _).mp (kt ((ir_eq ha hb').mp q)) H locs ls hP hS hL) (fun q => (hg _ _ _ _).mp (kf (fun z => q ((ir_eq ha hb').mpr z))) H locs ls hP hS hL)
theorem r_if_eq (C : Cw g own cc nL h l E) {a off : Int} {tgt : Nat} (d : decode cc pc = .ok (.ifCond .eq off, 3)) (ht : (pc : Int) + off = (tgt : Int)) (ha : ir a) (kt : a = 0 → g S tgt L st) (kf : ¬ (a = 0) → g S (pc + 3) L st) : g S pc L (iv a :: st) := by
  obtain ⟨p, e0, R, s, mi, args, below, meth, c, cells, slots, Q, A, H0, D, ⟨hx, hb, hml, hown, hts⟩, hE, hA, hK, hR, hg⟩ := C
  refine (hg _ _ _ _).mpr fun H locs ls hP hS hL => ?_
  exact lv_if_eq hx hb d ht (fun q => (hg _ _ _ _).mp (kt ((ir_eq ha ir_0).mp q)) H locs ls hP hS hL) (fun q => (hg _ _ _ _).mp (kf (fun z => q ((ir_eq ha ir_0).mpr z))) H locs ls hP hS hL)
theorem r_icmp_ne (C : Cw g own cc nL h l E) {a b off : Int} {tgt : Nat} (d : decode cc pc = .ok (.if_icmp .ne off, 3)) (ht : (pc : Int) + off = (tgt : Int)) (ha : ir a) (hb' : ir b) (kt : a ≠ b → g S tgt L st) (kf : ¬ (a ≠ b) → g S (pc + 3) L st) : g S pc L (iv b :: iv a :: st) := by
  obtain ⟨p, e0, R, s, mi, args, below, meth, c, cells, slots, Q, A, H0, D, ⟨hx, hb, hml, hown, hts⟩, hE, hA, hK, hR, hg⟩ := C
  refine (hg _ _ _ _).mpr fun H locs ls hP hS hL => ?_
  exact lv_icmp_ne hx hb d ht (fun q => (hg _ _ _ _).mp (kt (fun z => q ((ir_eq ha hb').mpr z))) H locs ls hP hS hL) (fun q => (hg _ _ _ _).mp (kf (fun z => z ((ir_eq ha hb').mp q))) H locs ls hP hS hL)
theorem r_if_ne (C : Cw g own cc nL h l E) {a off : Int} {tgt : Nat} (d : decode cc pc = .ok (.ifCond .ne off, 3)) (ht : (pc : Int) + off = (tgt : Int)) (ha : ir a) (kt : a ≠ 0 → g S tgt L st) (kf : ¬ (a ≠ 0) → g S (pc + 3) L st) : g S pc L (iv a :: st) := by
  obtain ⟨p, e0, R, s, mi, args, below, meth, c, cells, slots, Q, A, H0, D, ⟨hx, hb, hml, hown, hts⟩, hE, hA, hK, hR, hg⟩ := C
  refine (hg _ _ _ _).mpr fun H locs ls hP hS hL => ?_
  exact lv_if_ne hx hb d ht (fun q => (hg _ _ _ _).mp (kt (fun z => q ((ir_eq ha ir_0).mpr z))) H locs ls hP hS hL) (fun q => (hg _ _ _ _).mp (kf (fun z => z ((ir_eq ha ir_0).mp q))) H locs ls hP hS hL)
theorem r_goto (C : Cw g own cc nL h l E) {off : Int} {tgt : Nat} (d : decode cc pc = .ok (.goto off, 3)) (ht : (pc : Int) + off = (tgt : Int)) (kk : g S tgt L st) : g S pc L st := by
  obtain ⟨p, e0, R, s, mi, args, below, meth, c, cells, slots, Q, A, H0, D, ⟨hx, hb, hml, hown, hts⟩, hE, hA, hK, hR, hg⟩ := C
  refine (hg _ _ _ _).mpr fun H locs ls hP hS hL => ?_
  exact lv_goto hx hb d ht ((hg _ _ _ _).mp kk H locs ls hP hS hL)
theorem r_dup (C : Cw g own cc nL h l E) {v : Value} (d : decode cc pc = .ok (.dup, 1)) (hv : v.category = 1) (kk : g S (pc + 1) L (v :: v :: st)) : g S pc L (v :: st) := by
  obtain ⟨p, e0, R, s, mi, args, below, meth, c, cells, slots, Q, A, H0, D, ⟨hx, hb, hml, hown, hts⟩, hE, hA, hK, hR, hg⟩ := C
  refine (hg _ _ _ _).mpr fun H locs ls hP hS hL => ?_
  exact lv_dup hx hb d hv ((hg _ _ _ _).mp kk H locs ls hP hS hL)
theorem r_dup2 (C : Cw g own cc nL h l E) {v w : Value} (d : decode cc pc = .ok (.dup2, 1)) (hv : v.category = 1) (hw : w.category = 1) (kk : g S (pc + 1) L (v :: w :: v :: w :: st)) : g S pc L (v :: w :: st) := by
  obtain ⟨p, e0, R, s, mi, args, below, meth, c, cells, slots, Q, A, H0, D, ⟨hx, hb, hml, hown, hts⟩, hE, hA, hK, hR, hg⟩ := C
  refine (hg _ _ _ _).mpr fun H locs ls hP hS hL => ?_
  exact lv_dup2_11 hx hb d hv hw ((hg _ _ _ _).mp kk H locs ls hP hS hL)
theorem r_tabOut (C : Cw g own cc nL h l E) {dflt lo hi : Int} {offs : Array Int} {len : Nat} {a : Int} {tgt : Nat} (d : decode cc pc = .ok (.tableswitch dflt lo hi offs, len)) (ha : ir a) (hr : a < lo ∨ hi < a) (ht : (pc : Int) + dflt = (tgt : Int)) (kk : g S tgt L st) : g S pc L (iv a :: st) := by
  obtain ⟨p, e0, R, s, mi, args, below, meth, c, cells, slots, Q, A, H0, D, ⟨hx, hb, hml, hown, hts⟩, hE, hA, hK, hR, hg⟩ := C
  refine (hg _ _ _ _).mpr fun H locs ls hP hS hL => ?_
  exact lv_tableOut hx hb d (by rw [ir_to ha]; exact hr) ht ((hg _ _ _ _).mp kk H locs ls hP hS hL)
theorem r_tabIn (C : Cw g own cc nL h l E) {dflt lo hi : Int} {offs : Array Int} {len : Nat} {a off : Int} {tgt : Nat} (d : decode cc pc = .ok (.tableswitch dflt lo hi offs, len)) (ha : ir a) (h1 : ¬ a < lo) (h2 : ¬ hi < a) (ho : offs[(a - lo).toNat]? = some off) (ht : (pc : Int) + off = (tgt : Int)) (kk : g S tgt L st) : g S pc L (iv a :: st) := by
  obtain ⟨p, e0, R, s, mi, args, below, meth, c, cells, slots, Q, A, H0, D, ⟨hx, hb, hml, hown, hts⟩, hE, hA, hK, hR, hg⟩ := C
  refine (hg _ _ _ _).mpr fun H locs ls hP hS hL => ?_
  exact lv_tableIn hx hb d (by rw [ir_to ha]; exact h1) (by rw [ir_to ha]; exact h2) (by rw [ir_to ha]; exact ho) ht ((hg _ _ _ _).mp kk H locs ls hP hS hL)
theorem r_lookup (C : Cw g own cc nL h l E) {dflt : Int} {ps : Array (Int × Int)} {len : Nat} {a off : Int} {tgt : Nat} (d : decode cc pc = .ok (.lookupswitch dflt ps, len)) (hp : (ps.toList.zip (ps.toList.drop 1)).all (fun (a, next) => a.1 < next.1) = true) (ha : ir a) (ho : Op.lookupswitch.offset ps.toList dflt a = off) (ht : (pc : Int) + off = (tgt : Int)) (kk : g S tgt L st) : g S pc L (iv a :: st) := by
  obtain ⟨p, e0, R, s, mi, args, below, meth, c, cells, slots, Q, A, H0, D, ⟨hx, hb, hml, hown, hts⟩, hE, hA, hK, hR, hg⟩ := C
  refine (hg _ _ _ _).mpr fun H locs ls hP hS hL => ?_
  exact lv_lookup hx hb d hp (by rw [ir_to ha]; exact ho) ht ((hg _ _ _ _).mp kk H locs ls hP hS hL)
theorem gGet (C : Cw g own cc nL h l E) {ci : Nat} {Cn : String} {T : u_T} {N : Nat} (hc : classes[ci]? = some (Cn, T, N)) (hin : ∀ w ∈ u_ws Cn T N, w ∈ lw_w) {k : Nat} (hk : k < 203) {fs : List Value} (hz : zcel E S k = .inr (ci, fs)) (n : Nat) (hn : n < N) {idx : Nat} (hl : Cond.fieldLink own idx (T n).1 (T n).2.1 (T n).2.2.1 ∈ lw_w) {v : Value} (hv : fs[n]? = some v) (d : decode cc pc = .ok (.getfield idx, 3)) (kk : g S (pc + 3) L (v :: st)) : g S pc L (rf E k :: st) := by
  obtain ⟨p, e0, R, s, mi, args, below, meth, c, cells, slots, Q, A, H0, D, ⟨hx, hb, hml, hown, hts⟩, hE, hA, hK, hR, hg⟩ := C
  refine (hg _ _ _ _).mpr fun H locs ls hP hS hL => ?_
  have hwk := wld_at (E := E) (S := S) hk
  rw [hz] at hwk
  exact va_get (ci := ci) (T := T) (N := N) hx hb hts hin hown hK hP k hwk hc n hn (hts _ hl) (fun x hx => hx) hv d ((hg _ _ _ _).mp kk H locs ls hP hS hL)
theorem gPut (C : Cw g own cc nL h l E) {ci : Nat} {Cn : String} {T : u_T} {N : Nat} {tyf : Nat → FieldType} (hc : classes[ci]? = some (Cn, T, N)) (hin : ∀ w ∈ u_ws Cn T N, w ∈ lw_w) (hty : ∀ k, k < N → parseFieldDescriptor (T k).2.2.1 = some (tyf k)) (hnm : ∀ a, a < N → ∀ b, b < N → a ≠ b → (T a).2.1 ≠ (T b).2.1) {k : Nat} (hk : k < 203) {fs : List Value} (hz : zcel E S k = .inr (ci, fs)) (n : Nat) (hn : n < N) {idx : Nat} (hl : Cond.fieldLink own idx (T n).1 (T n).2.1 (T n).2.2.1 ∈ lw_w) (hfin : (T n).2.2.2 = false) {ty : FieldType} (hd : parseFieldDescriptor (T n).2.2.1 = some ty) {v : Value} (hnar : narrow ty v = v) (hfit : fits ty v = true) (hlen : n < fs.length) (hz' : zcel E S' k = .inr (ci, fs.set n v)) (ho : ∀ j, j < 203 → j ≠ k → zcel E S' j = zcel E S j) (d : decode cc pc = .ok (.putfield idx, 3)) (kk : g S' (pc + 3) L st) : g S pc L (v :: rf E k :: st) := by
  obtain ⟨p, e0, R, s, mi, args, below, meth, c, cells, slots, Q, A, H0, D, ⟨hx, hb, hml, hown, hts⟩, hE, hA, hK, hR, hg⟩ := C
  refine (hg _ _ _ _).mpr fun H locs ls hP hS hL => ?_
  have hwk := wld_at (E := E) (S := S) hk
  rw [hz] at hwk
  refine va_put (ci := ci) (T := T) (N := N) hx hb hts hin tyf hty hnm hown hK hP (wld_D hE hA) hS k hwk hc n hn (hts _ hl) (fun x hx => hx) hfin hd hnar hfit hlen d (fun H1 locs1 hP1 hD1 hS1 => ?_)
  rw [wld_set hk hz' ho] at hP1
  exact (hg _ _ _ _).mp kk H1 locs1 ls hP1 hS1 hL
theorem g_Mc_racks (C : Cw g own cc nL h l E) (hm : m < 2) {idx : Nat} (hl : Cond.fieldLink own idx "GreatMachine$Machine" "racks" "[LGreatMachine$Rack;" ∈ lw_w) (d : decode cc pc = .ok (.getfield idx, 3)) (kk : g S (pc + 3) L (rf E (kRa m) :: st)) : g S pc L (rf E (kMc m) :: st) := gGet C (ci := 3) rfl inw_Mc (kMc_lt hm) (zMc hm) 0 (by decide) hl rfl d kk
theorem g_Mc_accounts (C : Cw g own cc nL h l E) (hm : m < 2) {idx : Nat} (hl : Cond.fieldLink own idx "GreatMachine$Machine" "accounts" "[LGreatMachine$Account;" ∈ lw_w) (d : decode cc pc = .ok (.getfield idx, 3)) (kk : g S (pc + 3) L (rf E (kAa m) :: st)) : g S pc L (rf E (kMc m) :: st) := gGet C (ci := 3) rfl inw_Mc (kMc_lt hm) (zMc hm) 1 (by decide) hl rfl d kk
theorem g_Mc_jobs (C : Cw g own cc nL h l E) (hm : m < 2) {idx : Nat} (hl : Cond.fieldLink own idx "GreatMachine$Machine" "jobs" "[LGreatMachine$Job;" ∈ lw_w) (d : decode cc pc = .ok (.getfield idx, 3)) (kk : g S (pc + 3) L (rf E (kJa m) :: st)) : g S pc L (rf E (kMc m) :: st) := gGet C (ci := 3) rfl inw_Mc (kMc_lt hm) (zMc hm) 2 (by decide) hl rfl d kk
theorem g_Mc_holds (C : Cw g own cc nL h l E) (hm : m < 2) {idx : Nat} (hl : Cond.fieldLink own idx "GreatMachine$Machine" "holds" "[LGreatMachine$Hold;" ∈ lw_w) (d : decode cc pc = .ok (.getfield idx, 3)) (kk : g S (pc + 3) L (rf E (kHa m) :: st)) : g S pc L (rf E (kMc m) :: st) := gGet C (ci := 3) rfl inw_Mc (kMc_lt hm) (zMc hm) 3 (by decide) hl rfl d kk
theorem g_Mc_rackCount (C : Cw g own cc nL h l E) (hm : m < 2) {idx : Nat} (hl : Cond.fieldLink own idx "GreatMachine$Machine" "rackCount" "I" ∈ lw_w) (d : decode cc pc = .ok (.getfield idx, 3)) (kk : g (sm S0 m t) (pc + 3) L (iv (t 0 0) :: st)) : g (sm S0 m t) pc L (rf E (kMc m) :: st) := gGet C (ci := 3) rfl inw_Mc (kMc_lt hm) (zMc hm) 4 (by decide) hl (by rw [sm_eq]; rfl) d kk
theorem gw_Mc_rackCount (C : Cw g own cc nL h l E) (hm : m < 2) {idx : Nat} (hl : Cond.fieldLink own idx "GreatMachine$Machine" "rackCount" "I" ∈ lw_w) (d : decode cc pc = .ok (.getfield idx, 3)) (kk : g S (pc + 3) L (iv (S m 0 0) :: st)) : g S pc L (rf E (kMc m) :: st) := gGet C (ci := 3) rfl inw_Mc (kMc_lt hm) (zMc hm) 4 (by decide) hl rfl d kk
theorem p_Mc_rackCount (C : Cw g own cc nL h l E) (hm : m < 2) {idx : Nat} {x : Int} (hl : Cond.fieldLink own idx "GreatMachine$Machine" "rackCount" "I" ∈ lw_w) (d : decode cc pc = .ok (.putfield idx, 3)) (kk : g (sm S0 m (tu t 0 0 x)) (pc + 3) L st) : g (sm S0 m t) pc L (iv x :: rf E (kMc m) :: st) := gPut C (ci := 3) (tyf := ty_Mc) (ty := .int) rfl inw_Mc tok_Mc nm_Mc (kMc_lt hm) (zMc hm) 4 (by decide) hl rfl (by decide +kernel) rfl rfl (by simp [oMc]) (by rw [(zMc hm), sm_eq, sm_eq]; simp [oMc, tu]) (zM_ne hm (mx_Mc (by decide))) d kk
theorem g_Mc_accountCount (C : Cw g own cc nL h l E) (hm : m < 2) {idx : Nat} (hl : Cond.fieldLink own idx "GreatMachine$Machine" "accountCount" "I" ∈ lw_w) (d : decode cc pc = .ok (.getfield idx, 3)) (kk : g (sm S0 m t) (pc + 3) L (iv (t 1 0) :: st)) : g (sm S0 m t) pc L (rf E (kMc m) :: st) := gGet C (ci := 3) rfl inw_Mc (kMc_lt hm) (zMc hm) 5 (by decide) hl (by rw [sm_eq]; rfl) d kk
theorem gw_Mc_accountCount (C : Cw g own cc nL h l E) (hm : m < 2) {idx : Nat} (hl : Cond.fieldLink own idx "GreatMachine$Machine" "accountCount" "I" ∈ lw_w) (d : decode cc pc = .ok (.getfield idx, 3)) (kk : g S (pc + 3) L (iv (S m 1 0) :: st)) : g S pc L (rf E (kMc m) :: st) := gGet C (ci := 3) rfl inw_Mc (kMc_lt hm) (zMc hm) 5 (by decide) hl rfl d kk
theorem p_Mc_accountCount (C : Cw g own cc nL h l E) (hm : m < 2) {idx : Nat} {x : Int} (hl : Cond.fieldLink own idx "GreatMachine$Machine" "accountCount" "I" ∈ lw_w) (d : decode cc pc = .ok (.putfield idx, 3)) (kk : g (sm S0 m (tu t 1 0 x)) (pc + 3) L st) : g (sm S0 m t) pc L (iv x :: rf E (kMc m) :: st) := gPut C (ci := 3) (tyf := ty_Mc) (ty := .int) rfl inw_Mc tok_Mc nm_Mc (kMc_lt hm) (zMc hm) 5 (by decide) hl rfl (by decide +kernel) rfl rfl (by simp [oMc]) (by rw [(zMc hm), sm_eq, sm_eq]; simp [oMc, tu]) (zM_ne hm (mx_Mc (by decide))) d kk
theorem g_Mc_jobCount (C : Cw g own cc nL h l E) (hm : m < 2) {idx : Nat} (hl : Cond.fieldLink own idx "GreatMachine$Machine" "jobCount" "I" ∈ lw_w) (d : decode cc pc = .ok (.getfield idx, 3)) (kk : g (sm S0 m t) (pc + 3) L (iv (t 2 0) :: st)) : g (sm S0 m t) pc L (rf E (kMc m) :: st) := gGet C (ci := 3) rfl inw_Mc (kMc_lt hm) (zMc hm) 6 (by decide) hl (by rw [sm_eq]; rfl) d kk
theorem gw_Mc_jobCount (C : Cw g own cc nL h l E) (hm : m < 2) {idx : Nat} (hl : Cond.fieldLink own idx "GreatMachine$Machine" "jobCount" "I" ∈ lw_w) (d : decode cc pc = .ok (.getfield idx, 3)) (kk : g S (pc + 3) L (iv (S m 2 0) :: st)) : g S pc L (rf E (kMc m) :: st) := gGet C (ci := 3) rfl inw_Mc (kMc_lt hm) (zMc hm) 6 (by decide) hl rfl d kk
theorem p_Mc_jobCount (C : Cw g own cc nL h l E) (hm : m < 2) {idx : Nat} {x : Int} (hl : Cond.fieldLink own idx "GreatMachine$Machine" "jobCount" "I" ∈ lw_w) (d : decode cc pc = .ok (.putfield idx, 3)) (kk : g (sm S0 m (tu t 2 0 x)) (pc + 3) L st) : g (sm S0 m t) pc L (iv x :: rf E (kMc m) :: st) := gPut C (ci := 3) (tyf := ty_Mc) (ty := .int) rfl inw_Mc tok_Mc nm_Mc (kMc_lt hm) (zMc hm) 6 (by decide) hl rfl (by decide +kernel) rfl rfl (by simp [oMc]) (by rw [(zMc hm), sm_eq, sm_eq]; simp [oMc, tu]) (zM_ne hm (mx_Mc (by decide))) d kk
theorem g_Mc_holdCount (C : Cw g own cc nL h l E) (hm : m < 2) {idx : Nat} (hl : Cond.fieldLink own idx "GreatMachine$Machine" "holdCount" "I" ∈ lw_w) (d : decode cc pc = .ok (.getfield idx, 3)) (kk : g (sm S0 m t) (pc + 3) L (iv (t 3 0) :: st)) : g (sm S0 m t) pc L (rf E (kMc m) :: st) := gGet C (ci := 3) rfl inw_Mc (kMc_lt hm) (zMc hm) 7 (by decide) hl (by rw [sm_eq]; rfl) d kk
theorem gw_Mc_holdCount (C : Cw g own cc nL h l E) (hm : m < 2) {idx : Nat} (hl : Cond.fieldLink own idx "GreatMachine$Machine" "holdCount" "I" ∈ lw_w) (d : decode cc pc = .ok (.getfield idx, 3)) (kk : g S (pc + 3) L (iv (S m 3 0) :: st)) : g S pc L (rf E (kMc m) :: st) := gGet C (ci := 3) rfl inw_Mc (kMc_lt hm) (zMc hm) 7 (by decide) hl rfl d kk
theorem p_Mc_holdCount (C : Cw g own cc nL h l E) (hm : m < 2) {idx : Nat} {x : Int} (hl : Cond.fieldLink own idx "GreatMachine$Machine" "holdCount" "I" ∈ lw_w) (d : decode cc pc = .ok (.putfield idx, 3)) (kk : g (sm S0 m (tu t 3 0 x)) (pc + 3) L st) : g (sm S0 m t) pc L (iv x :: rf E (kMc m) :: st) := gPut C (ci := 3) (tyf := ty_Mc) (ty := .int) rfl inw_Mc tok_Mc nm_Mc (kMc_lt hm) (zMc hm) 7 (by decide) hl rfl (by decide +kernel) rfl rfl (by simp [oMc]) (by rw [(zMc hm), sm_eq, sm_eq]; simp [oMc, tu]) (zM_ne hm (mx_Mc (by decide))) d kk
theorem g_Mc_now (C : Cw g own cc nL h l E) (hm : m < 2) {idx : Nat} (hl : Cond.fieldLink own idx "GreatMachine$Machine" "now" "I" ∈ lw_w) (d : decode cc pc = .ok (.getfield idx, 3)) (kk : g (sm S0 m t) (pc + 3) L (iv (t 4 0) :: st)) : g (sm S0 m t) pc L (rf E (kMc m) :: st) := gGet C (ci := 3) rfl inw_Mc (kMc_lt hm) (zMc hm) 8 (by decide) hl (by rw [sm_eq]; rfl) d kk
theorem gw_Mc_now (C : Cw g own cc nL h l E) (hm : m < 2) {idx : Nat} (hl : Cond.fieldLink own idx "GreatMachine$Machine" "now" "I" ∈ lw_w) (d : decode cc pc = .ok (.getfield idx, 3)) (kk : g S (pc + 3) L (iv (S m 4 0) :: st)) : g S pc L (rf E (kMc m) :: st) := gGet C (ci := 3) rfl inw_Mc (kMc_lt hm) (zMc hm) 8 (by decide) hl rfl d kk
theorem p_Mc_now (C : Cw g own cc nL h l E) (hm : m < 2) {idx : Nat} {x : Int} (hl : Cond.fieldLink own idx "GreatMachine$Machine" "now" "I" ∈ lw_w) (d : decode cc pc = .ok (.putfield idx, 3)) (kk : g (sm S0 m (tu t 4 0 x)) (pc + 3) L st) : g (sm S0 m t) pc L (iv x :: rf E (kMc m) :: st) := gPut C (ci := 3) (tyf := ty_Mc) (ty := .int) rfl inw_Mc tok_Mc nm_Mc (kMc_lt hm) (zMc hm) 8 (by decide) hl rfl (by decide +kernel) rfl rfl (by simp [oMc]) (by rw [(zMc hm), sm_eq, sm_eq]; simp [oMc, tu]) (zM_ne hm (mx_Mc (by decide))) d kk
theorem g_Mc_halving (C : Cw g own cc nL h l E) (hm : m < 2) {idx : Nat} (hl : Cond.fieldLink own idx "GreatMachine$Machine" "halving" "I" ∈ lw_w) (d : decode cc pc = .ok (.getfield idx, 3)) (kk : g (sm S0 m t) (pc + 3) L (iv (t 5 0) :: st)) : g (sm S0 m t) pc L (rf E (kMc m) :: st) := gGet C (ci := 3) rfl inw_Mc (kMc_lt hm) (zMc hm) 9 (by decide) hl (by rw [sm_eq]; rfl) d kk
theorem gw_Mc_halving (C : Cw g own cc nL h l E) (hm : m < 2) {idx : Nat} (hl : Cond.fieldLink own idx "GreatMachine$Machine" "halving" "I" ∈ lw_w) (d : decode cc pc = .ok (.getfield idx, 3)) (kk : g S (pc + 3) L (iv (S m 5 0) :: st)) : g S pc L (rf E (kMc m) :: st) := gGet C (ci := 3) rfl inw_Mc (kMc_lt hm) (zMc hm) 9 (by decide) hl rfl d kk
theorem p_Mc_halving (C : Cw g own cc nL h l E) (hm : m < 2) {idx : Nat} {x : Int} (hl : Cond.fieldLink own idx "GreatMachine$Machine" "halving" "I" ∈ lw_w) (d : decode cc pc = .ok (.putfield idx, 3)) (kk : g (sm S0 m (tu t 5 0 x)) (pc + 3) L st) : g (sm S0 m t) pc L (iv x :: rf E (kMc m) :: st) := gPut C (ci := 3) (tyf := ty_Mc) (ty := .int) rfl inw_Mc tok_Mc nm_Mc (kMc_lt hm) (zMc hm) 9 (by decide) hl rfl (by decide +kernel) rfl rfl (by simp [oMc]) (by rw [(zMc hm), sm_eq, sm_eq]; simp [oMc, tu]) (zM_ne hm (mx_Mc (by decide))) d kk
theorem g_Mc_licencesInAll (C : Cw g own cc nL h l E) (hm : m < 2) {idx : Nat} (hl : Cond.fieldLink own idx "GreatMachine$Machine" "licencesInAll" "I" ∈ lw_w) (d : decode cc pc = .ok (.getfield idx, 3)) (kk : g (sm S0 m t) (pc + 3) L (iv (t 6 0) :: st)) : g (sm S0 m t) pc L (rf E (kMc m) :: st) := gGet C (ci := 3) rfl inw_Mc (kMc_lt hm) (zMc hm) 10 (by decide) hl (by rw [sm_eq]; rfl) d kk
theorem gw_Mc_licencesInAll (C : Cw g own cc nL h l E) (hm : m < 2) {idx : Nat} (hl : Cond.fieldLink own idx "GreatMachine$Machine" "licencesInAll" "I" ∈ lw_w) (d : decode cc pc = .ok (.getfield idx, 3)) (kk : g S (pc + 3) L (iv (S m 6 0) :: st)) : g S pc L (rf E (kMc m) :: st) := gGet C (ci := 3) rfl inw_Mc (kMc_lt hm) (zMc hm) 10 (by decide) hl rfl d kk
theorem p_Mc_licencesInAll (C : Cw g own cc nL h l E) (hm : m < 2) {idx : Nat} {x : Int} (hl : Cond.fieldLink own idx "GreatMachine$Machine" "licencesInAll" "I" ∈ lw_w) (d : decode cc pc = .ok (.putfield idx, 3)) (kk : g (sm S0 m (tu t 6 0 x)) (pc + 3) L st) : g (sm S0 m t) pc L (iv x :: rf E (kMc m) :: st) := gPut C (ci := 3) (tyf := ty_Mc) (ty := .int) rfl inw_Mc tok_Mc nm_Mc (kMc_lt hm) (zMc hm) 10 (by decide) hl rfl (by decide +kernel) rfl rfl (by simp [oMc]) (by rw [(zMc hm), sm_eq, sm_eq]; simp [oMc, tu]) (zM_ne hm (mx_Mc (by decide))) d kk
theorem g_Mc_room (C : Cw g own cc nL h l E) (hm : m < 2) {idx : Nat} (hl : Cond.fieldLink own idx "GreatMachine$Machine" "room" "I" ∈ lw_w) (d : decode cc pc = .ok (.getfield idx, 3)) (kk : g (sm S0 m t) (pc + 3) L (iv (t 7 0) :: st)) : g (sm S0 m t) pc L (rf E (kMc m) :: st) := gGet C (ci := 3) rfl inw_Mc (kMc_lt hm) (zMc hm) 11 (by decide) hl (by rw [sm_eq]; rfl) d kk
theorem gw_Mc_room (C : Cw g own cc nL h l E) (hm : m < 2) {idx : Nat} (hl : Cond.fieldLink own idx "GreatMachine$Machine" "room" "I" ∈ lw_w) (d : decode cc pc = .ok (.getfield idx, 3)) (kk : g S (pc + 3) L (iv (S m 7 0) :: st)) : g S pc L (rf E (kMc m) :: st) := gGet C (ci := 3) rfl inw_Mc (kMc_lt hm) (zMc hm) 11 (by decide) hl rfl d kk
theorem p_Mc_room (C : Cw g own cc nL h l E) (hm : m < 2) {idx : Nat} {x : Int} (hl : Cond.fieldLink own idx "GreatMachine$Machine" "room" "I" ∈ lw_w) (d : decode cc pc = .ok (.putfield idx, 3)) (kk : g (sm S0 m (tu t 7 0 x)) (pc + 3) L st) : g (sm S0 m t) pc L (iv x :: rf E (kMc m) :: st) := gPut C (ci := 3) (tyf := ty_Mc) (ty := .int) rfl inw_Mc tok_Mc nm_Mc (kMc_lt hm) (zMc hm) 11 (by decide) hl rfl (by decide +kernel) rfl rfl (by simp [oMc]) (by rw [(zMc hm), sm_eq, sm_eq]; simp [oMc, tu]) (zM_ne hm (mx_Mc (by decide))) d kk
theorem g_Mc_blockedJob (C : Cw g own cc nL h l E) (hm : m < 2) {idx : Nat} (hl : Cond.fieldLink own idx "GreatMachine$Machine" "blockedJob" "I" ∈ lw_w) (d : decode cc pc = .ok (.getfield idx, 3)) (kk : g (sm S0 m t) (pc + 3) L (iv (t 8 0) :: st)) : g (sm S0 m t) pc L (rf E (kMc m) :: st) := gGet C (ci := 3) rfl inw_Mc (kMc_lt hm) (zMc hm) 12 (by decide) hl (by rw [sm_eq]; rfl) d kk
theorem gw_Mc_blockedJob (C : Cw g own cc nL h l E) (hm : m < 2) {idx : Nat} (hl : Cond.fieldLink own idx "GreatMachine$Machine" "blockedJob" "I" ∈ lw_w) (d : decode cc pc = .ok (.getfield idx, 3)) (kk : g S (pc + 3) L (iv (S m 8 0) :: st)) : g S pc L (rf E (kMc m) :: st) := gGet C (ci := 3) rfl inw_Mc (kMc_lt hm) (zMc hm) 12 (by decide) hl rfl d kk
theorem p_Mc_blockedJob (C : Cw g own cc nL h l E) (hm : m < 2) {idx : Nat} {x : Int} (hl : Cond.fieldLink own idx "GreatMachine$Machine" "blockedJob" "I" ∈ lw_w) (d : decode cc pc = .ok (.putfield idx, 3)) (kk : g (sm S0 m (tu t 8 0 x)) (pc + 3) L st) : g (sm S0 m t) pc L (iv x :: rf E (kMc m) :: st) := gPut C (ci := 3) (tyf := ty_Mc) (ty := .int) rfl inw_Mc tok_Mc nm_Mc (kMc_lt hm) (zMc hm) 12 (by decide) hl rfl (by decide +kernel) rfl rfl (by simp [oMc]) (by rw [(zMc hm), sm_eq, sm_eq]; simp [oMc, tu]) (zM_ne hm (mx_Mc (by decide))) d kk
theorem g_Mc_keptFrom (C : Cw g own cc nL h l E) (hm : m < 2) {idx : Nat} (hl : Cond.fieldLink own idx "GreatMachine$Machine" "keptFrom" "I" ∈ lw_w) (d : decode cc pc = .ok (.getfield idx, 3)) (kk : g (sm S0 m t) (pc + 3) L (iv (t 9 0) :: st)) : g (sm S0 m t) pc L (rf E (kMc m) :: st) := gGet C (ci := 3) rfl inw_Mc (kMc_lt hm) (zMc hm) 13 (by decide) hl (by rw [sm_eq]; rfl) d kk
theorem gw_Mc_keptFrom (C : Cw g own cc nL h l E) (hm : m < 2) {idx : Nat} (hl : Cond.fieldLink own idx "GreatMachine$Machine" "keptFrom" "I" ∈ lw_w) (d : decode cc pc = .ok (.getfield idx, 3)) (kk : g S (pc + 3) L (iv (S m 9 0) :: st)) : g S pc L (rf E (kMc m) :: st) := gGet C (ci := 3) rfl inw_Mc (kMc_lt hm) (zMc hm) 13 (by decide) hl rfl d kk
theorem p_Mc_keptFrom (C : Cw g own cc nL h l E) (hm : m < 2) {idx : Nat} {x : Int} (hl : Cond.fieldLink own idx "GreatMachine$Machine" "keptFrom" "I" ∈ lw_w) (d : decode cc pc = .ok (.putfield idx, 3)) (kk : g (sm S0 m (tu t 9 0 x)) (pc + 3) L st) : g (sm S0 m t) pc L (iv x :: rf E (kMc m) :: st) := gPut C (ci := 3) (tyf := ty_Mc) (ty := .int) rfl inw_Mc tok_Mc nm_Mc (kMc_lt hm) (zMc hm) 13 (by decide) hl rfl (by decide +kernel) rfl rfl (by simp [oMc]) (by rw [(zMc hm), sm_eq, sm_eq]; simp [oMc, tu]) (zM_ne hm (mx_Mc (by decide))) d kk
theorem g_Mc_queue (C : Cw g own cc nL h l E) (hm : m < 2) {idx : Nat} (hl : Cond.fieldLink own idx "GreatMachine$Machine" "queue" "[I" ∈ lw_w) (d : decode cc pc = .ok (.getfield idx, 3)) (kk : g S (pc + 3) L (rf E (kQu m) :: st)) : g S pc L (rf E (kMc m) :: st) := gGet C (ci := 3) rfl inw_Mc (kMc_lt hm) (zMc hm) 14 (by decide) hl rfl d kk
theorem g_Mc_queueLength (C : Cw g own cc nL h l E) (hm : m < 2) {idx : Nat} (hl : Cond.fieldLink own idx "GreatMachine$Machine" "queueLength" "I" ∈ lw_w) (d : decode cc pc = .ok (.getfield idx, 3)) (kk : g (sm S0 m t) (pc + 3) L (iv (t 10 0) :: st)) : g (sm S0 m t) pc L (rf E (kMc m) :: st) := gGet C (ci := 3) rfl inw_Mc (kMc_lt hm) (zMc hm) 15 (by decide) hl (by rw [sm_eq]; rfl) d kk
theorem gw_Mc_queueLength (C : Cw g own cc nL h l E) (hm : m < 2) {idx : Nat} (hl : Cond.fieldLink own idx "GreatMachine$Machine" "queueLength" "I" ∈ lw_w) (d : decode cc pc = .ok (.getfield idx, 3)) (kk : g S (pc + 3) L (iv (S m 10 0) :: st)) : g S pc L (rf E (kMc m) :: st) := gGet C (ci := 3) rfl inw_Mc (kMc_lt hm) (zMc hm) 15 (by decide) hl rfl d kk
theorem p_Mc_queueLength (C : Cw g own cc nL h l E) (hm : m < 2) {idx : Nat} {x : Int} (hl : Cond.fieldLink own idx "GreatMachine$Machine" "queueLength" "I" ∈ lw_w) (d : decode cc pc = .ok (.putfield idx, 3)) (kk : g (sm S0 m (tu t 10 0 x)) (pc + 3) L st) : g (sm S0 m t) pc L (iv x :: rf E (kMc m) :: st) := gPut C (ci := 3) (tyf := ty_Mc) (ty := .int) rfl inw_Mc tok_Mc nm_Mc (kMc_lt hm) (zMc hm) 15 (by decide) hl rfl (by decide +kernel) rfl rfl (by simp [oMc]) (by rw [(zMc hm), sm_eq, sm_eq]; simp [oMc, tu]) (zM_ne hm (mx_Mc (by decide))) d kk
theorem g_Rk_nodes (C : Cw g own cc nL h l E) (hm : m < 2) {i : Nat} (hi : i < 4) {idx : Nat} (hl : Cond.fieldLink own idx "GreatMachine$Rack" "nodes" "I" ∈ lw_w) (d : decode cc pc = .ok (.getfield idx, 3)) (kk : g (sm S0 m t) (pc + 3) L (iv (t 12 i) :: st)) : g (sm S0 m t) pc L (rf E (kRk m i) :: st) := gGet C (ci := 4) rfl inw_Rk (kRk_lt hm hi) (zRk hm hi) 0 (by decide) hl (by rw [sm_eq]; rfl) d kk
theorem gw_Rk_nodes (C : Cw g own cc nL h l E) (hm : m < 2) {i : Nat} (hi : i < 4) {idx : Nat} (hl : Cond.fieldLink own idx "GreatMachine$Rack" "nodes" "I" ∈ lw_w) (d : decode cc pc = .ok (.getfield idx, 3)) (kk : g S (pc + 3) L (iv (S m 12 i) :: st)) : g S pc L (rf E (kRk m i) :: st) := gGet C (ci := 4) rfl inw_Rk (kRk_lt hm hi) (zRk hm hi) 0 (by decide) hl rfl d kk
theorem p_Rk_nodes (C : Cw g own cc nL h l E) (hm : m < 2) {i : Nat} (hi : i < 4) {idx : Nat} {x : Int} (hl : Cond.fieldLink own idx "GreatMachine$Rack" "nodes" "I" ∈ lw_w) (d : decode cc pc = .ok (.putfield idx, 3)) (kk : g (sm S0 m (tu t 12 i x)) (pc + 3) L st) : g (sm S0 m t) pc L (iv x :: rf E (kRk m i) :: st) := gPut C (ci := 4) (tyf := ty_Rk) (ty := .int) rfl inw_Rk tok_Rk nm_Rk (kRk_lt hm hi) (zRk hm hi) 0 (by decide) hl rfl (by decide +kernel) rfl rfl (by simp [oRk]) (by rw [(zRk hm hi), sm_eq, sm_eq]; simp [oRk, tu]) (zM_ne hm (mx_Rk (by decide) (by decide) hi)) d kk
theorem g_Rk_unused (C : Cw g own cc nL h l E) (hm : m < 2) {i : Nat} (hi : i < 4) {idx : Nat} (hl : Cond.fieldLink own idx "GreatMachine$Rack" "unused" "I" ∈ lw_w) (d : decode cc pc = .ok (.getfield idx, 3)) (kk : g (sm S0 m t) (pc + 3) L (iv (t 13 i) :: st)) : g (sm S0 m t) pc L (rf E (kRk m i) :: st) := gGet C (ci := 4) rfl inw_Rk (kRk_lt hm hi) (zRk hm hi) 1 (by decide) hl (by rw [sm_eq]; rfl) d kk
theorem gw_Rk_unused (C : Cw g own cc nL h l E) (hm : m < 2) {i : Nat} (hi : i < 4) {idx : Nat} (hl : Cond.fieldLink own idx "GreatMachine$Rack" "unused" "I" ∈ lw_w) (d : decode cc pc = .ok (.getfield idx, 3)) (kk : g S (pc + 3) L (iv (S m 13 i) :: st)) : g S pc L (rf E (kRk m i) :: st) := gGet C (ci := 4) rfl inw_Rk (kRk_lt hm hi) (zRk hm hi) 1 (by decide) hl rfl d kk
theorem p_Rk_unused (C : Cw g own cc nL h l E) (hm : m < 2) {i : Nat} (hi : i < 4) {idx : Nat} {x : Int} (hl : Cond.fieldLink own idx "GreatMachine$Rack" "unused" "I" ∈ lw_w) (d : decode cc pc = .ok (.putfield idx, 3)) (kk : g (sm S0 m (tu t 13 i x)) (pc + 3) L st) : g (sm S0 m t) pc L (iv x :: rf E (kRk m i) :: st) := gPut C (ci := 4) (tyf := ty_Rk) (ty := .int) rfl inw_Rk tok_Rk nm_Rk (kRk_lt hm hi) (zRk hm hi) 1 (by decide) hl rfl (by decide +kernel) rfl rfl (by simp [oRk]) (by rw [(zRk hm hi), sm_eq, sm_eq]; simp [oRk, tu]) (zM_ne hm (mx_Rk (by decide) (by decide) hi)) d kk
theorem g_Rk_drained (C : Cw g own cc nL h l E) (hm : m < 2) {i : Nat} (hi : i < 4) {idx : Nat} (hl : Cond.fieldLink own idx "GreatMachine$Rack" "drained" "Z" ∈ lw_w) (d : decode cc pc = .ok (.getfield idx, 3)) (kk : g (sm S0 m t) (pc + 3) L (iv (t 14 i) :: st)) : g (sm S0 m t) pc L (rf E (kRk m i) :: st) := gGet C (ci := 4) rfl inw_Rk (kRk_lt hm hi) (zRk hm hi) 2 (by decide) hl (by rw [sm_eq]; rfl) d kk
theorem gw_Rk_drained (C : Cw g own cc nL h l E) (hm : m < 2) {i : Nat} (hi : i < 4) {idx : Nat} (hl : Cond.fieldLink own idx "GreatMachine$Rack" "drained" "Z" ∈ lw_w) (d : decode cc pc = .ok (.getfield idx, 3)) (kk : g S (pc + 3) L (iv (S m 14 i) :: st)) : g S pc L (rf E (kRk m i) :: st) := gGet C (ci := 4) rfl inw_Rk (kRk_lt hm hi) (zRk hm hi) 2 (by decide) hl rfl d kk
theorem p_Rk_drained (C : Cw g own cc nL h l E) (hm : m < 2) {i : Nat} (hi : i < 4) {idx : Nat} {x : Int} (hv : x = 0 ∨ x = 1) (hl : Cond.fieldLink own idx "GreatMachine$Rack" "drained" "Z" ∈ lw_w) (d : decode cc pc = .ok (.putfield idx, 3)) (kk : g (sm S0 m (tu t 14 i x)) (pc + 3) L st) : g (sm S0 m t) pc L (iv x :: rf E (kRk m i) :: st) := gPut C (ci := 4) (tyf := ty_Rk) (ty := .boolean) rfl inw_Rk tok_Rk nm_Rk (kRk_lt hm hi) (zRk hm hi) 2 (by decide) hl rfl (by decide +kernel) (by rcases hv with rfl | rfl <;> rfl) (by rcases hv with rfl | rfl <;> rfl) (by simp [oRk]) (by rw [(zRk hm hi), sm_eq, sm_eq]; simp [oRk, tu]) (zM_ne hm (mx_Rk (by decide) (by decide) hi)) d kk
theorem g_Ac_shares (C : Cw g own cc nL h l E) (hm : m < 2) {i : Nat} (hi : i < 6) {idx : Nat} (hl : Cond.fieldLink own idx "GreatMachine$Account" "shares" "I" ∈ lw_w) (d : decode cc pc = .ok (.getfield idx, 3)) (kk : g (sm S0 m t) (pc + 3) L (iv (t 15 i) :: st)) : g (sm S0 m t) pc L (rf E (kAc m i) :: st) := gGet C (ci := 0) rfl inw_Ac (kAc_lt hm hi) (zAc hm hi) 0 (by decide) hl (by rw [sm_eq]; rfl) d kk
theorem gw_Ac_shares (C : Cw g own cc nL h l E) (hm : m < 2) {i : Nat} (hi : i < 6) {idx : Nat} (hl : Cond.fieldLink own idx "GreatMachine$Account" "shares" "I" ∈ lw_w) (d : decode cc pc = .ok (.getfield idx, 3)) (kk : g S (pc + 3) L (iv (S m 15 i) :: st)) : g S pc L (rf E (kAc m i) :: st) := gGet C (ci := 0) rfl inw_Ac (kAc_lt hm hi) (zAc hm hi) 0 (by decide) hl rfl d kk
theorem p_Ac_shares (C : Cw g own cc nL h l E) (hm : m < 2) {i : Nat} (hi : i < 6) {idx : Nat} {x : Int} (hl : Cond.fieldLink own idx "GreatMachine$Account" "shares" "I" ∈ lw_w) (d : decode cc pc = .ok (.putfield idx, 3)) (kk : g (sm S0 m (tu t 15 i x)) (pc + 3) L st) : g (sm S0 m t) pc L (iv x :: rf E (kAc m i) :: st) := gPut C (ci := 0) (tyf := ty_Ac) (ty := .int) rfl inw_Ac tok_Ac nm_Ac (kAc_lt hm hi) (zAc hm hi) 0 (by decide) hl rfl (by decide +kernel) rfl rfl (by simp [oAc]) (by rw [(zAc hm hi), sm_eq, sm_eq]; simp [oAc, tu]) (zM_ne hm (mx_Ac (by decide) (by decide) hi)) d kk
theorem g_Ac_use (C : Cw g own cc nL h l E) (hm : m < 2) {i : Nat} (hi : i < 6) {idx : Nat} (hl : Cond.fieldLink own idx "GreatMachine$Account" "use" "I" ∈ lw_w) (d : decode cc pc = .ok (.getfield idx, 3)) (kk : g (sm S0 m t) (pc + 3) L (iv (t 16 i) :: st)) : g (sm S0 m t) pc L (rf E (kAc m i) :: st) := gGet C (ci := 0) rfl inw_Ac (kAc_lt hm hi) (zAc hm hi) 1 (by decide) hl (by rw [sm_eq]; rfl) d kk
theorem gw_Ac_use (C : Cw g own cc nL h l E) (hm : m < 2) {i : Nat} (hi : i < 6) {idx : Nat} (hl : Cond.fieldLink own idx "GreatMachine$Account" "use" "I" ∈ lw_w) (d : decode cc pc = .ok (.getfield idx, 3)) (kk : g S (pc + 3) L (iv (S m 16 i) :: st)) : g S pc L (rf E (kAc m i) :: st) := gGet C (ci := 0) rfl inw_Ac (kAc_lt hm hi) (zAc hm hi) 1 (by decide) hl rfl d kk
theorem p_Ac_use (C : Cw g own cc nL h l E) (hm : m < 2) {i : Nat} (hi : i < 6) {idx : Nat} {x : Int} (hl : Cond.fieldLink own idx "GreatMachine$Account" "use" "I" ∈ lw_w) (d : decode cc pc = .ok (.putfield idx, 3)) (kk : g (sm S0 m (tu t 16 i x)) (pc + 3) L st) : g (sm S0 m t) pc L (iv x :: rf E (kAc m i) :: st) := gPut C (ci := 0) (tyf := ty_Ac) (ty := .int) rfl inw_Ac tok_Ac nm_Ac (kAc_lt hm hi) (zAc hm hi) 1 (by decide) hl rfl (by decide +kernel) rfl rfl (by simp [oAc]) (by rw [(zAc hm hi), sm_eq, sm_eq]; simp [oAc, tu]) (zM_ne hm (mx_Ac (by decide) (by decide) hi)) d kk
theorem g_Jb_account (C : Cw g own cc nL h l E) (hm : m < 2) {i : Nat} (hi : i < 30) {idx : Nat} (hl : Cond.fieldLink own idx "GreatMachine$Job" "account" "I" ∈ lw_w) (d : decode cc pc = .ok (.getfield idx, 3)) (kk : g (sm S0 m t) (pc + 3) L (iv (t 17 i) :: st)) : g (sm S0 m t) pc L (rf E (kJb m i) :: st) := gGet C (ci := 2) rfl inw_Jb (kJb_lt hm hi) (zJb hm hi) 0 (by decide) hl (by rw [sm_eq]; rfl) d kk
theorem gw_Jb_account (C : Cw g own cc nL h l E) (hm : m < 2) {i : Nat} (hi : i < 30) {idx : Nat} (hl : Cond.fieldLink own idx "GreatMachine$Job" "account" "I" ∈ lw_w) (d : decode cc pc = .ok (.getfield idx, 3)) (kk : g S (pc + 3) L (iv (S m 17 i) :: st)) : g S pc L (rf E (kJb m i) :: st) := gGet C (ci := 2) rfl inw_Jb (kJb_lt hm hi) (zJb hm hi) 0 (by decide) hl rfl d kk
theorem p_Jb_account (C : Cw g own cc nL h l E) (hm : m < 2) {i : Nat} (hi : i < 30) {idx : Nat} {x : Int} (hl : Cond.fieldLink own idx "GreatMachine$Job" "account" "I" ∈ lw_w) (d : decode cc pc = .ok (.putfield idx, 3)) (kk : g (sm S0 m (tu t 17 i x)) (pc + 3) L st) : g (sm S0 m t) pc L (iv x :: rf E (kJb m i) :: st) := gPut C (ci := 2) (tyf := ty_Jb) (ty := .int) rfl inw_Jb tok_Jb nm_Jb (kJb_lt hm hi) (zJb hm hi) 0 (by decide) hl rfl (by decide +kernel) rfl rfl (by simp [oJb]) (by rw [(zJb hm hi), sm_eq, sm_eq]; simp [oJb, tu]) (zM_ne hm (mx_Jb (by decide) (by decide) hi)) d kk
theorem g_Jb_nodes (C : Cw g own cc nL h l E) (hm : m < 2) {i : Nat} (hi : i < 30) {idx : Nat} (hl : Cond.fieldLink own idx "GreatMachine$Job" "nodes" "I" ∈ lw_w) (d : decode cc pc = .ok (.getfield idx, 3)) (kk : g (sm S0 m t) (pc + 3) L (iv (t 18 i) :: st)) : g (sm S0 m t) pc L (rf E (kJb m i) :: st) := gGet C (ci := 2) rfl inw_Jb (kJb_lt hm hi) (zJb hm hi) 1 (by decide) hl (by rw [sm_eq]; rfl) d kk
theorem gw_Jb_nodes (C : Cw g own cc nL h l E) (hm : m < 2) {i : Nat} (hi : i < 30) {idx : Nat} (hl : Cond.fieldLink own idx "GreatMachine$Job" "nodes" "I" ∈ lw_w) (d : decode cc pc = .ok (.getfield idx, 3)) (kk : g S (pc + 3) L (iv (S m 18 i) :: st)) : g S pc L (rf E (kJb m i) :: st) := gGet C (ci := 2) rfl inw_Jb (kJb_lt hm hi) (zJb hm hi) 1 (by decide) hl rfl d kk
theorem p_Jb_nodes (C : Cw g own cc nL h l E) (hm : m < 2) {i : Nat} (hi : i < 30) {idx : Nat} {x : Int} (hl : Cond.fieldLink own idx "GreatMachine$Job" "nodes" "I" ∈ lw_w) (d : decode cc pc = .ok (.putfield idx, 3)) (kk : g (sm S0 m (tu t 18 i x)) (pc + 3) L st) : g (sm S0 m t) pc L (iv x :: rf E (kJb m i) :: st) := gPut C (ci := 2) (tyf := ty_Jb) (ty := .int) rfl inw_Jb tok_Jb nm_Jb (kJb_lt hm hi) (zJb hm hi) 1 (by decide) hl rfl (by decide +kernel) rfl rfl (by simp [oJb]) (by rw [(zJb hm hi), sm_eq, sm_eq]; simp [oJb, tu]) (zM_ne hm (mx_Jb (by decide) (by decide) hi)) d kk
theorem g_Jb_licences (C : Cw g own cc nL h l E) (hm : m < 2) {i : Nat} (hi : i < 30) {idx : Nat} (hl : Cond.fieldLink own idx "GreatMachine$Job" "licences" "I" ∈ lw_w) (d : decode cc pc = .ok (.getfield idx, 3)) (kk : g (sm S0 m t) (pc + 3) L (iv (t 19 i) :: st)) : g (sm S0 m t) pc L (rf E (kJb m i) :: st) := gGet C (ci := 2) rfl inw_Jb (kJb_lt hm hi) (zJb hm hi) 2 (by decide) hl (by rw [sm_eq]; rfl) d kk
theorem gw_Jb_licences (C : Cw g own cc nL h l E) (hm : m < 2) {i : Nat} (hi : i < 30) {idx : Nat} (hl : Cond.fieldLink own idx "GreatMachine$Job" "licences" "I" ∈ lw_w) (d : decode cc pc = .ok (.getfield idx, 3)) (kk : g S (pc + 3) L (iv (S m 19 i) :: st)) : g S pc L (rf E (kJb m i) :: st) := gGet C (ci := 2) rfl inw_Jb (kJb_lt hm hi) (zJb hm hi) 2 (by decide) hl rfl d kk
theorem p_Jb_licences (C : Cw g own cc nL h l E) (hm : m < 2) {i : Nat} (hi : i < 30) {idx : Nat} {x : Int} (hl : Cond.fieldLink own idx "GreatMachine$Job" "licences" "I" ∈ lw_w) (d : decode cc pc = .ok (.putfield idx, 3)) (kk : g (sm S0 m (tu t 19 i x)) (pc + 3) L st) : g (sm S0 m t) pc L (iv x :: rf E (kJb m i) :: st) := gPut C (ci := 2) (tyf := ty_Jb) (ty := .int) rfl inw_Jb tok_Jb nm_Jb (kJb_lt hm hi) (zJb hm hi) 2 (by decide) hl rfl (by decide +kernel) rfl rfl (by simp [oJb]) (by rw [(zJb hm hi), sm_eq, sm_eq]; simp [oJb, tu]) (zM_ne hm (mx_Jb (by decide) (by decide) hi)) d kk
theorem g_Jb_limit (C : Cw g own cc nL h l E) (hm : m < 2) {i : Nat} (hi : i < 30) {idx : Nat} (hl : Cond.fieldLink own idx "GreatMachine$Job" "limit" "I" ∈ lw_w) (d : decode cc pc = .ok (.getfield idx, 3)) (kk : g (sm S0 m t) (pc + 3) L (iv (t 20 i) :: st)) : g (sm S0 m t) pc L (rf E (kJb m i) :: st) := gGet C (ci := 2) rfl inw_Jb (kJb_lt hm hi) (zJb hm hi) 3 (by decide) hl (by rw [sm_eq]; rfl) d kk
theorem gw_Jb_limit (C : Cw g own cc nL h l E) (hm : m < 2) {i : Nat} (hi : i < 30) {idx : Nat} (hl : Cond.fieldLink own idx "GreatMachine$Job" "limit" "I" ∈ lw_w) (d : decode cc pc = .ok (.getfield idx, 3)) (kk : g S (pc + 3) L (iv (S m 20 i) :: st)) : g S pc L (rf E (kJb m i) :: st) := gGet C (ci := 2) rfl inw_Jb (kJb_lt hm hi) (zJb hm hi) 3 (by decide) hl rfl d kk
theorem p_Jb_limit (C : Cw g own cc nL h l E) (hm : m < 2) {i : Nat} (hi : i < 30) {idx : Nat} {x : Int} (hl : Cond.fieldLink own idx "GreatMachine$Job" "limit" "I" ∈ lw_w) (d : decode cc pc = .ok (.putfield idx, 3)) (kk : g (sm S0 m (tu t 20 i x)) (pc + 3) L st) : g (sm S0 m t) pc L (iv x :: rf E (kJb m i) :: st) := gPut C (ci := 2) (tyf := ty_Jb) (ty := .int) rfl inw_Jb tok_Jb nm_Jb (kJb_lt hm hi) (zJb hm hi) 3 (by decide) hl rfl (by decide +kernel) rfl rfl (by simp [oJb]) (by rw [(zJb hm hi), sm_eq, sm_eq]; simp [oJb, tu]) (zM_ne hm (mx_Jb (by decide) (by decide) hi)) d kk
theorem g_Jb_truly (C : Cw g own cc nL h l E) (hm : m < 2) {i : Nat} (hi : i < 30) {idx : Nat} (hl : Cond.fieldLink own idx "GreatMachine$Job" "truly" "I" ∈ lw_w) (d : decode cc pc = .ok (.getfield idx, 3)) (kk : g (sm S0 m t) (pc + 3) L (iv (t 21 i) :: st)) : g (sm S0 m t) pc L (rf E (kJb m i) :: st) := gGet C (ci := 2) rfl inw_Jb (kJb_lt hm hi) (zJb hm hi) 4 (by decide) hl (by rw [sm_eq]; rfl) d kk
theorem gw_Jb_truly (C : Cw g own cc nL h l E) (hm : m < 2) {i : Nat} (hi : i < 30) {idx : Nat} (hl : Cond.fieldLink own idx "GreatMachine$Job" "truly" "I" ∈ lw_w) (d : decode cc pc = .ok (.getfield idx, 3)) (kk : g S (pc + 3) L (iv (S m 21 i) :: st)) : g S pc L (rf E (kJb m i) :: st) := gGet C (ci := 2) rfl inw_Jb (kJb_lt hm hi) (zJb hm hi) 4 (by decide) hl rfl d kk
theorem p_Jb_truly (C : Cw g own cc nL h l E) (hm : m < 2) {i : Nat} (hi : i < 30) {idx : Nat} {x : Int} (hl : Cond.fieldLink own idx "GreatMachine$Job" "truly" "I" ∈ lw_w) (d : decode cc pc = .ok (.putfield idx, 3)) (kk : g (sm S0 m (tu t 21 i x)) (pc + 3) L st) : g (sm S0 m t) pc L (iv x :: rf E (kJb m i) :: st) := gPut C (ci := 2) (tyf := ty_Jb) (ty := .int) rfl inw_Jb tok_Jb nm_Jb (kJb_lt hm hi) (zJb hm hi) 4 (by decide) hl rfl (by decide +kernel) rfl rfl (by simp [oJb]) (by rw [(zJb hm hi), sm_eq, sm_eq]; simp [oJb, tu]) (zM_ne hm (mx_Jb (by decide) (by decide) hi)) d kk
theorem g_Jb_save (C : Cw g own cc nL h l E) (hm : m < 2) {i : Nat} (hi : i < 30) {idx : Nat} (hl : Cond.fieldLink own idx "GreatMachine$Job" "save" "I" ∈ lw_w) (d : decode cc pc = .ok (.getfield idx, 3)) (kk : g (sm S0 m t) (pc + 3) L (iv (t 22 i) :: st)) : g (sm S0 m t) pc L (rf E (kJb m i) :: st) := gGet C (ci := 2) rfl inw_Jb (kJb_lt hm hi) (zJb hm hi) 5 (by decide) hl (by rw [sm_eq]; rfl) d kk
theorem gw_Jb_save (C : Cw g own cc nL h l E) (hm : m < 2) {i : Nat} (hi : i < 30) {idx : Nat} (hl : Cond.fieldLink own idx "GreatMachine$Job" "save" "I" ∈ lw_w) (d : decode cc pc = .ok (.getfield idx, 3)) (kk : g S (pc + 3) L (iv (S m 22 i) :: st)) : g S pc L (rf E (kJb m i) :: st) := gGet C (ci := 2) rfl inw_Jb (kJb_lt hm hi) (zJb hm hi) 5 (by decide) hl rfl d kk
theorem p_Jb_save (C : Cw g own cc nL h l E) (hm : m < 2) {i : Nat} (hi : i < 30) {idx : Nat} {x : Int} (hl : Cond.fieldLink own idx "GreatMachine$Job" "save" "I" ∈ lw_w) (d : decode cc pc = .ok (.putfield idx, 3)) (kk : g (sm S0 m (tu t 22 i x)) (pc + 3) L st) : g (sm S0 m t) pc L (iv x :: rf E (kJb m i) :: st) := gPut C (ci := 2) (tyf := ty_Jb) (ty := .int) rfl inw_Jb tok_Jb nm_Jb (kJb_lt hm hi) (zJb hm hi) 5 (by decide) hl rfl (by decide +kernel) rfl rfl (by simp [oJb]) (by rw [(zJb hm hi), sm_eq, sm_eq]; simp [oJb, tu]) (zM_ne hm (mx_Jb (by decide) (by decide) hi)) d kk
theorem g_Jb_ahead (C : Cw g own cc nL h l E) (hm : m < 2) {i : Nat} (hi : i < 30) {idx : Nat} (hl : Cond.fieldLink own idx "GreatMachine$Job" "ahead" "I" ∈ lw_w) (d : decode cc pc = .ok (.getfield idx, 3)) (kk : g (sm S0 m t) (pc + 3) L (iv (t 23 i) :: st)) : g (sm S0 m t) pc L (rf E (kJb m i) :: st) := gGet C (ci := 2) rfl inw_Jb (kJb_lt hm hi) (zJb hm hi) 6 (by decide) hl (by rw [sm_eq]; rfl) d kk
theorem gw_Jb_ahead (C : Cw g own cc nL h l E) (hm : m < 2) {i : Nat} (hi : i < 30) {idx : Nat} (hl : Cond.fieldLink own idx "GreatMachine$Job" "ahead" "I" ∈ lw_w) (d : decode cc pc = .ok (.getfield idx, 3)) (kk : g S (pc + 3) L (iv (S m 23 i) :: st)) : g S pc L (rf E (kJb m i) :: st) := gGet C (ci := 2) rfl inw_Jb (kJb_lt hm hi) (zJb hm hi) 6 (by decide) hl rfl d kk
theorem p_Jb_ahead (C : Cw g own cc nL h l E) (hm : m < 2) {i : Nat} (hi : i < 30) {idx : Nat} {x : Int} (hl : Cond.fieldLink own idx "GreatMachine$Job" "ahead" "I" ∈ lw_w) (d : decode cc pc = .ok (.putfield idx, 3)) (kk : g (sm S0 m (tu t 23 i x)) (pc + 3) L st) : g (sm S0 m t) pc L (iv x :: rf E (kJb m i) :: st) := gPut C (ci := 2) (tyf := ty_Jb) (ty := .int) rfl inw_Jb tok_Jb nm_Jb (kJb_lt hm hi) (zJb hm hi) 6 (by decide) hl rfl (by decide +kernel) rfl rfl (by simp [oJb]) (by rw [(zJb hm hi), sm_eq, sm_eq]; simp [oJb, tu]) (zM_ne hm (mx_Jb (by decide) (by decide) hi)) d kk
theorem g_Jb_state (C : Cw g own cc nL h l E) (hm : m < 2) {i : Nat} (hi : i < 30) {idx : Nat} (hl : Cond.fieldLink own idx "GreatMachine$Job" "state" "I" ∈ lw_w) (d : decode cc pc = .ok (.getfield idx, 3)) (kk : g (sm S0 m t) (pc + 3) L (iv (t 24 i) :: st)) : g (sm S0 m t) pc L (rf E (kJb m i) :: st) := gGet C (ci := 2) rfl inw_Jb (kJb_lt hm hi) (zJb hm hi) 7 (by decide) hl (by rw [sm_eq]; rfl) d kk
theorem gw_Jb_state (C : Cw g own cc nL h l E) (hm : m < 2) {i : Nat} (hi : i < 30) {idx : Nat} (hl : Cond.fieldLink own idx "GreatMachine$Job" "state" "I" ∈ lw_w) (d : decode cc pc = .ok (.getfield idx, 3)) (kk : g S (pc + 3) L (iv (S m 24 i) :: st)) : g S pc L (rf E (kJb m i) :: st) := gGet C (ci := 2) rfl inw_Jb (kJb_lt hm hi) (zJb hm hi) 7 (by decide) hl rfl d kk
theorem p_Jb_state (C : Cw g own cc nL h l E) (hm : m < 2) {i : Nat} (hi : i < 30) {idx : Nat} {x : Int} (hl : Cond.fieldLink own idx "GreatMachine$Job" "state" "I" ∈ lw_w) (d : decode cc pc = .ok (.putfield idx, 3)) (kk : g (sm S0 m (tu t 24 i x)) (pc + 3) L st) : g (sm S0 m t) pc L (iv x :: rf E (kJb m i) :: st) := gPut C (ci := 2) (tyf := ty_Jb) (ty := .int) rfl inw_Jb tok_Jb nm_Jb (kJb_lt hm hi) (zJb hm hi) 7 (by decide) hl rfl (by decide +kernel) rfl rfl (by simp [oJb]) (by rw [(zJb hm hi), sm_eq, sm_eq]; simp [oJb, tu]) (zM_ne hm (mx_Jb (by decide) (by decide) hi)) d kk
theorem g_Jb_begun (C : Cw g own cc nL h l E) (hm : m < 2) {i : Nat} (hi : i < 30) {idx : Nat} (hl : Cond.fieldLink own idx "GreatMachine$Job" "begun" "I" ∈ lw_w) (d : decode cc pc = .ok (.getfield idx, 3)) (kk : g (sm S0 m t) (pc + 3) L (iv (t 25 i) :: st)) : g (sm S0 m t) pc L (rf E (kJb m i) :: st) := gGet C (ci := 2) rfl inw_Jb (kJb_lt hm hi) (zJb hm hi) 8 (by decide) hl (by rw [sm_eq]; rfl) d kk
theorem gw_Jb_begun (C : Cw g own cc nL h l E) (hm : m < 2) {i : Nat} (hi : i < 30) {idx : Nat} (hl : Cond.fieldLink own idx "GreatMachine$Job" "begun" "I" ∈ lw_w) (d : decode cc pc = .ok (.getfield idx, 3)) (kk : g S (pc + 3) L (iv (S m 25 i) :: st)) : g S pc L (rf E (kJb m i) :: st) := gGet C (ci := 2) rfl inw_Jb (kJb_lt hm hi) (zJb hm hi) 8 (by decide) hl rfl d kk
theorem p_Jb_begun (C : Cw g own cc nL h l E) (hm : m < 2) {i : Nat} (hi : i < 30) {idx : Nat} {x : Int} (hl : Cond.fieldLink own idx "GreatMachine$Job" "begun" "I" ∈ lw_w) (d : decode cc pc = .ok (.putfield idx, 3)) (kk : g (sm S0 m (tu t 25 i x)) (pc + 3) L st) : g (sm S0 m t) pc L (iv x :: rf E (kJb m i) :: st) := gPut C (ci := 2) (tyf := ty_Jb) (ty := .int) rfl inw_Jb tok_Jb nm_Jb (kJb_lt hm hi) (zJb hm hi) 8 (by decide) hl rfl (by decide +kernel) rfl rfl (by simp [oJb]) (by rw [(zJb hm hi), sm_eq, sm_eq]; simp [oJb, tu]) (zM_ne hm (mx_Jb (by decide) (by decide) hi)) d kk
theorem g_Jb_ended (C : Cw g own cc nL h l E) (hm : m < 2) {i : Nat} (hi : i < 30) {idx : Nat} (hl : Cond.fieldLink own idx "GreatMachine$Job" "ended" "I" ∈ lw_w) (d : decode cc pc = .ok (.getfield idx, 3)) (kk : g (sm S0 m t) (pc + 3) L (iv (t 26 i) :: st)) : g (sm S0 m t) pc L (rf E (kJb m i) :: st) := gGet C (ci := 2) rfl inw_Jb (kJb_lt hm hi) (zJb hm hi) 9 (by decide) hl (by rw [sm_eq]; rfl) d kk
theorem gw_Jb_ended (C : Cw g own cc nL h l E) (hm : m < 2) {i : Nat} (hi : i < 30) {idx : Nat} (hl : Cond.fieldLink own idx "GreatMachine$Job" "ended" "I" ∈ lw_w) (d : decode cc pc = .ok (.getfield idx, 3)) (kk : g S (pc + 3) L (iv (S m 26 i) :: st)) : g S pc L (rf E (kJb m i) :: st) := gGet C (ci := 2) rfl inw_Jb (kJb_lt hm hi) (zJb hm hi) 9 (by decide) hl rfl d kk
theorem p_Jb_ended (C : Cw g own cc nL h l E) (hm : m < 2) {i : Nat} (hi : i < 30) {idx : Nat} {x : Int} (hl : Cond.fieldLink own idx "GreatMachine$Job" "ended" "I" ∈ lw_w) (d : decode cc pc = .ok (.putfield idx, 3)) (kk : g (sm S0 m (tu t 26 i x)) (pc + 3) L st) : g (sm S0 m t) pc L (iv x :: rf E (kJb m i) :: st) := gPut C (ci := 2) (tyf := ty_Jb) (ty := .int) rfl inw_Jb tok_Jb nm_Jb (kJb_lt hm hi) (zJb hm hi) 9 (by decide) hl rfl (by decide +kernel) rfl rfl (by simp [oJb]) (by rw [(zJb hm hi), sm_eq, sm_eq]; simp [oJb, tu]) (zM_ne hm (mx_Jb (by decide) (by decide) hi)) d kk
theorem g_Jb_saved (C : Cw g own cc nL h l E) (hm : m < 2) {i : Nat} (hi : i < 30) {idx : Nat} (hl : Cond.fieldLink own idx "GreatMachine$Job" "saved" "I" ∈ lw_w) (d : decode cc pc = .ok (.getfield idx, 3)) (kk : g (sm S0 m t) (pc + 3) L (iv (t 27 i) :: st)) : g (sm S0 m t) pc L (rf E (kJb m i) :: st) := gGet C (ci := 2) rfl inw_Jb (kJb_lt hm hi) (zJb hm hi) 10 (by decide) hl (by rw [sm_eq]; rfl) d kk
theorem gw_Jb_saved (C : Cw g own cc nL h l E) (hm : m < 2) {i : Nat} (hi : i < 30) {idx : Nat} (hl : Cond.fieldLink own idx "GreatMachine$Job" "saved" "I" ∈ lw_w) (d : decode cc pc = .ok (.getfield idx, 3)) (kk : g S (pc + 3) L (iv (S m 27 i) :: st)) : g S pc L (rf E (kJb m i) :: st) := gGet C (ci := 2) rfl inw_Jb (kJb_lt hm hi) (zJb hm hi) 10 (by decide) hl rfl d kk
theorem p_Jb_saved (C : Cw g own cc nL h l E) (hm : m < 2) {i : Nat} (hi : i < 30) {idx : Nat} {x : Int} (hl : Cond.fieldLink own idx "GreatMachine$Job" "saved" "I" ∈ lw_w) (d : decode cc pc = .ok (.putfield idx, 3)) (kk : g (sm S0 m (tu t 27 i x)) (pc + 3) L st) : g (sm S0 m t) pc L (iv x :: rf E (kJb m i) :: st) := gPut C (ci := 2) (tyf := ty_Jb) (ty := .int) rfl inw_Jb tok_Jb nm_Jb (kJb_lt hm hi) (zJb hm hi) 10 (by decide) hl rfl (by decide +kernel) rfl rfl (by simp [oJb]) (by rw [(zJb hm hi), sm_eq, sm_eq]; simp [oJb, tu]) (zM_ne hm (mx_Jb (by decide) (by decide) hi)) d kk
theorem g_Jb_counted (C : Cw g own cc nL h l E) (hm : m < 2) {i : Nat} (hi : i < 30) {idx : Nat} (hl : Cond.fieldLink own idx "GreatMachine$Job" "counted" "I" ∈ lw_w) (d : decode cc pc = .ok (.getfield idx, 3)) (kk : g (sm S0 m t) (pc + 3) L (iv (t 28 i) :: st)) : g (sm S0 m t) pc L (rf E (kJb m i) :: st) := gGet C (ci := 2) rfl inw_Jb (kJb_lt hm hi) (zJb hm hi) 11 (by decide) hl (by rw [sm_eq]; rfl) d kk
theorem gw_Jb_counted (C : Cw g own cc nL h l E) (hm : m < 2) {i : Nat} (hi : i < 30) {idx : Nat} (hl : Cond.fieldLink own idx "GreatMachine$Job" "counted" "I" ∈ lw_w) (d : decode cc pc = .ok (.getfield idx, 3)) (kk : g S (pc + 3) L (iv (S m 28 i) :: st)) : g S pc L (rf E (kJb m i) :: st) := gGet C (ci := 2) rfl inw_Jb (kJb_lt hm hi) (zJb hm hi) 11 (by decide) hl rfl d kk
theorem p_Jb_counted (C : Cw g own cc nL h l E) (hm : m < 2) {i : Nat} (hi : i < 30) {idx : Nat} {x : Int} (hl : Cond.fieldLink own idx "GreatMachine$Job" "counted" "I" ∈ lw_w) (d : decode cc pc = .ok (.putfield idx, 3)) (kk : g (sm S0 m (tu t 28 i x)) (pc + 3) L st) : g (sm S0 m t) pc L (iv x :: rf E (kJb m i) :: st) := gPut C (ci := 2) (tyf := ty_Jb) (ty := .int) rfl inw_Jb tok_Jb nm_Jb (kJb_lt hm hi) (zJb hm hi) 11 (by decide) hl rfl (by decide +kernel) rfl rfl (by simp [oJb]) (by rw [(zJb hm hi), sm_eq, sm_eq]; simp [oJb, tu]) (zM_ne hm (mx_Jb (by decide) (by decide) hi)) d kk
theorem g_Jb_takesUntil (C : Cw g own cc nL h l E) (hm : m < 2) {i : Nat} (hi : i < 30) {idx : Nat} (hl : Cond.fieldLink own idx "GreatMachine$Job" "takesUntil" "I" ∈ lw_w) (d : decode cc pc = .ok (.getfield idx, 3)) (kk : g (sm S0 m t) (pc + 3) L (iv (t 29 i) :: st)) : g (sm S0 m t) pc L (rf E (kJb m i) :: st) := gGet C (ci := 2) rfl inw_Jb (kJb_lt hm hi) (zJb hm hi) 12 (by decide) hl (by rw [sm_eq]; rfl) d kk
theorem gw_Jb_takesUntil (C : Cw g own cc nL h l E) (hm : m < 2) {i : Nat} (hi : i < 30) {idx : Nat} (hl : Cond.fieldLink own idx "GreatMachine$Job" "takesUntil" "I" ∈ lw_w) (d : decode cc pc = .ok (.getfield idx, 3)) (kk : g S (pc + 3) L (iv (S m 29 i) :: st)) : g S pc L (rf E (kJb m i) :: st) := gGet C (ci := 2) rfl inw_Jb (kJb_lt hm hi) (zJb hm hi) 12 (by decide) hl rfl d kk
theorem p_Jb_takesUntil (C : Cw g own cc nL h l E) (hm : m < 2) {i : Nat} (hi : i < 30) {idx : Nat} {x : Int} (hl : Cond.fieldLink own idx "GreatMachine$Job" "takesUntil" "I" ∈ lw_w) (d : decode cc pc = .ok (.putfield idx, 3)) (kk : g (sm S0 m (tu t 29 i x)) (pc + 3) L st) : g (sm S0 m t) pc L (iv x :: rf E (kJb m i) :: st) := gPut C (ci := 2) (tyf := ty_Jb) (ty := .int) rfl inw_Jb tok_Jb nm_Jb (kJb_lt hm hi) (zJb hm hi) 12 (by decide) hl rfl (by decide +kernel) rfl rfl (by simp [oJb]) (by rw [(zJb hm hi), sm_eq, sm_eq]; simp [oJb, tu]) (zM_ne hm (mx_Jb (by decide) (by decide) hi)) d kk
theorem g_Hd_nodes (C : Cw g own cc nL h l E) (hm : m < 2) {i : Nat} (hi : i < 9) {idx : Nat} (hl : Cond.fieldLink own idx "GreatMachine$Hold" "nodes" "I" ∈ lw_w) (d : decode cc pc = .ok (.getfield idx, 3)) (kk : g (sm S0 m t) (pc + 3) L (iv (t 31 i) :: st)) : g (sm S0 m t) pc L (rf E (kHd m i) :: st) := gGet C (ci := 1) rfl inw_Hd (kHd_lt hm hi) (zHd hm hi) 0 (by decide) hl (by rw [sm_eq]; rfl) d kk
theorem gw_Hd_nodes (C : Cw g own cc nL h l E) (hm : m < 2) {i : Nat} (hi : i < 9) {idx : Nat} (hl : Cond.fieldLink own idx "GreatMachine$Hold" "nodes" "I" ∈ lw_w) (d : decode cc pc = .ok (.getfield idx, 3)) (kk : g S (pc + 3) L (iv (S m 31 i) :: st)) : g S pc L (rf E (kHd m i) :: st) := gGet C (ci := 1) rfl inw_Hd (kHd_lt hm hi) (zHd hm hi) 0 (by decide) hl rfl d kk
theorem p_Hd_nodes (C : Cw g own cc nL h l E) (hm : m < 2) {i : Nat} (hi : i < 9) {idx : Nat} {x : Int} (hl : Cond.fieldLink own idx "GreatMachine$Hold" "nodes" "I" ∈ lw_w) (d : decode cc pc = .ok (.putfield idx, 3)) (kk : g (sm S0 m (tu t 31 i x)) (pc + 3) L st) : g (sm S0 m t) pc L (iv x :: rf E (kHd m i) :: st) := gPut C (ci := 1) (tyf := ty_Hd) (ty := .int) rfl inw_Hd tok_Hd nm_Hd (kHd_lt hm hi) (zHd hm hi) 0 (by decide) hl rfl (by decide +kernel) rfl rfl (by simp [oHd]) (by rw [(zHd hm hi), sm_eq, sm_eq]; simp [oHd, tu]) (zM_ne hm (mx_Hd (by decide) (by decide) hi)) d kk
theorem g_Hd_licences (C : Cw g own cc nL h l E) (hm : m < 2) {i : Nat} (hi : i < 9) {idx : Nat} (hl : Cond.fieldLink own idx "GreatMachine$Hold" "licences" "I" ∈ lw_w) (d : decode cc pc = .ok (.getfield idx, 3)) (kk : g (sm S0 m t) (pc + 3) L (iv (t 32 i) :: st)) : g (sm S0 m t) pc L (rf E (kHd m i) :: st) := gGet C (ci := 1) rfl inw_Hd (kHd_lt hm hi) (zHd hm hi) 1 (by decide) hl (by rw [sm_eq]; rfl) d kk
theorem gw_Hd_licences (C : Cw g own cc nL h l E) (hm : m < 2) {i : Nat} (hi : i < 9) {idx : Nat} (hl : Cond.fieldLink own idx "GreatMachine$Hold" "licences" "I" ∈ lw_w) (d : decode cc pc = .ok (.getfield idx, 3)) (kk : g S (pc + 3) L (iv (S m 32 i) :: st)) : g S pc L (rf E (kHd m i) :: st) := gGet C (ci := 1) rfl inw_Hd (kHd_lt hm hi) (zHd hm hi) 1 (by decide) hl rfl d kk
theorem p_Hd_licences (C : Cw g own cc nL h l E) (hm : m < 2) {i : Nat} (hi : i < 9) {idx : Nat} {x : Int} (hl : Cond.fieldLink own idx "GreatMachine$Hold" "licences" "I" ∈ lw_w) (d : decode cc pc = .ok (.putfield idx, 3)) (kk : g (sm S0 m (tu t 32 i x)) (pc + 3) L st) : g (sm S0 m t) pc L (iv x :: rf E (kHd m i) :: st) := gPut C (ci := 1) (tyf := ty_Hd) (ty := .int) rfl inw_Hd tok_Hd nm_Hd (kHd_lt hm hi) (zHd hm hi) 1 (by decide) hl rfl (by decide +kernel) rfl rfl (by simp [oHd]) (by rw [(zHd hm hi), sm_eq, sm_eq]; simp [oHd, tu]) (zM_ne hm (mx_Hd (by decide) (by decide) hi)) d kk
theorem g_Hd_from (C : Cw g own cc nL h l E) (hm : m < 2) {i : Nat} (hi : i < 9) {idx : Nat} (hl : Cond.fieldLink own idx "GreatMachine$Hold" "from" "I" ∈ lw_w) (d : decode cc pc = .ok (.getfield idx, 3)) (kk : g (sm S0 m t) (pc + 3) L (iv (t 33 i) :: st)) : g (sm S0 m t) pc L (rf E (kHd m i) :: st) := gGet C (ci := 1) rfl inw_Hd (kHd_lt hm hi) (zHd hm hi) 2 (by decide) hl (by rw [sm_eq]; rfl) d kk
theorem gw_Hd_from (C : Cw g own cc nL h l E) (hm : m < 2) {i : Nat} (hi : i < 9) {idx : Nat} (hl : Cond.fieldLink own idx "GreatMachine$Hold" "from" "I" ∈ lw_w) (d : decode cc pc = .ok (.getfield idx, 3)) (kk : g S (pc + 3) L (iv (S m 33 i) :: st)) : g S pc L (rf E (kHd m i) :: st) := gGet C (ci := 1) rfl inw_Hd (kHd_lt hm hi) (zHd hm hi) 2 (by decide) hl rfl d kk
theorem p_Hd_from (C : Cw g own cc nL h l E) (hm : m < 2) {i : Nat} (hi : i < 9) {idx : Nat} {x : Int} (hl : Cond.fieldLink own idx "GreatMachine$Hold" "from" "I" ∈ lw_w) (d : decode cc pc = .ok (.putfield idx, 3)) (kk : g (sm S0 m (tu t 33 i x)) (pc + 3) L st) : g (sm S0 m t) pc L (iv x :: rf E (kHd m i) :: st) := gPut C (ci := 1) (tyf := ty_Hd) (ty := .int) rfl inw_Hd tok_Hd nm_Hd (kHd_lt hm hi) (zHd hm hi) 2 (by decide) hl rfl (by decide +kernel) rfl rfl (by simp [oHd]) (by rw [(zHd hm hi), sm_eq, sm_eq]; simp [oHd, tu]) (zM_ne hm (mx_Hd (by decide) (by decide) hi)) d kk
theorem g_Hd_to (C : Cw g own cc nL h l E) (hm : m < 2) {i : Nat} (hi : i < 9) {idx : Nat} (hl : Cond.fieldLink own idx "GreatMachine$Hold" "to" "I" ∈ lw_w) (d : decode cc pc = .ok (.getfield idx, 3)) (kk : g (sm S0 m t) (pc + 3) L (iv (t 34 i) :: st)) : g (sm S0 m t) pc L (rf E (kHd m i) :: st) := gGet C (ci := 1) rfl inw_Hd (kHd_lt hm hi) (zHd hm hi) 3 (by decide) hl (by rw [sm_eq]; rfl) d kk
theorem gw_Hd_to (C : Cw g own cc nL h l E) (hm : m < 2) {i : Nat} (hi : i < 9) {idx : Nat} (hl : Cond.fieldLink own idx "GreatMachine$Hold" "to" "I" ∈ lw_w) (d : decode cc pc = .ok (.getfield idx, 3)) (kk : g S (pc + 3) L (iv (S m 34 i) :: st)) : g S pc L (rf E (kHd m i) :: st) := gGet C (ci := 1) rfl inw_Hd (kHd_lt hm hi) (zHd hm hi) 3 (by decide) hl rfl d kk
theorem p_Hd_to (C : Cw g own cc nL h l E) (hm : m < 2) {i : Nat} (hi : i < 9) {idx : Nat} {x : Int} (hl : Cond.fieldLink own idx "GreatMachine$Hold" "to" "I" ∈ lw_w) (d : decode cc pc = .ok (.putfield idx, 3)) (kk : g (sm S0 m (tu t 34 i x)) (pc + 3) L st) : g (sm S0 m t) pc L (iv x :: rf E (kHd m i) :: st) := gPut C (ci := 1) (tyf := ty_Hd) (ty := .int) rfl inw_Hd tok_Hd nm_Hd (kHd_lt hm hi) (zHd hm hi) 3 (by decide) hl rfl (by decide +kernel) rfl rfl (by simp [oHd]) (by rw [(zHd hm hi), sm_eq, sm_eq]; simp [oHd, tu]) (zM_ne hm (mx_Hd (by decide) (by decide) hi)) d kk
theorem g_Jb_nodesOn (C : Cw g own cc nL h l E) (hm : m < 2) {i : Nat} (hi : i < 30) {idx : Nat} (hl : Cond.fieldLink own idx "GreatMachine$Job" "nodesOn" "[I" ∈ lw_w) (d : decode cc pc = .ok (.getfield idx, 3)) (kk : g S (pc + 3) L (rf E (kOn m i) :: st)) : g S pc L (rf E (kJb m i) :: st) := gGet C (ci := 2) rfl inw_Jb (kJb_lt hm hi) (zJb hm hi) 13 (by decide) hl rfl d kk
theorem g_Gm_machine (C : Cw g own cc nL h l E) {idx : Nat} (hl : Cond.fieldLink own idx "GreatMachine" "machine" "LGreatMachine$Machine;" ∈ lw_w) (d : decode cc pc = .ok (.getfield idx, 3)) (kk : g S (pc + 3) L (rf E (kMc 0) :: st)) : g S pc L (rf E 0 :: st) := gGet C (ci := 5) rfl inw_Gm (by decide) zGm 0 (by decide) hl rfl d kk
theorem g_Gm_foresight (C : Cw g own cc nL h l E) {idx : Nat} (hl : Cond.fieldLink own idx "GreatMachine" "foresight" "LGreatMachine$Machine;" ∈ lw_w) (d : decode cc pc = .ok (.getfield idx, 3)) (kk : g S (pc + 3) L (rf E (kMc 1) :: st)) : g S pc L (rf E 0 :: st) := gGet C (ci := 5) rfl inw_Gm (by decide) zGm 1 (by decide) hl rfl d kk
theorem g_Md_time (C : Cw g own cc nL h l E) {idx : Nat} (hl : Cond.fieldLink own idx "GreatMachineModel" "time" "I" ∈ lw_w) (d : decode cc pc = .ok (.getfield idx, 3)) (kk : g (sm S0 2 t) (pc + 3) L (iv (t 4 0) :: st)) : g (sm S0 2 t) pc L (rf E 1 :: st) := gGet C (ci := 6) rfl inw_Md (by decide) zMd 0 (by decide) hl (by rw [sm_eq]; rfl) d kk
theorem p_Md_time (C : Cw g own cc nL h l E) {idx : Nat} {x : Int} (hl : Cond.fieldLink own idx "GreatMachineModel" "time" "I" ∈ lw_w) (d : decode cc pc = .ok (.putfield idx, 3)) (kk : g (sm S0 2 (tu t 4 0 x)) (pc + 3) L st) : g (sm S0 2 t) pc L (iv x :: rf E 1 :: st) := gPut C (ci := 6) (tyf := ty_Md) (ty := .int) rfl inw_Md tok_Md nm_Md (by decide) zMd 0 (by decide) hl rfl (by decide +kernel) rfl rfl (by simp [oMd]) (by rw [zMd, sm_eq, sm_eq]; simp [oMd, tu]) (zD_ne (fun hh => absurd rfl hh) (fun a ha _ => ar_ne (mdf_scal a ha _ (by decide)))) d kk
theorem g_Md_half (C : Cw g own cc nL h l E) {idx : Nat} (hl : Cond.fieldLink own idx "GreatMachineModel" "half" "I" ∈ lw_w) (d : decode cc pc = .ok (.getfield idx, 3)) (kk : g (sm S0 2 t) (pc + 3) L (iv (t 5 0) :: st)) : g (sm S0 2 t) pc L (rf E 1 :: st) := gGet C (ci := 6) rfl inw_Md (by decide) zMd 1 (by decide) hl (by rw [sm_eq]; rfl) d kk
theorem p_Md_half (C : Cw g own cc nL h l E) {idx : Nat} {x : Int} (hl : Cond.fieldLink own idx "GreatMachineModel" "half" "I" ∈ lw_w) (d : decode cc pc = .ok (.putfield idx, 3)) (kk : g (sm S0 2 (tu t 5 0 x)) (pc + 3) L st) : g (sm S0 2 t) pc L (iv x :: rf E 1 :: st) := gPut C (ci := 6) (tyf := ty_Md) (ty := .int) rfl inw_Md tok_Md nm_Md (by decide) zMd 1 (by decide) hl rfl (by decide +kernel) rfl rfl (by simp [oMd]) (by rw [zMd, sm_eq, sm_eq]; simp [oMd, tu]) (zD_ne (fun hh => absurd rfl hh) (fun a ha _ => ar_ne (mdf_scal a ha _ (by decide)))) d kk
theorem g_Md_allLicences (C : Cw g own cc nL h l E) {idx : Nat} (hl : Cond.fieldLink own idx "GreatMachineModel" "allLicences" "I" ∈ lw_w) (d : decode cc pc = .ok (.getfield idx, 3)) (kk : g (sm S0 2 t) (pc + 3) L (iv (t 6 0) :: st)) : g (sm S0 2 t) pc L (rf E 1 :: st) := gGet C (ci := 6) rfl inw_Md (by decide) zMd 2 (by decide) hl (by rw [sm_eq]; rfl) d kk
theorem p_Md_allLicences (C : Cw g own cc nL h l E) {idx : Nat} {x : Int} (hl : Cond.fieldLink own idx "GreatMachineModel" "allLicences" "I" ∈ lw_w) (d : decode cc pc = .ok (.putfield idx, 3)) (kk : g (sm S0 2 (tu t 6 0 x)) (pc + 3) L st) : g (sm S0 2 t) pc L (iv x :: rf E 1 :: st) := gPut C (ci := 6) (tyf := ty_Md) (ty := .int) rfl inw_Md tok_Md nm_Md (by decide) zMd 2 (by decide) hl rfl (by decide +kernel) rfl rfl (by simp [oMd]) (by rw [zMd, sm_eq, sm_eq]; simp [oMd, tu]) (zD_ne (fun hh => absurd rfl hh) (fun a ha _ => ar_ne (mdf_scal a ha _ (by decide)))) d kk
theorem g_Md_racks (C : Cw g own cc nL h l E) {idx : Nat} (hl : Cond.fieldLink own idx "GreatMachineModel" "racks" "I" ∈ lw_w) (d : decode cc pc = .ok (.getfield idx, 3)) (kk : g (sm S0 2 t) (pc + 3) L (iv (t 0 0) :: st)) : g (sm S0 2 t) pc L (rf E 1 :: st) := gGet C (ci := 6) rfl inw_Md (by decide) zMd 3 (by decide) hl (by rw [sm_eq]; rfl) d kk
theorem p_Md_racks (C : Cw g own cc nL h l E) {idx : Nat} {x : Int} (hl : Cond.fieldLink own idx "GreatMachineModel" "racks" "I" ∈ lw_w) (d : decode cc pc = .ok (.putfield idx, 3)) (kk : g (sm S0 2 (tu t 0 0 x)) (pc + 3) L st) : g (sm S0 2 t) pc L (iv x :: rf E 1 :: st) := gPut C (ci := 6) (tyf := ty_Md) (ty := .int) rfl inw_Md tok_Md nm_Md (by decide) zMd 3 (by decide) hl rfl (by decide +kernel) rfl rfl (by simp [oMd]) (by rw [zMd, sm_eq, sm_eq]; simp [oMd, tu]) (zD_ne (fun hh => absurd rfl hh) (fun a ha _ => ar_ne (mdf_scal a ha _ (by decide)))) d kk
theorem g_Md_nodes (C : Cw g own cc nL h l E) {idx : Nat} (hl : Cond.fieldLink own idx "GreatMachineModel" "nodes" "[I" ∈ lw_w) (d : decode cc pc = .ok (.getfield idx, 3)) (kk : g S (pc + 3) L (rf E (kMd 0) :: st)) : g S pc L (rf E 1 :: st) := gGet C (ci := 6) rfl inw_Md (by decide) zMd 4 (by decide) hl rfl d kk
theorem g_Md_isDrained (C : Cw g own cc nL h l E) {idx : Nat} (hl : Cond.fieldLink own idx "GreatMachineModel" "isDrained" "[Z" ∈ lw_w) (d : decode cc pc = .ok (.getfield idx, 3)) (kk : g S (pc + 3) L (rf E (kMd 1) :: st)) : g S pc L (rf E 1 :: st) := gGet C (ci := 6) rfl inw_Md (by decide) zMd 5 (by decide) hl rfl d kk
theorem g_Md_accounts (C : Cw g own cc nL h l E) {idx : Nat} (hl : Cond.fieldLink own idx "GreatMachineModel" "accounts" "I" ∈ lw_w) (d : decode cc pc = .ok (.getfield idx, 3)) (kk : g (sm S0 2 t) (pc + 3) L (iv (t 1 0) :: st)) : g (sm S0 2 t) pc L (rf E 1 :: st) := gGet C (ci := 6) rfl inw_Md (by decide) zMd 6 (by decide) hl (by rw [sm_eq]; rfl) d kk
theorem p_Md_accounts (C : Cw g own cc nL h l E) {idx : Nat} {x : Int} (hl : Cond.fieldLink own idx "GreatMachineModel" "accounts" "I" ∈ lw_w) (d : decode cc pc = .ok (.putfield idx, 3)) (kk : g (sm S0 2 (tu t 1 0 x)) (pc + 3) L st) : g (sm S0 2 t) pc L (iv x :: rf E 1 :: st) := gPut C (ci := 6) (tyf := ty_Md) (ty := .int) rfl inw_Md tok_Md nm_Md (by decide) zMd 6 (by decide) hl rfl (by decide +kernel) rfl rfl (by simp [oMd]) (by rw [zMd, sm_eq, sm_eq]; simp [oMd, tu]) (zD_ne (fun hh => absurd rfl hh) (fun a ha _ => ar_ne (mdf_scal a ha _ (by decide)))) d kk
theorem g_Md_shares (C : Cw g own cc nL h l E) {idx : Nat} (hl : Cond.fieldLink own idx "GreatMachineModel" "shares" "[I" ∈ lw_w) (d : decode cc pc = .ok (.getfield idx, 3)) (kk : g S (pc + 3) L (rf E (kMd 2) :: st)) : g S pc L (rf E 1 :: st) := gGet C (ci := 6) rfl inw_Md (by decide) zMd 7 (by decide) hl rfl d kk
theorem g_Md_used (C : Cw g own cc nL h l E) {idx : Nat} (hl : Cond.fieldLink own idx "GreatMachineModel" "used" "[I" ∈ lw_w) (d : decode cc pc = .ok (.getfield idx, 3)) (kk : g S (pc + 3) L (rf E (kMd 3) :: st)) : g S pc L (rf E 1 :: st) := gGet C (ci := 6) rfl inw_Md (by decide) zMd 8 (by decide) hl rfl d kk
theorem g_Md_jobs (C : Cw g own cc nL h l E) {idx : Nat} (hl : Cond.fieldLink own idx "GreatMachineModel" "jobs" "I" ∈ lw_w) (d : decode cc pc = .ok (.getfield idx, 3)) (kk : g (sm S0 2 t) (pc + 3) L (iv (t 2 0) :: st)) : g (sm S0 2 t) pc L (rf E 1 :: st) := gGet C (ci := 6) rfl inw_Md (by decide) zMd 9 (by decide) hl (by rw [sm_eq]; rfl) d kk
theorem p_Md_jobs (C : Cw g own cc nL h l E) {idx : Nat} {x : Int} (hl : Cond.fieldLink own idx "GreatMachineModel" "jobs" "I" ∈ lw_w) (d : decode cc pc = .ok (.putfield idx, 3)) (kk : g (sm S0 2 (tu t 2 0 x)) (pc + 3) L st) : g (sm S0 2 t) pc L (iv x :: rf E 1 :: st) := gPut C (ci := 6) (tyf := ty_Md) (ty := .int) rfl inw_Md tok_Md nm_Md (by decide) zMd 9 (by decide) hl rfl (by decide +kernel) rfl rfl (by simp [oMd]) (by rw [zMd, sm_eq, sm_eq]; simp [oMd, tu]) (zD_ne (fun hh => absurd rfl hh) (fun a ha _ => ar_ne (mdf_scal a ha _ (by decide)))) d kk
theorem g_Md_account (C : Cw g own cc nL h l E) {idx : Nat} (hl : Cond.fieldLink own idx "GreatMachineModel" "account" "[I" ∈ lw_w) (d : decode cc pc = .ok (.getfield idx, 3)) (kk : g S (pc + 3) L (rf E (kMd 4) :: st)) : g S pc L (rf E 1 :: st) := gGet C (ci := 6) rfl inw_Md (by decide) zMd 10 (by decide) hl rfl d kk
theorem g_Md_wants (C : Cw g own cc nL h l E) {idx : Nat} (hl : Cond.fieldLink own idx "GreatMachineModel" "wants" "[I" ∈ lw_w) (d : decode cc pc = .ok (.getfield idx, 3)) (kk : g S (pc + 3) L (rf E (kMd 5) :: st)) : g S pc L (rf E 1 :: st) := gGet C (ci := 6) rfl inw_Md (by decide) zMd 11 (by decide) hl rfl d kk
theorem g_Md_needs (C : Cw g own cc nL h l E) {idx : Nat} (hl : Cond.fieldLink own idx "GreatMachineModel" "needs" "[I" ∈ lw_w) (d : decode cc pc = .ok (.getfield idx, 3)) (kk : g S (pc + 3) L (rf E (kMd 6) :: st)) : g S pc L (rf E 1 :: st) := gGet C (ci := 6) rfl inw_Md (by decide) zMd 12 (by decide) hl rfl d kk
theorem g_Md_limit (C : Cw g own cc nL h l E) {idx : Nat} (hl : Cond.fieldLink own idx "GreatMachineModel" "limit" "[I" ∈ lw_w) (d : decode cc pc = .ok (.getfield idx, 3)) (kk : g S (pc + 3) L (rf E (kMd 7) :: st)) : g S pc L (rf E 1 :: st) := gGet C (ci := 6) rfl inw_Md (by decide) zMd 13 (by decide) hl rfl d kk
theorem g_Md_truly (C : Cw g own cc nL h l E) {idx : Nat} (hl : Cond.fieldLink own idx "GreatMachineModel" "truly" "[I" ∈ lw_w) (d : decode cc pc = .ok (.getfield idx, 3)) (kk : g S (pc + 3) L (rf E (kMd 8) :: st)) : g S pc L (rf E 1 :: st) := gGet C (ci := 6) rfl inw_Md (by decide) zMd 14 (by decide) hl rfl d kk
theorem g_Md_save (C : Cw g own cc nL h l E) {idx : Nat} (hl : Cond.fieldLink own idx "GreatMachineModel" "save" "[I" ∈ lw_w) (d : decode cc pc = .ok (.getfield idx, 3)) (kk : g S (pc + 3) L (rf E (kMd 9) :: st)) : g S pc L (rf E 1 :: st) := gGet C (ci := 6) rfl inw_Md (by decide) zMd 15 (by decide) hl rfl d kk
theorem g_Md_ahead (C : Cw g own cc nL h l E) {idx : Nat} (hl : Cond.fieldLink own idx "GreatMachineModel" "ahead" "[I" ∈ lw_w) (d : decode cc pc = .ok (.getfield idx, 3)) (kk : g S (pc + 3) L (rf E (kMd 10) :: st)) : g S pc L (rf E 1 :: st) := gGet C (ci := 6) rfl inw_Md (by decide) zMd 16 (by decide) hl rfl d kk
theorem g_Md_state (C : Cw g own cc nL h l E) {idx : Nat} (hl : Cond.fieldLink own idx "GreatMachineModel" "state" "[I" ∈ lw_w) (d : decode cc pc = .ok (.getfield idx, 3)) (kk : g S (pc + 3) L (rf E (kMd 11) :: st)) : g S pc L (rf E 1 :: st) := gGet C (ci := 6) rfl inw_Md (by decide) zMd 17 (by decide) hl rfl d kk
theorem g_Md_began (C : Cw g own cc nL h l E) {idx : Nat} (hl : Cond.fieldLink own idx "GreatMachineModel" "began" "[I" ∈ lw_w) (d : decode cc pc = .ok (.getfield idx, 3)) (kk : g S (pc + 3) L (rf E (kMd 12) :: st)) : g S pc L (rf E 1 :: st) := gGet C (ci := 6) rfl inw_Md (by decide) zMd 18 (by decide) hl rfl d kk
theorem g_Md_ended (C : Cw g own cc nL h l E) {idx : Nat} (hl : Cond.fieldLink own idx "GreatMachineModel" "ended" "[I" ∈ lw_w) (d : decode cc pc = .ok (.getfield idx, 3)) (kk : g S (pc + 3) L (rf E (kMd 13) :: st)) : g S pc L (rf E 1 :: st) := gGet C (ci := 6) rfl inw_Md (by decide) zMd 19 (by decide) hl rfl d kk
theorem g_Md_saved (C : Cw g own cc nL h l E) {idx : Nat} (hl : Cond.fieldLink own idx "GreatMachineModel" "saved" "[I" ∈ lw_w) (d : decode cc pc = .ok (.getfield idx, 3)) (kk : g S (pc + 3) L (rf E (kMd 14) :: st)) : g S pc L (rf E 1 :: st) := gGet C (ci := 6) rfl inw_Md (by decide) zMd 20 (by decide) hl rfl d kk
theorem g_Md_ran (C : Cw g own cc nL h l E) {idx : Nat} (hl : Cond.fieldLink own idx "GreatMachineModel" "ran" "[I" ∈ lw_w) (d : decode cc pc = .ok (.getfield idx, 3)) (kk : g S (pc + 3) L (rf E (kMd 15) :: st)) : g S pc L (rf E 1 :: st) := gGet C (ci := 6) rfl inw_Md (by decide) zMd 21 (by decide) hl rfl d kk
theorem g_Md_leftAt (C : Cw g own cc nL h l E) {idx : Nat} (hl : Cond.fieldLink own idx "GreatMachineModel" "leftAt" "[I" ∈ lw_w) (d : decode cc pc = .ok (.getfield idx, 3)) (kk : g S (pc + 3) L (rf E (kMd 16) :: st)) : g S pc L (rf E 1 :: st) := gGet C (ci := 6) rfl inw_Md (by decide) zMd 22 (by decide) hl rfl d kk
theorem g_Md_on (C : Cw g own cc nL h l E) {idx : Nat} (hl : Cond.fieldLink own idx "GreatMachineModel" "on" "[I" ∈ lw_w) (d : decode cc pc = .ok (.getfield idx, 3)) (kk : g S (pc + 3) L (rf E (kMd 17) :: st)) : g S pc L (rf E 1 :: st) := gGet C (ci := 6) rfl inw_Md (by decide) zMd 23 (by decide) hl rfl d kk
theorem g_Md_bookings (C : Cw g own cc nL h l E) {idx : Nat} (hl : Cond.fieldLink own idx "GreatMachineModel" "bookings" "I" ∈ lw_w) (d : decode cc pc = .ok (.getfield idx, 3)) (kk : g (sm S0 2 t) (pc + 3) L (iv (t 3 0) :: st)) : g (sm S0 2 t) pc L (rf E 1 :: st) := gGet C (ci := 6) rfl inw_Md (by decide) zMd 24 (by decide) hl (by rw [sm_eq]; rfl) d kk
theorem p_Md_bookings (C : Cw g own cc nL h l E) {idx : Nat} {x : Int} (hl : Cond.fieldLink own idx "GreatMachineModel" "bookings" "I" ∈ lw_w) (d : decode cc pc = .ok (.putfield idx, 3)) (kk : g (sm S0 2 (tu t 3 0 x)) (pc + 3) L st) : g (sm S0 2 t) pc L (iv x :: rf E 1 :: st) := gPut C (ci := 6) (tyf := ty_Md) (ty := .int) rfl inw_Md tok_Md nm_Md (by decide) zMd 24 (by decide) hl rfl (by decide +kernel) rfl rfl (by simp [oMd]) (by rw [zMd, sm_eq, sm_eq]; simp [oMd, tu]) (zD_ne (fun hh => absurd rfl hh) (fun a ha _ => ar_ne (mdf_scal a ha _ (by decide)))) d kk
theorem g_Md_bookNodes (C : Cw g own cc nL h l E) {idx : Nat} (hl : Cond.fieldLink own idx "GreatMachineModel" "bookNodes" "[I" ∈ lw_w) (d : decode cc pc = .ok (.getfield idx, 3)) (kk : g S (pc + 3) L (rf E (kMd 18) :: st)) : g S pc L (rf E 1 :: st) := gGet C (ci := 6) rfl inw_Md (by decide) zMd 25 (by decide) hl rfl d kk
theorem g_Md_bookFrom (C : Cw g own cc nL h l E) {idx : Nat} (hl : Cond.fieldLink own idx "GreatMachineModel" "bookFrom" "[I" ∈ lw_w) (d : decode cc pc = .ok (.getfield idx, 3)) (kk : g S (pc + 3) L (rf E (kMd 19) :: st)) : g S pc L (rf E 1 :: st) := gGet C (ci := 6) rfl inw_Md (by decide) zMd 26 (by decide) hl rfl d kk
theorem g_Md_bookTo (C : Cw g own cc nL h l E) {idx : Nat} (hl : Cond.fieldLink own idx "GreatMachineModel" "bookTo" "[I" ∈ lw_w) (d : decode cc pc = .ok (.getfield idx, 3)) (kk : g S (pc + 3) L (rf E (kMd 20) :: st)) : g S pc L (rf E 1 :: st) := gGet C (ci := 6) rfl inw_Md (by decide) zMd 27 (by decide) hl rfl d kk
theorem g_Md_blocked (C : Cw g own cc nL h l E) {idx : Nat} (hl : Cond.fieldLink own idx "GreatMachineModel" "blocked" "I" ∈ lw_w) (d : decode cc pc = .ok (.getfield idx, 3)) (kk : g (sm S0 2 t) (pc + 3) L (iv (t 8 0) :: st)) : g (sm S0 2 t) pc L (rf E 1 :: st) := gGet C (ci := 6) rfl inw_Md (by decide) zMd 28 (by decide) hl (by rw [sm_eq]; rfl) d kk
theorem p_Md_blocked (C : Cw g own cc nL h l E) {idx : Nat} {x : Int} (hl : Cond.fieldLink own idx "GreatMachineModel" "blocked" "I" ∈ lw_w) (d : decode cc pc = .ok (.putfield idx, 3)) (kk : g (sm S0 2 (tu t 8 0 x)) (pc + 3) L st) : g (sm S0 2 t) pc L (iv x :: rf E 1 :: st) := gPut C (ci := 6) (tyf := ty_Md) (ty := .int) rfl inw_Md tok_Md nm_Md (by decide) zMd 28 (by decide) hl rfl (by decide +kernel) rfl rfl (by simp [oMd]) (by rw [zMd, sm_eq, sm_eq]; simp [oMd, tu]) (zD_ne (fun hh => absurd rfl hh) (fun a ha _ => ar_ne (mdf_scal a ha _ (by decide)))) d kk
theorem g_Md_kept (C : Cw g own cc nL h l E) {idx : Nat} (hl : Cond.fieldLink own idx "GreatMachineModel" "kept" "I" ∈ lw_w) (d : decode cc pc = .ok (.getfield idx, 3)) (kk : g (sm S0 2 t) (pc + 3) L (iv (t 9 0) :: st)) : g (sm S0 2 t) pc L (rf E 1 :: st) := gGet C (ci := 6) rfl inw_Md (by decide) zMd 29 (by decide) hl (by rw [sm_eq]; rfl) d kk
theorem p_Md_kept (C : Cw g own cc nL h l E) {idx : Nat} {x : Int} (hl : Cond.fieldLink own idx "GreatMachineModel" "kept" "I" ∈ lw_w) (d : decode cc pc = .ok (.putfield idx, 3)) (kk : g (sm S0 2 (tu t 9 0 x)) (pc + 3) L st) : g (sm S0 2 t) pc L (iv x :: rf E 1 :: st) := gPut C (ci := 6) (tyf := ty_Md) (ty := .int) rfl inw_Md tok_Md nm_Md (by decide) zMd 29 (by decide) hl rfl (by decide +kernel) rfl rfl (by simp [oMd]) (by rw [zMd, sm_eq, sm_eq]; simp [oMd, tu]) (zD_ne (fun hh => absurd rfl hh) (fun a ha _ => ar_ne (mdf_scal a ha _ (by decide)))) d kk
theorem g_Md_keptLeft (C : Cw g own cc nL h l E) {idx : Nat} (hl : Cond.fieldLink own idx "GreatMachineModel" "keptLeft" "I" ∈ lw_w) (d : decode cc pc = .ok (.getfield idx, 3)) (kk : g (sm S0 2 t) (pc + 3) L (iv (t 37 0) :: st)) : g (sm S0 2 t) pc L (rf E 1 :: st) := gGet C (ci := 6) rfl inw_Md (by decide) zMd 30 (by decide) hl (by rw [sm_eq]; rfl) d kk
theorem p_Md_keptLeft (C : Cw g own cc nL h l E) {idx : Nat} {x : Int} (hl : Cond.fieldLink own idx "GreatMachineModel" "keptLeft" "I" ∈ lw_w) (d : decode cc pc = .ok (.putfield idx, 3)) (kk : g (sm S0 2 (tu t 37 0 x)) (pc + 3) L st) : g (sm S0 2 t) pc L (iv x :: rf E 1 :: st) := gPut C (ci := 6) (tyf := ty_Md) (ty := .int) rfl inw_Md tok_Md nm_Md (by decide) zMd 30 (by decide) hl rfl (by decide +kernel) rfl rfl (by simp [oMd]) (by rw [zMd, sm_eq, sm_eq]; simp [oMd, tu]) (zD_ne (fun hh => absurd rfl hh) (fun a ha _ => ar_ne (mdf_scal a ha _ (by decide)))) d kk
theorem g_Md_isForeseen (C : Cw g own cc nL h l E) {idx : Nat} (hl : Cond.fieldLink own idx "GreatMachineModel" "isForeseen" "Z" ∈ lw_w) (d : decode cc pc = .ok (.getfield idx, 3)) (kk : g (sm S0 2 t) (pc + 3) L (iv (t 38 0) :: st)) : g (sm S0 2 t) pc L (rf E 1 :: st) := gGet C (ci := 6) rfl inw_Md (by decide) zMd 31 (by decide) hl (by rw [sm_eq]; rfl) d kk
theorem p_Md_isForeseen (C : Cw g own cc nL h l E) {idx : Nat} {x : Int} (hv : x = 0 ∨ x = 1) (hl : Cond.fieldLink own idx "GreatMachineModel" "isForeseen" "Z" ∈ lw_w) (d : decode cc pc = .ok (.putfield idx, 3)) (kk : g (sm S0 2 (tu t 38 0 x)) (pc + 3) L st) : g (sm S0 2 t) pc L (iv x :: rf E 1 :: st) := gPut C (ci := 6) (tyf := ty_Md) (ty := .boolean) rfl inw_Md tok_Md nm_Md (by decide) zMd 31 (by decide) hl rfl (by decide +kernel) (by rcases hv with rfl | rfl <;> rfl) (by rcases hv with rfl | rfl <;> rfl) (by simp [oMd]) (by rw [zMd, sm_eq, sm_eq]; simp [oMd, tu]) (zD_ne (fun hh => absurd rfl hh) (fun a ha _ => ar_ne (mdf_scal a ha _ (by decide)))) d kk
theorem g_Md_roomNow (C : Cw g own cc nL h l E) {idx : Nat} (hl : Cond.fieldLink own idx "GreatMachineModel" "roomNow" "I" ∈ lw_w) (d : decode cc pc = .ok (.getfield idx, 3)) (kk : g (sm S0 2 t) (pc + 3) L (iv (t 48 0) :: st)) : g (sm S0 2 t) pc L (rf E 1 :: st) := gGet C (ci := 6) rfl inw_Md (by decide) zMd 32 (by decide) hl (by rw [sm_eq]; rfl) d kk
theorem p_Md_roomNow (C : Cw g own cc nL h l E) {idx : Nat} {x : Int} (hl : Cond.fieldLink own idx "GreatMachineModel" "roomNow" "I" ∈ lw_w) (d : decode cc pc = .ok (.putfield idx, 3)) (kk : g (sm S0 2 (tu t 48 0 x)) (pc + 3) L st) : g (sm S0 2 t) pc L (iv x :: rf E 1 :: st) := gPut C (ci := 6) (tyf := ty_Md) (ty := .int) rfl inw_Md tok_Md nm_Md (by decide) zMd 32 (by decide) hl rfl (by decide +kernel) rfl rfl (by simp [oMd]) (by rw [zMd, sm_eq, sm_eq]; simp [oMd, tu]) (zD_ne (fun hh => absurd rfl hh) (fun a ha _ => ar_ne (mdf_scal a ha _ (by decide)))) d kk
theorem g_Md_nodesAt (C : Cw g own cc nL h l E) {idx : Nat} (hl : Cond.fieldLink own idx "GreatMachineModel" "nodesAt" "[I" ∈ lw_w) (d : decode cc pc = .ok (.getfield idx, 3)) (kk : g S (pc + 3) L (rf E (kMd 21) :: st)) : g S pc L (rf E 1 :: st) := gGet C (ci := 6) rfl inw_Md (by decide) zMd 33 (by decide) hl rfl d kk
theorem g_Md_licencesAt (C : Cw g own cc nL h l E) {idx : Nat} (hl : Cond.fieldLink own idx "GreatMachineModel" "licencesAt" "[I" ∈ lw_w) (d : decode cc pc = .ok (.getfield idx, 3)) (kk : g S (pc + 3) L (rf E (kMd 22) :: st)) : g S pc L (rf E 1 :: st) := gGet C (ci := 6) rfl inw_Md (by decide) zMd 34 (by decide) hl rfl d kk
theorem g_Md_queue (C : Cw g own cc nL h l E) {idx : Nat} (hl : Cond.fieldLink own idx "GreatMachineModel" "queue" "[I" ∈ lw_w) (d : decode cc pc = .ok (.getfield idx, 3)) (kk : g S (pc + 3) L (rf E (kMd 23) :: st)) : g S pc L (rf E 1 :: st) := gGet C (ci := 6) rfl inw_Md (by decide) zMd 35 (by decide) hl rfl d kk
theorem g_Md_queued (C : Cw g own cc nL h l E) {idx : Nat} (hl : Cond.fieldLink own idx "GreatMachineModel" "queued" "I" ∈ lw_w) (d : decode cc pc = .ok (.getfield idx, 3)) (kk : g (sm S0 2 t) (pc + 3) L (iv (t 10 0) :: st)) : g (sm S0 2 t) pc L (rf E 1 :: st) := gGet C (ci := 6) rfl inw_Md (by decide) zMd 36 (by decide) hl (by rw [sm_eq]; rfl) d kk
theorem p_Md_queued (C : Cw g own cc nL h l E) {idx : Nat} {x : Int} (hl : Cond.fieldLink own idx "GreatMachineModel" "queued" "I" ∈ lw_w) (d : decode cc pc = .ok (.putfield idx, 3)) (kk : g (sm S0 2 (tu t 10 0 x)) (pc + 3) L st) : g (sm S0 2 t) pc L (iv x :: rf E 1 :: st) := gPut C (ci := 6) (tyf := ty_Md) (ty := .int) rfl inw_Md tok_Md nm_Md (by decide) zMd 36 (by decide) hl rfl (by decide +kernel) rfl rfl (by simp [oMd]) (by rw [zMd, sm_eq, sm_eq]; simp [oMd, tu]) (zD_ne (fun hh => absurd rfl hh) (fun a ha _ => ar_ne (mdf_scal a ha _ (by decide)))) d kk
theorem g_Md_wasState (C : Cw g own cc nL h l E) {idx : Nat} (hl : Cond.fieldLink own idx "GreatMachineModel" "wasState" "[I" ∈ lw_w) (d : decode cc pc = .ok (.getfield idx, 3)) (kk : g S (pc + 3) L (rf E (kMd 24) :: st)) : g S pc L (rf E 1 :: st) := gGet C (ci := 6) rfl inw_Md (by decide) zMd 37 (by decide) hl rfl d kk
theorem g_Md_wasBegan (C : Cw g own cc nL h l E) {idx : Nat} (hl : Cond.fieldLink own idx "GreatMachineModel" "wasBegan" "[I" ∈ lw_w) (d : decode cc pc = .ok (.getfield idx, 3)) (kk : g S (pc + 3) L (rf E (kMd 25) :: st)) : g S pc L (rf E 1 :: st) := gGet C (ci := 6) rfl inw_Md (by decide) zMd 38 (by decide) hl rfl d kk
theorem g_Md_wasEnded (C : Cw g own cc nL h l E) {idx : Nat} (hl : Cond.fieldLink own idx "GreatMachineModel" "wasEnded" "[I" ∈ lw_w) (d : decode cc pc = .ok (.getfield idx, 3)) (kk : g S (pc + 3) L (rf E (kMd 26) :: st)) : g S pc L (rf E 1 :: st) := gGet C (ci := 6) rfl inw_Md (by decide) zMd 39 (by decide) hl rfl d kk
theorem g_Md_wasRan (C : Cw g own cc nL h l E) {idx : Nat} (hl : Cond.fieldLink own idx "GreatMachineModel" "wasRan" "[I" ∈ lw_w) (d : decode cc pc = .ok (.getfield idx, 3)) (kk : g S (pc + 3) L (rf E (kMd 27) :: st)) : g S pc L (rf E 1 :: st) := gGet C (ci := 6) rfl inw_Md (by decide) zMd 40 (by decide) hl rfl d kk
theorem g_Md_wasLeft (C : Cw g own cc nL h l E) {idx : Nat} (hl : Cond.fieldLink own idx "GreatMachineModel" "wasLeft" "[I" ∈ lw_w) (d : decode cc pc = .ok (.getfield idx, 3)) (kk : g S (pc + 3) L (rf E (kMd 28) :: st)) : g S pc L (rf E 1 :: st) := gGet C (ci := 6) rfl inw_Md (by decide) zMd 41 (by decide) hl rfl d kk
theorem g_Md_wasOn (C : Cw g own cc nL h l E) {idx : Nat} (hl : Cond.fieldLink own idx "GreatMachineModel" "wasOn" "[I" ∈ lw_w) (d : decode cc pc = .ok (.getfield idx, 3)) (kk : g S (pc + 3) L (rf E (kMd 29) :: st)) : g S pc L (rf E 1 :: st) := gGet C (ci := 6) rfl inw_Md (by decide) zMd 42 (by decide) hl rfl d kk
theorem g_Md_wasUsed (C : Cw g own cc nL h l E) {idx : Nat} (hl : Cond.fieldLink own idx "GreatMachineModel" "wasUsed" "[I" ∈ lw_w) (d : decode cc pc = .ok (.getfield idx, 3)) (kk : g S (pc + 3) L (rf E (kMd 30) :: st)) : g S pc L (rf E 1 :: st) := gGet C (ci := 6) rfl inw_Md (by decide) zMd 43 (by decide) hl rfl d kk
theorem xAld (C : Cw g own cc nL h l E) {k : Nat} (hk : k < 203) {F : Nat → Int32} {n : Nat} (hz : zcel E S k = .inl (E.2 0, n, .inl F)) {e : Int} {i : Nat} (he : e = (i : Int)) (hi : i < n) (hn : n < 2147483648) (d : decode cc pc = .ok (.iaload, 1)) (kk : g S (pc + 1) L (.int (F i) :: st)) : g S pc L (iv e :: rf E k :: st) := by
  obtain ⟨p, e0, R, s, mi, args, below, meth, c, cells, slots, Q, A, H0, D, ⟨hx, hb, hml, hown, hts⟩, hE, hA, hK, hR, hg⟩ := C
  refine (hg _ _ _ _).mpr fun H locs ls hP hS hL => ?_
  have hwk := wld_at (E := E) (S := S) hk
  rw [hz] at hwk
  obtain ⟨q1, q2⟩ := ir_in he hi hn
  refine va_iald hx hb hK hP k 0 hwk rfl q1 d ?_
  rw [q2]
  exact (hg _ _ _ _).mp kk H locs ls hP hS hL
theorem xBld (C : Cw g own cc nL h l E) {k : Nat} (hk : k < 203) {F : Nat → Int32} {n : Nat} (hz : zcel E S k = .inl (E.2 1, n, .inl F)) {e : Int} {i : Nat} (he : e = (i : Int)) (hi : i < n) (hn : n < 2147483648) (d : decode cc pc = .ok (.baload, 1)) (kk : g S (pc + 1) L (.int (F i) :: st)) : g S pc L (iv e :: rf E k :: st) := by
  obtain ⟨p, e0, R, s, mi, args, below, meth, c, cells, slots, Q, A, H0, D, ⟨hx, hb, hml, hown, hts⟩, hE, hA, hK, hR, hg⟩ := C
  refine (hg _ _ _ _).mpr fun H locs ls hP hS hL => ?_
  have hwk := wld_at (E := E) (S := S) hk
  rw [hz] at hwk
  obtain ⟨q1, q2⟩ := ir_in he hi hn
  refine va_zald hx hb hK hP k 1 hwk rfl q1 d ?_
  rw [q2]
  exact (hg _ _ _ _).mp kk H locs ls hP hS hL
theorem xQld (C : Cw g own cc nL h l E) {k : Nat} (hk : k < 203) {F : Nat → Nat} {n j : Nat} {Cn : String} {c6 : ClassId} (hz : zcel E S k = .inl (c6, n, .inr (.inr (.inr (.inr fun i => some (E.1 (F i))))))) (ht : (tys E)[j]? = some (c6, .object Cn)) {e : Int} {i : Nat} (he : e = (i : Int)) (hi : i < n) (hn : n < 2147483648) (d : decode cc pc = .ok (.aaload, 1)) (kk : g S (pc + 1) L (rf E (F i) :: st)) : g S pc L (iv e :: rf E k :: st) := by
  obtain ⟨p, e0, R, s, mi, args, below, meth, c, cells, slots, Q, A, H0, D, ⟨hx, hb, hml, hown, hts⟩, hE, hA, hK, hR, hg⟩ := C
  refine (hg _ _ _ _).mpr fun H locs ls hP hS hL => ?_
  have hwk := wld_at (E := E) (S := S) hk
  rw [hz] at hwk
  obtain ⟨q1, q2⟩ := ir_in he hi hn
  refine va_aldq hx hb hK hP k j hwk ht q1 d ?_
  rw [q2]
  exact (hg _ _ _ _).mp kk H locs ls hP hS hL
theorem xIst (C : Cw g own cc nL h l E) {k : Nat} (hk : k < 203) {F : Nat → Int32} {n : Nat} (hz : zcel E S k = .inl (E.2 0, n, .inl F)) {e x : Int} {i : Nat} (he : e = (i : Int)) (hi : i < n) (hn : n < 2147483648) (hz' : zcel E S' k = .inl (E.2 0, n, .inl (upd F i (Int32.ofInt x)))) (ho : ∀ j, j < 203 → j ≠ k → zcel E S' j = zcel E S j) (d : decode cc pc = .ok (.iastore, 1)) (kk : g S' (pc + 1) L st) : g S pc L (iv x :: iv e :: rf E k :: st) := by
  obtain ⟨p, e0, R, s, mi, args, below, meth, c, cells, slots, Q, A, H0, D, ⟨hx, hb, hml, hown, hts⟩, hE, hA, hK, hR, hg⟩ := C
  refine (hg _ _ _ _).mpr fun H locs ls hP hS hL => ?_
  have hwk := wld_at (E := E) (S := S) hk
  rw [hz] at hwk
  obtain ⟨q1, q2⟩ := ir_in he hi hn
  refine va_iast hx hb hK hP (wld_D hE hA) hS k 0 hwk rfl q1 d (fun H1 locs1 hP1 hD1 hS1 => ?_)
  rw [q2, wld_set hk hz' ho] at hP1
  exact (hg _ _ _ _).mp kk H1 locs1 ls hP1 hS1 hL
theorem xBst (C : Cw g own cc nL h l E) {k : Nat} (hk : k < 203) {F : Nat → Int32} {n : Nat} (hz : zcel E S k = .inl (E.2 1, n, .inl F)) {e x : Int} {i : Nat} (hv : x = 0 ∨ x = 1) (he : e = (i : Int)) (hi : i < n) (hn : n < 2147483648) (hz' : zcel E S' k = .inl (E.2 1, n, .inl (upd F i (Int32.ofInt x)))) (ho : ∀ j, j < 203 → j ≠ k → zcel E S' j = zcel E S j) (d : decode cc pc = .ok (.bastore, 1)) (kk : g S' (pc + 1) L st) : g S pc L (iv x :: iv e :: rf E k :: st) := by
  obtain ⟨p, e0, R, s, mi, args, below, meth, c, cells, slots, Q, A, H0, D, ⟨hx, hb, hml, hown, hts⟩, hE, hA, hK, hR, hg⟩ := C
  refine (hg _ _ _ _).mpr fun H locs ls hP hS hL => ?_
  have hwk := wld_at (E := E) (S := S) hk
  rw [hz] at hwk
  obtain ⟨q1, q2⟩ := ir_in he hi hn
  refine va_zast hx hb hK hP (wld_D hE hA) hS k 1 hwk rfl q1 d (fun H1 locs1 hP1 hD1 hS1 => ?_)
  rw [show vp_nar .boolean (Int32.ofInt x) = Int32.ofInt x by rcases hv with rfl | rfl <;> rfl, q2, wld_set hk hz' ho] at hP1
  exact (hg _ _ _ _).mp kk H1 locs1 ls hP1 hS1 hL
theorem x_Rk (C : Cw g own cc nL h l E) (hm : m < 2) {e : Int} (i : Nat) (he : e = (i : Int)) (hi : i < 4) (d : decode cc pc = .ok (.aaload, 1)) (kk : g S (pc + 1) L (rf E (kRk m i) :: st)) : g S pc L (iv e :: rf E (kRa m) :: st) := xQld C (j := 2) (F := fun i => kRk m i) (kRa_lt hm) (zRa hm) rfl he hi (by decide) d kk
theorem x_Ac (C : Cw g own cc nL h l E) (hm : m < 2) {e : Int} (i : Nat) (he : e = (i : Int)) (hi : i < 6) (d : decode cc pc = .ok (.aaload, 1)) (kk : g S (pc + 1) L (rf E (kAc m i) :: st)) : g S pc L (iv e :: rf E (kAa m) :: st) := xQld C (j := 3) (F := fun i => kAc m i) (kAa_lt hm) (zAa hm) rfl he hi (by decide) d kk
theorem x_Jb (C : Cw g own cc nL h l E) (hm : m < 2) {e : Int} (i : Nat) (he : e = (i : Int)) (hi : i < 30) (d : decode cc pc = .ok (.aaload, 1)) (kk : g S (pc + 1) L (rf E (kJb m i) :: st)) : g S pc L (iv e :: rf E (kJa m) :: st) := xQld C (j := 4) (F := fun i => kJb m i) (kJa_lt hm) (zJa hm) rfl he hi (by decide) d kk
theorem x_Hd (C : Cw g own cc nL h l E) (hm : m < 2) {e : Int} (i : Nat) (he : e = (i : Int)) (hi : i < 9) (d : decode cc pc = .ok (.aaload, 1)) (kk : g S (pc + 1) L (rf E (kHd m i) :: st)) : g S pc L (iv e :: rf E (kHa m) :: st) := xQld C (j := 5) (F := fun i => kHd m i) (kHa_lt hm) (zHa hm) rfl he hi (by decide) d kk
theorem x_Qu (C : Cw g own cc nL h l E) (hm : m < 2) {e : Int} (i : Nat) (he : e = (i : Int)) (hi : i < 30) (d : decode cc pc = .ok (.iaload, 1)) (kk : g (sm S0 m t) (pc + 1) L (iv (t 11 i) :: st)) : g (sm S0 m t) pc L (iv e :: rf E (kQu m) :: st) := xAld C (F := ar t 11) (kQu_lt hm) (by rw [zQu hm, sm_eq]) he hi (by decide) d kk
theorem x_On (C : Cw g own cc nL h l E) (hm : m < 2) {j : Nat} (hj : j < 30) {e : Int} (i : Nat) (he : e = (i : Int)) (hi : i < 4) (d : decode cc pc = .ok (.iaload, 1)) (kk : g (sm S0 m t) (pc + 1) L (iv (t (100 + j) i) :: st)) : g (sm S0 m t) pc L (iv e :: rf E (kOn m j) :: st) := xAld C (F := ar t (100 + j)) (kOn_lt hm hj) (by rw [zOn hm hj, sm_eq]) he hi (by decide) d kk
theorem xw_On (C : Cw g own cc nL h l E) (hm : m < 2) {j : Nat} (hj : j < 30) {e : Int} (i : Nat) (he : e = (i : Int)) (hi : i < 4) (d : decode cc pc = .ok (.iaload, 1)) (kk : g S (pc + 1) L (iv (S m (100 + j) i) :: st)) : g S pc L (iv e :: rf E (kOn m j) :: st) := xAld C (F := ar (S m) (100 + j)) (kOn_lt hm hj) (by rw [zOn hm hj]) he hi (by decide) d kk
theorem st_Qu (C : Cw g own cc nL h l E) (hm : m < 2) {e x : Int} (i : Nat) (he : e = (i : Int)) (hi : i < 30) (d : decode cc pc = .ok (.iastore, 1)) (kk : g (sm S0 m (tu t 11 i x)) (pc + 1) L st) : g (sm S0 m t) pc L (iv x :: iv e :: rf E (kQu m) :: st) := xIst C (F := ar t 11) (kQu_lt hm) (by rw [zQu hm, sm_eq]) he hi (by decide) (by rw [zQu hm, sm_eq, ar_eq]) (zM_ne hm (mx_Qu rfl)) d kk
theorem st_On (C : Cw g own cc nL h l E) (hm : m < 2) {j : Nat} (hj : j < 30) {e x : Int} (i : Nat) (he : e = (i : Int)) (hi : i < 4) (d : decode cc pc = .ok (.iastore, 1)) (kk : g (sm S0 m (tu t (100 + j) i x)) (pc + 1) L st) : g (sm S0 m t) pc L (iv x :: iv e :: rf E (kOn m j) :: st) := xIst C (F := ar t (100 + j)) (kOn_lt hm hj) (by rw [zOn hm hj, sm_eq]) he hi (by decide) (by rw [zOn hm hj, sm_eq, ar_eq]) (zM_ne hm (mx_On rfl hj)) d kk
theorem x_Md_nodes (C : Cw g own cc nL h l E) {e : Int} (i : Nat) (he : e = (i : Int)) (hi : i < 4) (d : decode cc pc = .ok (.iaload, 1)) (kk : g (sm S0 2 t) (pc + 1) L (iv (t 12 i) :: st)) : g (sm S0 2 t) pc L (iv e :: rf E (kMd 0) :: st) := xAld C (F := ar t 12) (n := 4) (kMd_lt (by decide)) (by rw [zMa (by decide), sm_eq]; rfl) he hi (by decide) d kk
theorem st_Md_nodes (C : Cw g own cc nL h l E) {e x : Int} (i : Nat) (he : e = (i : Int)) (hi : i < 4) (d : decode cc pc = .ok (.iastore, 1)) (kk : g (sm S0 2 (tu t 12 i x)) (pc + 1) L st) : g (sm S0 2 t) pc L (iv x :: iv e :: rf E (kMd 0) :: st) := xIst C (F := ar t 12) (n := 4) (kMd_lt (by decide)) (by rw [zMa (by decide), sm_eq]; rfl) he hi (by decide) (by rw [zMa (by decide), sm_eq, ← ar_eq]; rfl) (zD_ne (fun _ => oMd_ne (a := 0) (by decide)) (fun a ha hk => ar_ne (fun hh => hk (by rw [mdf_inj a ha 0 (by decide) hh])))) d kk
theorem x_Md_isDrained (C : Cw g own cc nL h l E) {e : Int} (i : Nat) (he : e = (i : Int)) (hi : i < 4) (d : decode cc pc = .ok (.baload, 1)) (kk : g (sm S0 2 t) (pc + 1) L (iv (t 14 i) :: st)) : g (sm S0 2 t) pc L (iv e :: rf E (kMd 1) :: st) := xBld C (F := ar t 14) (n := 4) (kMd_lt (by decide)) (by rw [zMa (by decide), sm_eq]; rfl) he hi (by decide) d kk
theorem st_Md_isDrained (C : Cw g own cc nL h l E) {e x : Int} (hv : x = 0 ∨ x = 1) (i : Nat) (he : e = (i : Int)) (hi : i < 4) (d : decode cc pc = .ok (.bastore, 1)) (kk : g (sm S0 2 (tu t 14 i x)) (pc + 1) L st) : g (sm S0 2 t) pc L (iv x :: iv e :: rf E (kMd 1) :: st) := xBst C (F := ar t 14) (n := 4) (kMd_lt (by decide)) (by rw [zMa (by decide), sm_eq]; rfl) hv he hi (by decide) (by rw [zMa (by decide), sm_eq, ← ar_eq]; rfl) (zD_ne (fun _ => oMd_ne (a := 1) (by decide)) (fun a ha hk => ar_ne (fun hh => hk (by rw [mdf_inj a ha 1 (by decide) hh])))) d kk
theorem x_Md_shares (C : Cw g own cc nL h l E) {e : Int} (i : Nat) (he : e = (i : Int)) (hi : i < 6) (d : decode cc pc = .ok (.iaload, 1)) (kk : g (sm S0 2 t) (pc + 1) L (iv (t 15 i) :: st)) : g (sm S0 2 t) pc L (iv e :: rf E (kMd 2) :: st) := xAld C (F := ar t 15) (n := 6) (kMd_lt (by decide)) (by rw [zMa (by decide), sm_eq]; rfl) he hi (by decide) d kk
theorem st_Md_shares (C : Cw g own cc nL h l E) {e x : Int} (i : Nat) (he : e = (i : Int)) (hi : i < 6) (d : decode cc pc = .ok (.iastore, 1)) (kk : g (sm S0 2 (tu t 15 i x)) (pc + 1) L st) : g (sm S0 2 t) pc L (iv x :: iv e :: rf E (kMd 2) :: st) := xIst C (F := ar t 15) (n := 6) (kMd_lt (by decide)) (by rw [zMa (by decide), sm_eq]; rfl) he hi (by decide) (by rw [zMa (by decide), sm_eq, ← ar_eq]; rfl) (zD_ne (fun _ => oMd_ne (a := 2) (by decide)) (fun a ha hk => ar_ne (fun hh => hk (by rw [mdf_inj a ha 2 (by decide) hh])))) d kk
theorem x_Md_used (C : Cw g own cc nL h l E) {e : Int} (i : Nat) (he : e = (i : Int)) (hi : i < 6) (d : decode cc pc = .ok (.iaload, 1)) (kk : g (sm S0 2 t) (pc + 1) L (iv (t 16 i) :: st)) : g (sm S0 2 t) pc L (iv e :: rf E (kMd 3) :: st) := xAld C (F := ar t 16) (n := 6) (kMd_lt (by decide)) (by rw [zMa (by decide), sm_eq]; rfl) he hi (by decide) d kk
theorem st_Md_used (C : Cw g own cc nL h l E) {e x : Int} (i : Nat) (he : e = (i : Int)) (hi : i < 6) (d : decode cc pc = .ok (.iastore, 1)) (kk : g (sm S0 2 (tu t 16 i x)) (pc + 1) L st) : g (sm S0 2 t) pc L (iv x :: iv e :: rf E (kMd 3) :: st) := xIst C (F := ar t 16) (n := 6) (kMd_lt (by decide)) (by rw [zMa (by decide), sm_eq]; rfl) he hi (by decide) (by rw [zMa (by decide), sm_eq, ← ar_eq]; rfl) (zD_ne (fun _ => oMd_ne (a := 3) (by decide)) (fun a ha hk => ar_ne (fun hh => hk (by rw [mdf_inj a ha 3 (by decide) hh])))) d kk
theorem x_Md_account (C : Cw g own cc nL h l E) {e : Int} (i : Nat) (he : e = (i : Int)) (hi : i < 30) (d : decode cc pc = .ok (.iaload, 1)) (kk : g (sm S0 2 t) (pc + 1) L (iv (t 17 i) :: st)) : g (sm S0 2 t) pc L (iv e :: rf E (kMd 4) :: st) := xAld C (F := ar t 17) (n := 30) (kMd_lt (by decide)) (by rw [zMa (by decide), sm_eq]; rfl) he hi (by decide) d kk
theorem st_Md_account (C : Cw g own cc nL h l E) {e x : Int} (i : Nat) (he : e = (i : Int)) (hi : i < 30) (d : decode cc pc = .ok (.iastore, 1)) (kk : g (sm S0 2 (tu t 17 i x)) (pc + 1) L st) : g (sm S0 2 t) pc L (iv x :: iv e :: rf E (kMd 4) :: st) := xIst C (F := ar t 17) (n := 30) (kMd_lt (by decide)) (by rw [zMa (by decide), sm_eq]; rfl) he hi (by decide) (by rw [zMa (by decide), sm_eq, ← ar_eq]; rfl) (zD_ne (fun _ => oMd_ne (a := 4) (by decide)) (fun a ha hk => ar_ne (fun hh => hk (by rw [mdf_inj a ha 4 (by decide) hh])))) d kk
theorem x_Md_wants (C : Cw g own cc nL h l E) {e : Int} (i : Nat) (he : e = (i : Int)) (hi : i < 30) (d : decode cc pc = .ok (.iaload, 1)) (kk : g (sm S0 2 t) (pc + 1) L (iv (t 18 i) :: st)) : g (sm S0 2 t) pc L (iv e :: rf E (kMd 5) :: st) := xAld C (F := ar t 18) (n := 30) (kMd_lt (by decide)) (by rw [zMa (by decide), sm_eq]; rfl) he hi (by decide) d kk
theorem st_Md_wants (C : Cw g own cc nL h l E) {e x : Int} (i : Nat) (he : e = (i : Int)) (hi : i < 30) (d : decode cc pc = .ok (.iastore, 1)) (kk : g (sm S0 2 (tu t 18 i x)) (pc + 1) L st) : g (sm S0 2 t) pc L (iv x :: iv e :: rf E (kMd 5) :: st) := xIst C (F := ar t 18) (n := 30) (kMd_lt (by decide)) (by rw [zMa (by decide), sm_eq]; rfl) he hi (by decide) (by rw [zMa (by decide), sm_eq, ← ar_eq]; rfl) (zD_ne (fun _ => oMd_ne (a := 5) (by decide)) (fun a ha hk => ar_ne (fun hh => hk (by rw [mdf_inj a ha 5 (by decide) hh])))) d kk
theorem x_Md_needs (C : Cw g own cc nL h l E) {e : Int} (i : Nat) (he : e = (i : Int)) (hi : i < 30) (d : decode cc pc = .ok (.iaload, 1)) (kk : g (sm S0 2 t) (pc + 1) L (iv (t 19 i) :: st)) : g (sm S0 2 t) pc L (iv e :: rf E (kMd 6) :: st) := xAld C (F := ar t 19) (n := 30) (kMd_lt (by decide)) (by rw [zMa (by decide), sm_eq]; rfl) he hi (by decide) d kk
theorem st_Md_needs (C : Cw g own cc nL h l E) {e x : Int} (i : Nat) (he : e = (i : Int)) (hi : i < 30) (d : decode cc pc = .ok (.iastore, 1)) (kk : g (sm S0 2 (tu t 19 i x)) (pc + 1) L st) : g (sm S0 2 t) pc L (iv x :: iv e :: rf E (kMd 6) :: st) := xIst C (F := ar t 19) (n := 30) (kMd_lt (by decide)) (by rw [zMa (by decide), sm_eq]; rfl) he hi (by decide) (by rw [zMa (by decide), sm_eq, ← ar_eq]; rfl) (zD_ne (fun _ => oMd_ne (a := 6) (by decide)) (fun a ha hk => ar_ne (fun hh => hk (by rw [mdf_inj a ha 6 (by decide) hh])))) d kk
theorem x_Md_limit (C : Cw g own cc nL h l E) {e : Int} (i : Nat) (he : e = (i : Int)) (hi : i < 30) (d : decode cc pc = .ok (.iaload, 1)) (kk : g (sm S0 2 t) (pc + 1) L (iv (t 20 i) :: st)) : g (sm S0 2 t) pc L (iv e :: rf E (kMd 7) :: st) := xAld C (F := ar t 20) (n := 30) (kMd_lt (by decide)) (by rw [zMa (by decide), sm_eq]; rfl) he hi (by decide) d kk
theorem st_Md_limit (C : Cw g own cc nL h l E) {e x : Int} (i : Nat) (he : e = (i : Int)) (hi : i < 30) (d : decode cc pc = .ok (.iastore, 1)) (kk : g (sm S0 2 (tu t 20 i x)) (pc + 1) L st) : g (sm S0 2 t) pc L (iv x :: iv e :: rf E (kMd 7) :: st) := xIst C (F := ar t 20) (n := 30) (kMd_lt (by decide)) (by rw [zMa (by decide), sm_eq]; rfl) he hi (by decide) (by rw [zMa (by decide), sm_eq, ← ar_eq]; rfl) (zD_ne (fun _ => oMd_ne (a := 7) (by decide)) (fun a ha hk => ar_ne (fun hh => hk (by rw [mdf_inj a ha 7 (by decide) hh])))) d kk
theorem x_Md_truly (C : Cw g own cc nL h l E) {e : Int} (i : Nat) (he : e = (i : Int)) (hi : i < 30) (d : decode cc pc = .ok (.iaload, 1)) (kk : g (sm S0 2 t) (pc + 1) L (iv (t 21 i) :: st)) : g (sm S0 2 t) pc L (iv e :: rf E (kMd 8) :: st) := xAld C (F := ar t 21) (n := 30) (kMd_lt (by decide)) (by rw [zMa (by decide), sm_eq]; rfl) he hi (by decide) d kk
theorem st_Md_truly (C : Cw g own cc nL h l E) {e x : Int} (i : Nat) (he : e = (i : Int)) (hi : i < 30) (d : decode cc pc = .ok (.iastore, 1)) (kk : g (sm S0 2 (tu t 21 i x)) (pc + 1) L st) : g (sm S0 2 t) pc L (iv x :: iv e :: rf E (kMd 8) :: st) := xIst C (F := ar t 21) (n := 30) (kMd_lt (by decide)) (by rw [zMa (by decide), sm_eq]; rfl) he hi (by decide) (by rw [zMa (by decide), sm_eq, ← ar_eq]; rfl) (zD_ne (fun _ => oMd_ne (a := 8) (by decide)) (fun a ha hk => ar_ne (fun hh => hk (by rw [mdf_inj a ha 8 (by decide) hh])))) d kk
theorem x_Md_save (C : Cw g own cc nL h l E) {e : Int} (i : Nat) (he : e = (i : Int)) (hi : i < 30) (d : decode cc pc = .ok (.iaload, 1)) (kk : g (sm S0 2 t) (pc + 1) L (iv (t 22 i) :: st)) : g (sm S0 2 t) pc L (iv e :: rf E (kMd 9) :: st) := xAld C (F := ar t 22) (n := 30) (kMd_lt (by decide)) (by rw [zMa (by decide), sm_eq]; rfl) he hi (by decide) d kk
theorem st_Md_save (C : Cw g own cc nL h l E) {e x : Int} (i : Nat) (he : e = (i : Int)) (hi : i < 30) (d : decode cc pc = .ok (.iastore, 1)) (kk : g (sm S0 2 (tu t 22 i x)) (pc + 1) L st) : g (sm S0 2 t) pc L (iv x :: iv e :: rf E (kMd 9) :: st) := xIst C (F := ar t 22) (n := 30) (kMd_lt (by decide)) (by rw [zMa (by decide), sm_eq]; rfl) he hi (by decide) (by rw [zMa (by decide), sm_eq, ← ar_eq]; rfl) (zD_ne (fun _ => oMd_ne (a := 9) (by decide)) (fun a ha hk => ar_ne (fun hh => hk (by rw [mdf_inj a ha 9 (by decide) hh])))) d kk
theorem x_Md_ahead (C : Cw g own cc nL h l E) {e : Int} (i : Nat) (he : e = (i : Int)) (hi : i < 30) (d : decode cc pc = .ok (.iaload, 1)) (kk : g (sm S0 2 t) (pc + 1) L (iv (t 23 i) :: st)) : g (sm S0 2 t) pc L (iv e :: rf E (kMd 10) :: st) := xAld C (F := ar t 23) (n := 30) (kMd_lt (by decide)) (by rw [zMa (by decide), sm_eq]; rfl) he hi (by decide) d kk
theorem st_Md_ahead (C : Cw g own cc nL h l E) {e x : Int} (i : Nat) (he : e = (i : Int)) (hi : i < 30) (d : decode cc pc = .ok (.iastore, 1)) (kk : g (sm S0 2 (tu t 23 i x)) (pc + 1) L st) : g (sm S0 2 t) pc L (iv x :: iv e :: rf E (kMd 10) :: st) := xIst C (F := ar t 23) (n := 30) (kMd_lt (by decide)) (by rw [zMa (by decide), sm_eq]; rfl) he hi (by decide) (by rw [zMa (by decide), sm_eq, ← ar_eq]; rfl) (zD_ne (fun _ => oMd_ne (a := 10) (by decide)) (fun a ha hk => ar_ne (fun hh => hk (by rw [mdf_inj a ha 10 (by decide) hh])))) d kk
theorem x_Md_state (C : Cw g own cc nL h l E) {e : Int} (i : Nat) (he : e = (i : Int)) (hi : i < 30) (d : decode cc pc = .ok (.iaload, 1)) (kk : g (sm S0 2 t) (pc + 1) L (iv (t 24 i) :: st)) : g (sm S0 2 t) pc L (iv e :: rf E (kMd 11) :: st) := xAld C (F := ar t 24) (n := 30) (kMd_lt (by decide)) (by rw [zMa (by decide), sm_eq]; rfl) he hi (by decide) d kk
theorem st_Md_state (C : Cw g own cc nL h l E) {e x : Int} (i : Nat) (he : e = (i : Int)) (hi : i < 30) (d : decode cc pc = .ok (.iastore, 1)) (kk : g (sm S0 2 (tu t 24 i x)) (pc + 1) L st) : g (sm S0 2 t) pc L (iv x :: iv e :: rf E (kMd 11) :: st) := xIst C (F := ar t 24) (n := 30) (kMd_lt (by decide)) (by rw [zMa (by decide), sm_eq]; rfl) he hi (by decide) (by rw [zMa (by decide), sm_eq, ← ar_eq]; rfl) (zD_ne (fun _ => oMd_ne (a := 11) (by decide)) (fun a ha hk => ar_ne (fun hh => hk (by rw [mdf_inj a ha 11 (by decide) hh])))) d kk
theorem x_Md_began (C : Cw g own cc nL h l E) {e : Int} (i : Nat) (he : e = (i : Int)) (hi : i < 30) (d : decode cc pc = .ok (.iaload, 1)) (kk : g (sm S0 2 t) (pc + 1) L (iv (t 25 i) :: st)) : g (sm S0 2 t) pc L (iv e :: rf E (kMd 12) :: st) := xAld C (F := ar t 25) (n := 30) (kMd_lt (by decide)) (by rw [zMa (by decide), sm_eq]; rfl) he hi (by decide) d kk
theorem st_Md_began (C : Cw g own cc nL h l E) {e x : Int} (i : Nat) (he : e = (i : Int)) (hi : i < 30) (d : decode cc pc = .ok (.iastore, 1)) (kk : g (sm S0 2 (tu t 25 i x)) (pc + 1) L st) : g (sm S0 2 t) pc L (iv x :: iv e :: rf E (kMd 12) :: st) := xIst C (F := ar t 25) (n := 30) (kMd_lt (by decide)) (by rw [zMa (by decide), sm_eq]; rfl) he hi (by decide) (by rw [zMa (by decide), sm_eq, ← ar_eq]; rfl) (zD_ne (fun _ => oMd_ne (a := 12) (by decide)) (fun a ha hk => ar_ne (fun hh => hk (by rw [mdf_inj a ha 12 (by decide) hh])))) d kk
theorem x_Md_ended (C : Cw g own cc nL h l E) {e : Int} (i : Nat) (he : e = (i : Int)) (hi : i < 30) (d : decode cc pc = .ok (.iaload, 1)) (kk : g (sm S0 2 t) (pc + 1) L (iv (t 26 i) :: st)) : g (sm S0 2 t) pc L (iv e :: rf E (kMd 13) :: st) := xAld C (F := ar t 26) (n := 30) (kMd_lt (by decide)) (by rw [zMa (by decide), sm_eq]; rfl) he hi (by decide) d kk
theorem st_Md_ended (C : Cw g own cc nL h l E) {e x : Int} (i : Nat) (he : e = (i : Int)) (hi : i < 30) (d : decode cc pc = .ok (.iastore, 1)) (kk : g (sm S0 2 (tu t 26 i x)) (pc + 1) L st) : g (sm S0 2 t) pc L (iv x :: iv e :: rf E (kMd 13) :: st) := xIst C (F := ar t 26) (n := 30) (kMd_lt (by decide)) (by rw [zMa (by decide), sm_eq]; rfl) he hi (by decide) (by rw [zMa (by decide), sm_eq, ← ar_eq]; rfl) (zD_ne (fun _ => oMd_ne (a := 13) (by decide)) (fun a ha hk => ar_ne (fun hh => hk (by rw [mdf_inj a ha 13 (by decide) hh])))) d kk
theorem x_Md_saved (C : Cw g own cc nL h l E) {e : Int} (i : Nat) (he : e = (i : Int)) (hi : i < 30) (d : decode cc pc = .ok (.iaload, 1)) (kk : g (sm S0 2 t) (pc + 1) L (iv (t 27 i) :: st)) : g (sm S0 2 t) pc L (iv e :: rf E (kMd 14) :: st) := xAld C (F := ar t 27) (n := 30) (kMd_lt (by decide)) (by rw [zMa (by decide), sm_eq]; rfl) he hi (by decide) d kk
theorem st_Md_saved (C : Cw g own cc nL h l E) {e x : Int} (i : Nat) (he : e = (i : Int)) (hi : i < 30) (d : decode cc pc = .ok (.iastore, 1)) (kk : g (sm S0 2 (tu t 27 i x)) (pc + 1) L st) : g (sm S0 2 t) pc L (iv x :: iv e :: rf E (kMd 14) :: st) := xIst C (F := ar t 27) (n := 30) (kMd_lt (by decide)) (by rw [zMa (by decide), sm_eq]; rfl) he hi (by decide) (by rw [zMa (by decide), sm_eq, ← ar_eq]; rfl) (zD_ne (fun _ => oMd_ne (a := 14) (by decide)) (fun a ha hk => ar_ne (fun hh => hk (by rw [mdf_inj a ha 14 (by decide) hh])))) d kk
theorem x_Md_ran (C : Cw g own cc nL h l E) {e : Int} (i : Nat) (he : e = (i : Int)) (hi : i < 30) (d : decode cc pc = .ok (.iaload, 1)) (kk : g (sm S0 2 t) (pc + 1) L (iv (t 35 i) :: st)) : g (sm S0 2 t) pc L (iv e :: rf E (kMd 15) :: st) := xAld C (F := ar t 35) (n := 30) (kMd_lt (by decide)) (by rw [zMa (by decide), sm_eq]; rfl) he hi (by decide) d kk
theorem st_Md_ran (C : Cw g own cc nL h l E) {e x : Int} (i : Nat) (he : e = (i : Int)) (hi : i < 30) (d : decode cc pc = .ok (.iastore, 1)) (kk : g (sm S0 2 (tu t 35 i x)) (pc + 1) L st) : g (sm S0 2 t) pc L (iv x :: iv e :: rf E (kMd 15) :: st) := xIst C (F := ar t 35) (n := 30) (kMd_lt (by decide)) (by rw [zMa (by decide), sm_eq]; rfl) he hi (by decide) (by rw [zMa (by decide), sm_eq, ← ar_eq]; rfl) (zD_ne (fun _ => oMd_ne (a := 15) (by decide)) (fun a ha hk => ar_ne (fun hh => hk (by rw [mdf_inj a ha 15 (by decide) hh])))) d kk
theorem x_Md_leftAt (C : Cw g own cc nL h l E) {e : Int} (i : Nat) (he : e = (i : Int)) (hi : i < 30) (d : decode cc pc = .ok (.iaload, 1)) (kk : g (sm S0 2 t) (pc + 1) L (iv (t 36 i) :: st)) : g (sm S0 2 t) pc L (iv e :: rf E (kMd 16) :: st) := xAld C (F := ar t 36) (n := 30) (kMd_lt (by decide)) (by rw [zMa (by decide), sm_eq]; rfl) he hi (by decide) d kk
theorem st_Md_leftAt (C : Cw g own cc nL h l E) {e x : Int} (i : Nat) (he : e = (i : Int)) (hi : i < 30) (d : decode cc pc = .ok (.iastore, 1)) (kk : g (sm S0 2 (tu t 36 i x)) (pc + 1) L st) : g (sm S0 2 t) pc L (iv x :: iv e :: rf E (kMd 16) :: st) := xIst C (F := ar t 36) (n := 30) (kMd_lt (by decide)) (by rw [zMa (by decide), sm_eq]; rfl) he hi (by decide) (by rw [zMa (by decide), sm_eq, ← ar_eq]; rfl) (zD_ne (fun _ => oMd_ne (a := 16) (by decide)) (fun a ha hk => ar_ne (fun hh => hk (by rw [mdf_inj a ha 16 (by decide) hh])))) d kk
theorem x_Md_on (C : Cw g own cc nL h l E) {e : Int} (i : Nat) (he : e = (i : Int)) (hi : i < 120) (d : decode cc pc = .ok (.iaload, 1)) (kk : g (sm S0 2 t) (pc + 1) L (iv (t 30 i) :: st)) : g (sm S0 2 t) pc L (iv e :: rf E (kMd 17) :: st) := xAld C (F := ar t 30) (n := 120) (kMd_lt (by decide)) (by rw [zMa (by decide), sm_eq]; rfl) he hi (by decide) d kk
theorem st_Md_on (C : Cw g own cc nL h l E) {e x : Int} (i : Nat) (he : e = (i : Int)) (hi : i < 120) (d : decode cc pc = .ok (.iastore, 1)) (kk : g (sm S0 2 (tu t 30 i x)) (pc + 1) L st) : g (sm S0 2 t) pc L (iv x :: iv e :: rf E (kMd 17) :: st) := xIst C (F := ar t 30) (n := 120) (kMd_lt (by decide)) (by rw [zMa (by decide), sm_eq]; rfl) he hi (by decide) (by rw [zMa (by decide), sm_eq, ← ar_eq]; rfl) (zD_ne (fun _ => oMd_ne (a := 17) (by decide)) (fun a ha hk => ar_ne (fun hh => hk (by rw [mdf_inj a ha 17 (by decide) hh])))) d kk
theorem x_Md_bookNodes (C : Cw g own cc nL h l E) {e : Int} (i : Nat) (he : e = (i : Int)) (hi : i < 8) (d : decode cc pc = .ok (.iaload, 1)) (kk : g (sm S0 2 t) (pc + 1) L (iv (t 31 i) :: st)) : g (sm S0 2 t) pc L (iv e :: rf E (kMd 18) :: st) := xAld C (F := ar t 31) (n := 8) (kMd_lt (by decide)) (by rw [zMa (by decide), sm_eq]; rfl) he hi (by decide) d kk
theorem st_Md_bookNodes (C : Cw g own cc nL h l E) {e x : Int} (i : Nat) (he : e = (i : Int)) (hi : i < 8) (d : decode cc pc = .ok (.iastore, 1)) (kk : g (sm S0 2 (tu t 31 i x)) (pc + 1) L st) : g (sm S0 2 t) pc L (iv x :: iv e :: rf E (kMd 18) :: st) := xIst C (F := ar t 31) (n := 8) (kMd_lt (by decide)) (by rw [zMa (by decide), sm_eq]; rfl) he hi (by decide) (by rw [zMa (by decide), sm_eq, ← ar_eq]; rfl) (zD_ne (fun _ => oMd_ne (a := 18) (by decide)) (fun a ha hk => ar_ne (fun hh => hk (by rw [mdf_inj a ha 18 (by decide) hh])))) d kk
theorem x_Md_bookFrom (C : Cw g own cc nL h l E) {e : Int} (i : Nat) (he : e = (i : Int)) (hi : i < 8) (d : decode cc pc = .ok (.iaload, 1)) (kk : g (sm S0 2 t) (pc + 1) L (iv (t 33 i) :: st)) : g (sm S0 2 t) pc L (iv e :: rf E (kMd 19) :: st) := xAld C (F := ar t 33) (n := 8) (kMd_lt (by decide)) (by rw [zMa (by decide), sm_eq]; rfl) he hi (by decide) d kk
theorem st_Md_bookFrom (C : Cw g own cc nL h l E) {e x : Int} (i : Nat) (he : e = (i : Int)) (hi : i < 8) (d : decode cc pc = .ok (.iastore, 1)) (kk : g (sm S0 2 (tu t 33 i x)) (pc + 1) L st) : g (sm S0 2 t) pc L (iv x :: iv e :: rf E (kMd 19) :: st) := xIst C (F := ar t 33) (n := 8) (kMd_lt (by decide)) (by rw [zMa (by decide), sm_eq]; rfl) he hi (by decide) (by rw [zMa (by decide), sm_eq, ← ar_eq]; rfl) (zD_ne (fun _ => oMd_ne (a := 19) (by decide)) (fun a ha hk => ar_ne (fun hh => hk (by rw [mdf_inj a ha 19 (by decide) hh])))) d kk
theorem x_Md_bookTo (C : Cw g own cc nL h l E) {e : Int} (i : Nat) (he : e = (i : Int)) (hi : i < 8) (d : decode cc pc = .ok (.iaload, 1)) (kk : g (sm S0 2 t) (pc + 1) L (iv (t 34 i) :: st)) : g (sm S0 2 t) pc L (iv e :: rf E (kMd 20) :: st) := xAld C (F := ar t 34) (n := 8) (kMd_lt (by decide)) (by rw [zMa (by decide), sm_eq]; rfl) he hi (by decide) d kk
theorem st_Md_bookTo (C : Cw g own cc nL h l E) {e x : Int} (i : Nat) (he : e = (i : Int)) (hi : i < 8) (d : decode cc pc = .ok (.iastore, 1)) (kk : g (sm S0 2 (tu t 34 i x)) (pc + 1) L st) : g (sm S0 2 t) pc L (iv x :: iv e :: rf E (kMd 20) :: st) := xIst C (F := ar t 34) (n := 8) (kMd_lt (by decide)) (by rw [zMa (by decide), sm_eq]; rfl) he hi (by decide) (by rw [zMa (by decide), sm_eq, ← ar_eq]; rfl) (zD_ne (fun _ => oMd_ne (a := 20) (by decide)) (fun a ha hk => ar_ne (fun hh => hk (by rw [mdf_inj a ha 20 (by decide) hh])))) d kk
theorem x_Md_nodesAt (C : Cw g own cc nL h l E) {e : Int} (i : Nat) (he : e = (i : Int)) (hi : i < 260) (d : decode cc pc = .ok (.iaload, 1)) (kk : g (sm S0 2 t) (pc + 1) L (iv (t 39 i) :: st)) : g (sm S0 2 t) pc L (iv e :: rf E (kMd 21) :: st) := xAld C (F := ar t 39) (n := 260) (kMd_lt (by decide)) (by rw [zMa (by decide), sm_eq]; rfl) he hi (by decide) d kk
theorem st_Md_nodesAt (C : Cw g own cc nL h l E) {e x : Int} (i : Nat) (he : e = (i : Int)) (hi : i < 260) (d : decode cc pc = .ok (.iastore, 1)) (kk : g (sm S0 2 (tu t 39 i x)) (pc + 1) L st) : g (sm S0 2 t) pc L (iv x :: iv e :: rf E (kMd 21) :: st) := xIst C (F := ar t 39) (n := 260) (kMd_lt (by decide)) (by rw [zMa (by decide), sm_eq]; rfl) he hi (by decide) (by rw [zMa (by decide), sm_eq, ← ar_eq]; rfl) (zD_ne (fun _ => oMd_ne (a := 21) (by decide)) (fun a ha hk => ar_ne (fun hh => hk (by rw [mdf_inj a ha 21 (by decide) hh])))) d kk
theorem x_Md_licencesAt (C : Cw g own cc nL h l E) {e : Int} (i : Nat) (he : e = (i : Int)) (hi : i < 260) (d : decode cc pc = .ok (.iaload, 1)) (kk : g (sm S0 2 t) (pc + 1) L (iv (t 40 i) :: st)) : g (sm S0 2 t) pc L (iv e :: rf E (kMd 22) :: st) := xAld C (F := ar t 40) (n := 260) (kMd_lt (by decide)) (by rw [zMa (by decide), sm_eq]; rfl) he hi (by decide) d kk
theorem st_Md_licencesAt (C : Cw g own cc nL h l E) {e x : Int} (i : Nat) (he : e = (i : Int)) (hi : i < 260) (d : decode cc pc = .ok (.iastore, 1)) (kk : g (sm S0 2 (tu t 40 i x)) (pc + 1) L st) : g (sm S0 2 t) pc L (iv x :: iv e :: rf E (kMd 22) :: st) := xIst C (F := ar t 40) (n := 260) (kMd_lt (by decide)) (by rw [zMa (by decide), sm_eq]; rfl) he hi (by decide) (by rw [zMa (by decide), sm_eq, ← ar_eq]; rfl) (zD_ne (fun _ => oMd_ne (a := 22) (by decide)) (fun a ha hk => ar_ne (fun hh => hk (by rw [mdf_inj a ha 22 (by decide) hh])))) d kk
theorem x_Md_queue (C : Cw g own cc nL h l E) {e : Int} (i : Nat) (he : e = (i : Int)) (hi : i < 30) (d : decode cc pc = .ok (.iaload, 1)) (kk : g (sm S0 2 t) (pc + 1) L (iv (t 11 i) :: st)) : g (sm S0 2 t) pc L (iv e :: rf E (kMd 23) :: st) := xAld C (F := ar t 11) (n := 30) (kMd_lt (by decide)) (by rw [zMa (by decide), sm_eq]; rfl) he hi (by decide) d kk
theorem st_Md_queue (C : Cw g own cc nL h l E) {e x : Int} (i : Nat) (he : e = (i : Int)) (hi : i < 30) (d : decode cc pc = .ok (.iastore, 1)) (kk : g (sm S0 2 (tu t 11 i x)) (pc + 1) L st) : g (sm S0 2 t) pc L (iv x :: iv e :: rf E (kMd 23) :: st) := xIst C (F := ar t 11) (n := 30) (kMd_lt (by decide)) (by rw [zMa (by decide), sm_eq]; rfl) he hi (by decide) (by rw [zMa (by decide), sm_eq, ← ar_eq]; rfl) (zD_ne (fun _ => oMd_ne (a := 23) (by decide)) (fun a ha hk => ar_ne (fun hh => hk (by rw [mdf_inj a ha 23 (by decide) hh])))) d kk
theorem x_Md_wasState (C : Cw g own cc nL h l E) {e : Int} (i : Nat) (he : e = (i : Int)) (hi : i < 30) (d : decode cc pc = .ok (.iaload, 1)) (kk : g (sm S0 2 t) (pc + 1) L (iv (t 41 i) :: st)) : g (sm S0 2 t) pc L (iv e :: rf E (kMd 24) :: st) := xAld C (F := ar t 41) (n := 30) (kMd_lt (by decide)) (by rw [zMa (by decide), sm_eq]; rfl) he hi (by decide) d kk
theorem st_Md_wasState (C : Cw g own cc nL h l E) {e x : Int} (i : Nat) (he : e = (i : Int)) (hi : i < 30) (d : decode cc pc = .ok (.iastore, 1)) (kk : g (sm S0 2 (tu t 41 i x)) (pc + 1) L st) : g (sm S0 2 t) pc L (iv x :: iv e :: rf E (kMd 24) :: st) := xIst C (F := ar t 41) (n := 30) (kMd_lt (by decide)) (by rw [zMa (by decide), sm_eq]; rfl) he hi (by decide) (by rw [zMa (by decide), sm_eq, ← ar_eq]; rfl) (zD_ne (fun _ => oMd_ne (a := 24) (by decide)) (fun a ha hk => ar_ne (fun hh => hk (by rw [mdf_inj a ha 24 (by decide) hh])))) d kk
theorem x_Md_wasBegan (C : Cw g own cc nL h l E) {e : Int} (i : Nat) (he : e = (i : Int)) (hi : i < 30) (d : decode cc pc = .ok (.iaload, 1)) (kk : g (sm S0 2 t) (pc + 1) L (iv (t 42 i) :: st)) : g (sm S0 2 t) pc L (iv e :: rf E (kMd 25) :: st) := xAld C (F := ar t 42) (n := 30) (kMd_lt (by decide)) (by rw [zMa (by decide), sm_eq]; rfl) he hi (by decide) d kk
theorem st_Md_wasBegan (C : Cw g own cc nL h l E) {e x : Int} (i : Nat) (he : e = (i : Int)) (hi : i < 30) (d : decode cc pc = .ok (.iastore, 1)) (kk : g (sm S0 2 (tu t 42 i x)) (pc + 1) L st) : g (sm S0 2 t) pc L (iv x :: iv e :: rf E (kMd 25) :: st) := xIst C (F := ar t 42) (n := 30) (kMd_lt (by decide)) (by rw [zMa (by decide), sm_eq]; rfl) he hi (by decide) (by rw [zMa (by decide), sm_eq, ← ar_eq]; rfl) (zD_ne (fun _ => oMd_ne (a := 25) (by decide)) (fun a ha hk => ar_ne (fun hh => hk (by rw [mdf_inj a ha 25 (by decide) hh])))) d kk
theorem x_Md_wasEnded (C : Cw g own cc nL h l E) {e : Int} (i : Nat) (he : e = (i : Int)) (hi : i < 30) (d : decode cc pc = .ok (.iaload, 1)) (kk : g (sm S0 2 t) (pc + 1) L (iv (t 43 i) :: st)) : g (sm S0 2 t) pc L (iv e :: rf E (kMd 26) :: st) := xAld C (F := ar t 43) (n := 30) (kMd_lt (by decide)) (by rw [zMa (by decide), sm_eq]; rfl) he hi (by decide) d kk
theorem st_Md_wasEnded (C : Cw g own cc nL h l E) {e x : Int} (i : Nat) (he : e = (i : Int)) (hi : i < 30) (d : decode cc pc = .ok (.iastore, 1)) (kk : g (sm S0 2 (tu t 43 i x)) (pc + 1) L st) : g (sm S0 2 t) pc L (iv x :: iv e :: rf E (kMd 26) :: st) := xIst C (F := ar t 43) (n := 30) (kMd_lt (by decide)) (by rw [zMa (by decide), sm_eq]; rfl) he hi (by decide) (by rw [zMa (by decide), sm_eq, ← ar_eq]; rfl) (zD_ne (fun _ => oMd_ne (a := 26) (by decide)) (fun a ha hk => ar_ne (fun hh => hk (by rw [mdf_inj a ha 26 (by decide) hh])))) d kk
theorem x_Md_wasRan (C : Cw g own cc nL h l E) {e : Int} (i : Nat) (he : e = (i : Int)) (hi : i < 30) (d : decode cc pc = .ok (.iaload, 1)) (kk : g (sm S0 2 t) (pc + 1) L (iv (t 44 i) :: st)) : g (sm S0 2 t) pc L (iv e :: rf E (kMd 27) :: st) := xAld C (F := ar t 44) (n := 30) (kMd_lt (by decide)) (by rw [zMa (by decide), sm_eq]; rfl) he hi (by decide) d kk
theorem st_Md_wasRan (C : Cw g own cc nL h l E) {e x : Int} (i : Nat) (he : e = (i : Int)) (hi : i < 30) (d : decode cc pc = .ok (.iastore, 1)) (kk : g (sm S0 2 (tu t 44 i x)) (pc + 1) L st) : g (sm S0 2 t) pc L (iv x :: iv e :: rf E (kMd 27) :: st) := xIst C (F := ar t 44) (n := 30) (kMd_lt (by decide)) (by rw [zMa (by decide), sm_eq]; rfl) he hi (by decide) (by rw [zMa (by decide), sm_eq, ← ar_eq]; rfl) (zD_ne (fun _ => oMd_ne (a := 27) (by decide)) (fun a ha hk => ar_ne (fun hh => hk (by rw [mdf_inj a ha 27 (by decide) hh])))) d kk
theorem x_Md_wasLeft (C : Cw g own cc nL h l E) {e : Int} (i : Nat) (he : e = (i : Int)) (hi : i < 30) (d : decode cc pc = .ok (.iaload, 1)) (kk : g (sm S0 2 t) (pc + 1) L (iv (t 45 i) :: st)) : g (sm S0 2 t) pc L (iv e :: rf E (kMd 28) :: st) := xAld C (F := ar t 45) (n := 30) (kMd_lt (by decide)) (by rw [zMa (by decide), sm_eq]; rfl) he hi (by decide) d kk
theorem st_Md_wasLeft (C : Cw g own cc nL h l E) {e x : Int} (i : Nat) (he : e = (i : Int)) (hi : i < 30) (d : decode cc pc = .ok (.iastore, 1)) (kk : g (sm S0 2 (tu t 45 i x)) (pc + 1) L st) : g (sm S0 2 t) pc L (iv x :: iv e :: rf E (kMd 28) :: st) := xIst C (F := ar t 45) (n := 30) (kMd_lt (by decide)) (by rw [zMa (by decide), sm_eq]; rfl) he hi (by decide) (by rw [zMa (by decide), sm_eq, ← ar_eq]; rfl) (zD_ne (fun _ => oMd_ne (a := 28) (by decide)) (fun a ha hk => ar_ne (fun hh => hk (by rw [mdf_inj a ha 28 (by decide) hh])))) d kk
theorem x_Md_wasOn (C : Cw g own cc nL h l E) {e : Int} (i : Nat) (he : e = (i : Int)) (hi : i < 120) (d : decode cc pc = .ok (.iaload, 1)) (kk : g (sm S0 2 t) (pc + 1) L (iv (t 46 i) :: st)) : g (sm S0 2 t) pc L (iv e :: rf E (kMd 29) :: st) := xAld C (F := ar t 46) (n := 120) (kMd_lt (by decide)) (by rw [zMa (by decide), sm_eq]; rfl) he hi (by decide) d kk
theorem st_Md_wasOn (C : Cw g own cc nL h l E) {e x : Int} (i : Nat) (he : e = (i : Int)) (hi : i < 120) (d : decode cc pc = .ok (.iastore, 1)) (kk : g (sm S0 2 (tu t 46 i x)) (pc + 1) L st) : g (sm S0 2 t) pc L (iv x :: iv e :: rf E (kMd 29) :: st) := xIst C (F := ar t 46) (n := 120) (kMd_lt (by decide)) (by rw [zMa (by decide), sm_eq]; rfl) he hi (by decide) (by rw [zMa (by decide), sm_eq, ← ar_eq]; rfl) (zD_ne (fun _ => oMd_ne (a := 29) (by decide)) (fun a ha hk => ar_ne (fun hh => hk (by rw [mdf_inj a ha 29 (by decide) hh])))) d kk
theorem x_Md_wasUsed (C : Cw g own cc nL h l E) {e : Int} (i : Nat) (he : e = (i : Int)) (hi : i < 6) (d : decode cc pc = .ok (.iaload, 1)) (kk : g (sm S0 2 t) (pc + 1) L (iv (t 47 i) :: st)) : g (sm S0 2 t) pc L (iv e :: rf E (kMd 30) :: st) := xAld C (F := ar t 47) (n := 6) (kMd_lt (by decide)) (by rw [zMa (by decide), sm_eq]; rfl) he hi (by decide) d kk
theorem st_Md_wasUsed (C : Cw g own cc nL h l E) {e x : Int} (i : Nat) (he : e = (i : Int)) (hi : i < 6) (d : decode cc pc = .ok (.iastore, 1)) (kk : g (sm S0 2 (tu t 47 i x)) (pc + 1) L st) : g (sm S0 2 t) pc L (iv x :: iv e :: rf E (kMd 30) :: st) := xIst C (F := ar t 47) (n := 6) (kMd_lt (by decide)) (by rw [zMa (by decide), sm_eq]; rfl) he hi (by decide) (by rw [zMa (by decide), sm_eq, ← ar_eq]; rfl) (zD_ne (fun _ => oMd_ne (a := 30) (by decide)) (fun a ha hk => ar_ne (fun hh => hk (by rw [mdf_inj a ha 30 (by decide) hh])))) d kk
end ROWS
end
section
/-! ENTRIES, CALLS BY ARITY -/
def c1 (as : List Value) : Bool := as.all (fun v => v.category == 1)
theorem ent_mem : ∀ (as : List Value) (n k : Nat), c1 as = true → ∀ (i : Nat) (v : Value), (as.map some ++ List.replicate n (none : Option Value))[i]? = some (some v) → (k + i, v) ∈ lv_args k as := by
  intro as
  induction as with
  | nil =>
    intro n k _ i v h
    have h2 := List.mem_of_getElem? h
    simp at h2
  | cons a as ih =>
    intro n k hc i v h
    have hca : a.category = 1 := by simp [c1] at hc; exact hc.1
    have hcs : c1 as = true := by simp [c1] at hc ⊢; exact hc.2
    cases i with
    | zero =>
      simp at h
      rw [← h]
      exact List.mem_cons_self
    | succ i =>
      have h3 := ih n (k + 1) hcs i v (by simpa using h)
      refine List.mem_cons_of_mem _ ?_
      rw [if_neg (by omega), show k + (i + 1) = k + 1 + i by omega]
      exact h3
theorem ent_len : ∀ (as : List Value), c1 as = true → (lg_sl as).length = as.length := by
  intro as
  induction as with
  | nil => intro _; rfl
  | cons a as ih =>
    intro hc
    have hca : a.category = 1 := by simp [c1] at hc; exact hc.1
    have hcs : c1 as = true := by simp [c1] at hc ⊢; exact hc.2
    have e1 : lg_sl (a :: as) = [Slot.val a] ++ lg_sl as := by simp [lg_sl, hca]
    rw [e1, List.length_append, ih hcs]
    simp; omega
theorem ent_LH {as : List Value} {n : Nat} (hc : c1 as = true) (hn : as.length ≤ n) : LH ((lg_sl as ++ List.replicate (n - (lg_sl as).length) Slot.unset).toArray) n (as.map some ++ List.replicate (n - as.length) none) := by
  have h := lv_entry as (n := n) (by rw [ent_len as hc]; exact hn)
  refine ⟨by simp; omega, ⟨h.1, h.2.1, fun q hq => ?_⟩, fun i v hv => ?_⟩
  · have h2 := ent_mem as _ 0 hc q.1 q.2 (al_mem.mp hq)
    rw [Nat.zero_add] at h2
    exact h.2.2 q h2
  · have h2 := List.mem_of_getElem? hv
    rcases List.mem_append.mp h2 with h2 | h2
    · obtain ⟨w, hw, e1⟩ := List.mem_map.mp h2
      cases e1
      have := List.all_eq_true.mp hc v hw
      simpa using this
    · have := List.eq_of_mem_replicate h2
      cases this
section ENT
variable {l : Launch} {y : MethodName} {cc : ByteArray} {nL h : Nat} {E : Ew} {S S' : WW} {as : List Value}
theorem KfI {e : Int} (hy : plainName y.cls = true) (hc : c1 as = true) (hn : as.length ≤ nL) (body : ∀ g, Cw g y.cls cc nL h l E → (∀ {pc : Nat} {L : LL} {T : WW} {x : Int}, decode cc pc = .ok (.ireturn, 1) → x = e → T = S' → g T pc L [iv x]) → g S 0 (as.map some ++ List.replicate (nL - as.length) none) []) : Kf l y cc nL (some .int) h E S as (some (iv e)) S' := by
  intro D
  refine Met.ofW (cc := cc) (maxL := nL) (ret := some .int) hy rfl ?_
  intro p e0 s m args below meth c s₁ B hml hv
  obtain ⟨rfl, hE, hP, hK⟩ := hv
  have hlocks := B.notSynchronized
  have hts := atoms_spec (ws := Cond.code y cc nL (some .int) :: lw_w) B.pre
  rw [lg_entry_eq]
  refine body (fun S pc L st => ∀ (H : Heap) (locs : List Loc) (ls : Array Slot), va_P D classes (wld E S) H → va_S (Ax E) s.heap H locs → LH ls nL L → W p l e0 (headSpec (Cond.code y cc nL (some .int) :: lw_w) (Rm h)).room s m as.toArray below meth c H locs 0 0 (MQ below (Qx E D (some (iv e)) S') as.toArray s 0 0 (Ax E)) (F0 m pc ls st)) ⟨p, e0, _, s, m, as.toArray, below, meth, c, 0, 0, _, Ax E, s.heap, D, ⟨B.exec, B.bytes, hml, findClass_of_methodNamed B.named, fun w hw => hts w (List.mem_cons_of_mem _ hw)⟩, hE, fun k hk => ⟨k, hk, rfl⟩, hK, ⟨Nat.le_refl h, Nat.le_refl (40 * h), Nat.zero_le _, Nat.zero_le _⟩, fun _ _ _ _ => Iff.rfl⟩ ?_ s.heap [] _ hP va_S.rf (ent_LH hc hn)
  intro pc L T x d hx hT H locs ls hP hS hL
  subst hx; subst hT
  exact W.iret B.exec B.bytes B.returns (fun t ht hW => ⟨⟨rfl, by rw [ht]; exact hP⟩, hS.F ht⟩) hS.2.2 d
theorem KfZ {e : Int} (hy : plainName y.cls = true) (hc : c1 as = true) (hn : as.length ≤ nL) (body : ∀ g, Cw g y.cls cc nL h l E → (∀ {pc : Nat} {L : LL} {T : WW} {x : Int}, decode cc pc = .ok (.ireturn, 1) → (x = 0 ∨ x = 1) → x = e → T = S' → g T pc L [iv x]) → g S 0 (as.map some ++ List.replicate (nL - as.length) none) []) : Kf l y cc nL (some .boolean) h E S as (some (iv e)) S' := by
  intro D
  refine Met.ofW (cc := cc) (maxL := nL) (ret := some .boolean) hy rfl ?_
  intro p e0 s m args below meth c s₁ B hml hv
  obtain ⟨rfl, hE, hP, hK⟩ := hv
  have hlocks := B.notSynchronized
  have hts := atoms_spec (ws := Cond.code y cc nL (some .boolean) :: lw_w) B.pre
  rw [lg_entry_eq]
  refine body (fun S pc L st => ∀ (H : Heap) (locs : List Loc) (ls : Array Slot), va_P D classes (wld E S) H → va_S (Ax E) s.heap H locs → LH ls nL L → W p l e0 (headSpec (Cond.code y cc nL (some .boolean) :: lw_w) (Rm h)).room s m as.toArray below meth c H locs 0 0 (MQ below (Qx E D (some (iv e)) S') as.toArray s 0 0 (Ax E)) (F0 m pc ls st)) ⟨p, e0, _, s, m, as.toArray, below, meth, c, 0, 0, _, Ax E, s.heap, D, ⟨B.exec, B.bytes, hml, findClass_of_methodNamed B.named, fun w hw => hts w (List.mem_cons_of_mem _ hw)⟩, hE, fun k hk => ⟨k, hk, rfl⟩, hK, ⟨Nat.le_refl h, Nat.le_refl (40 * h), Nat.zero_le _, Nat.zero_le _⟩, fun _ _ _ _ => Iff.rfl⟩ ?_ s.heap [] _ hP va_S.rf (ent_LH hc hn)
  intro pc L T x d hx01 hx hT H locs ls hP hS hL
  subst hx; subst hT
  exact W.zret (ty := .boolean) B.exec B.bytes B.returns (by rcases hx01 with rfl | rfl <;> rfl) (fun t ht hW => ⟨⟨rfl, by rw [ht]; exact hP⟩, hS.F ht⟩) hS.2.2 d
theorem KfV (hy : plainName y.cls = true) (hc : c1 as = true) (hn : as.length ≤ nL) (body : ∀ g, Cw g y.cls cc nL h l E → (∀ {pc : Nat} {L : LL} {T : WW}, decode cc pc = .ok (.return_, 1) → T = S' → g T pc L []) → g S 0 (as.map some ++ List.replicate (nL - as.length) none) []) : Kf l y cc nL none h E S as none S' := by
  intro D
  refine Met.ofW (cc := cc) (maxL := nL) (ret := none) hy rfl ?_
  intro p e0 s m args below meth c s₁ B hml hv
  obtain ⟨rfl, hE, hP, hK⟩ := hv
  have hlocks := B.notSynchronized
  have hts := atoms_spec (ws := Cond.code y cc nL none :: lw_w) B.pre
  rw [lg_entry_eq]
  refine body (fun S pc L st => ∀ (H : Heap) (locs : List Loc) (ls : Array Slot), va_P D classes (wld E S) H → va_S (Ax E) s.heap H locs → LH ls nL L → W p l e0 (headSpec (Cond.code y cc nL none :: lw_w) (Rm h)).room s m as.toArray below meth c H locs 0 0 (MQ below (Qx E D none S') as.toArray s 0 0 (Ax E)) (F0 m pc ls st)) ⟨p, e0, _, s, m, as.toArray, below, meth, c, 0, 0, _, Ax E, s.heap, D, ⟨B.exec, B.bytes, hml, findClass_of_methodNamed B.named, fun w hw => hts w (List.mem_cons_of_mem _ hw)⟩, hE, fun k hk => ⟨k, hk, rfl⟩, hK, ⟨Nat.le_refl h, Nat.le_refl (40 * h), Nat.zero_le _, Nat.zero_le _⟩, fun _ _ _ _ => Iff.rfl⟩ ?_ s.heap [] _ hP va_S.rf (ent_LH hc hn)
  intro pc L T d hT H locs ls hP hS hL
  subst hT
  exact W.vret B.exec B.bytes B.returns (fun t ht hW => ⟨⟨rfl, by rw [ht]; exact hP⟩, hS.F ht⟩) hS.2.2 d
end ENT
section CALLS
variable {g : WW → Nat → LL → List Value → Prop} {own : String} {cc : ByteArray} {nL h : Nat} {l : Launch} {E : Ew} {S S' : WW} {pc : Nat} {L : LL} {st : List Value} {y : MethodName} {cb : ByteArray} {nB hB idx : Nat}
theorem r_cV0r (C : Cw g own cc nL h l E) {w : Value} {ty : FieldType} {k : Nat} (K : Kf l y cb nB (some ty) hB E S (rf E k :: []) (some w) S') (hh : hB < h) (hn : nB ≤ 21) (hl : Cond.methodLink own idx y ∈ lw_w) (hi : Cond.instanceMethod y ∈ lw_w) (hs : Cond.selects y.cls y y ∈ lw_w) (hc : Cond.code y cb nB (some ty) ∈ lw_w) (hin : Cond.initialized y.cls ∈ lw_w) (hd : y.cls ≠ "java/lang/invoke/MethodHandle" ∧ y.cls ≠ "java/lang/invoke/VarHandle" ∧ (parseMethodDescriptor y.desc).map (fun d => d.parameters.length) = some 0) {ci : Nat} {fs : List Value} {q : vw_C} (hk : k < 203) (hz : zcel E S k = .inr (ci, fs)) (hq : classes[ci]? = some q) (hqc : q.1 = y.cls) (hW : (st.map fun v => v.category).sum ≤ 8) (d : decode cc pc = .ok (.invokevirtual idx, 3)) (kk : g S' (pc + 3) L (w :: st)) : g S pc L (rf E k :: st) := r_callV C K hh hn hl hi hs hc hin hd hk hz hq hqc hW d kk
theorem r_cS0r (C : Cw g own cc nL h l E) {w : Value} {ty : FieldType} (K : Kf l y cb nB (some ty) hB E S [] (some w) S') (hh : hB < h) (hn : nB ≤ 21) (hl : Cond.methodLink own idx y ∈ lw_w) (hi : Cond.static y ∈ lw_w) (hc : Cond.code y cb nB (some ty) ∈ lw_w) (hin : Cond.initialized y.cls ∈ lw_w) (hd : y.cls ≠ "java/lang/invoke/MethodHandle" ∧ y.cls ≠ "java/lang/invoke/VarHandle" ∧ (parseMethodDescriptor y.desc).map (fun d => d.parameters.length) = some 0) (hW : (st.map fun v => v.category).sum ≤ 8) (d : decode cc pc = .ok (.invokestatic idx, 3)) (kk : g S' (pc + 3) L (w :: st)) : g S pc L (st) := r_callS C K hh hn hl hi hc hin hd hW d kk
theorem r_cV0v (C : Cw g own cc nL h l E) {k : Nat} (K : Kf l y cb nB (none) hB E S (rf E k :: []) none S') (hh : hB < h) (hn : nB ≤ 21) (hl : Cond.methodLink own idx y ∈ lw_w) (hi : Cond.instanceMethod y ∈ lw_w) (hs : Cond.selects y.cls y y ∈ lw_w) (hc : Cond.code y cb nB (none) ∈ lw_w) (hin : Cond.initialized y.cls ∈ lw_w) (hd : y.cls ≠ "java/lang/invoke/MethodHandle" ∧ y.cls ≠ "java/lang/invoke/VarHandle" ∧ (parseMethodDescriptor y.desc).map (fun d => d.parameters.length) = some 0) {ci : Nat} {fs : List Value} {q : vw_C} (hk : k < 203) (hz : zcel E S k = .inr (ci, fs)) (hq : classes[ci]? = some q) (hqc : q.1 = y.cls) (hW : (st.map fun v => v.category).sum ≤ 8) (d : decode cc pc = .ok (.invokevirtual idx, 3)) (kk : g S' (pc + 3) L (st)) : g S pc L (rf E k :: st) := r_callV C K hh hn hl hi hs hc hin hd hk hz hq hqc hW d kk
theorem r_cS0v (C : Cw g own cc nL h l E) (K : Kf l y cb nB (none) hB E S [] none S') (hh : hB < h) (hn : nB ≤ 21) (hl : Cond.methodLink own idx y ∈ lw_w) (hi : Cond.static y ∈ lw_w) (hc : Cond.code y cb nB (none) ∈ lw_w) (hin : Cond.initialized y.cls ∈ lw_w) (hd : y.cls ≠ "java/lang/invoke/MethodHandle" ∧ y.cls ≠ "java/lang/invoke/VarHandle" ∧ (parseMethodDescriptor y.desc).map (fun d => d.parameters.length) = some 0) (hW : (st.map fun v => v.category).sum ≤ 8) (d : decode cc pc = .ok (.invokestatic idx, 3)) (kk : g S' (pc + 3) L (st)) : g S pc L (st) := r_callS C K hh hn hl hi hc hin hd hW d kk
theorem r_cV1r (C : Cw g own cc nL h l E) {x0 : Value} {w : Value} {ty : FieldType} {k : Nat} (K : Kf l y cb nB (some ty) hB E S (rf E k :: [x0]) (some w) S') (hh : hB < h) (hn : nB ≤ 21) (hl : Cond.methodLink own idx y ∈ lw_w) (hi : Cond.instanceMethod y ∈ lw_w) (hs : Cond.selects y.cls y y ∈ lw_w) (hc : Cond.code y cb nB (some ty) ∈ lw_w) (hin : Cond.initialized y.cls ∈ lw_w) (hd : y.cls ≠ "java/lang/invoke/MethodHandle" ∧ y.cls ≠ "java/lang/invoke/VarHandle" ∧ (parseMethodDescriptor y.desc).map (fun d => d.parameters.length) = some 1) {ci : Nat} {fs : List Value} {q : vw_C} (hk : k < 203) (hz : zcel E S k = .inr (ci, fs)) (hq : classes[ci]? = some q) (hqc : q.1 = y.cls) (hW : (st.map fun v => v.category).sum ≤ 8) (d : decode cc pc = .ok (.invokevirtual idx, 3)) (kk : g S' (pc + 3) L (w :: st)) : g S pc L (x0 :: rf E k :: st) := r_callV C K hh hn hl hi hs hc hin hd hk hz hq hqc hW d kk
theorem r_cS1r (C : Cw g own cc nL h l E) {x0 : Value} {w : Value} {ty : FieldType} (K : Kf l y cb nB (some ty) hB E S [x0] (some w) S') (hh : hB < h) (hn : nB ≤ 21) (hl : Cond.methodLink own idx y ∈ lw_w) (hi : Cond.static y ∈ lw_w) (hc : Cond.code y cb nB (some ty) ∈ lw_w) (hin : Cond.initialized y.cls ∈ lw_w) (hd : y.cls ≠ "java/lang/invoke/MethodHandle" ∧ y.cls ≠ "java/lang/invoke/VarHandle" ∧ (parseMethodDescriptor y.desc).map (fun d => d.parameters.length) = some 1) (hW : (st.map fun v => v.category).sum ≤ 8) (d : decode cc pc = .ok (.invokestatic idx, 3)) (kk : g S' (pc + 3) L (w :: st)) : g S pc L (x0 :: st) := r_callS C K hh hn hl hi hc hin hd hW d kk
theorem r_cV1v (C : Cw g own cc nL h l E) {x0 : Value} {k : Nat} (K : Kf l y cb nB (none) hB E S (rf E k :: [x0]) none S') (hh : hB < h) (hn : nB ≤ 21) (hl : Cond.methodLink own idx y ∈ lw_w) (hi : Cond.instanceMethod y ∈ lw_w) (hs : Cond.selects y.cls y y ∈ lw_w) (hc : Cond.code y cb nB (none) ∈ lw_w) (hin : Cond.initialized y.cls ∈ lw_w) (hd : y.cls ≠ "java/lang/invoke/MethodHandle" ∧ y.cls ≠ "java/lang/invoke/VarHandle" ∧ (parseMethodDescriptor y.desc).map (fun d => d.parameters.length) = some 1) {ci : Nat} {fs : List Value} {q : vw_C} (hk : k < 203) (hz : zcel E S k = .inr (ci, fs)) (hq : classes[ci]? = some q) (hqc : q.1 = y.cls) (hW : (st.map fun v => v.category).sum ≤ 8) (d : decode cc pc = .ok (.invokevirtual idx, 3)) (kk : g S' (pc + 3) L (st)) : g S pc L (x0 :: rf E k :: st) := r_callV C K hh hn hl hi hs hc hin hd hk hz hq hqc hW d kk
theorem r_cS1v (C : Cw g own cc nL h l E) {x0 : Value} (K : Kf l y cb nB (none) hB E S [x0] none S') (hh : hB < h) (hn : nB ≤ 21) (hl : Cond.methodLink own idx y ∈ lw_w) (hi : Cond.static y ∈ lw_w) (hc : Cond.code y cb nB (none) ∈ lw_w) (hin : Cond.initialized y.cls ∈ lw_w) (hd : y.cls ≠ "java/lang/invoke/MethodHandle" ∧ y.cls ≠ "java/lang/invoke/VarHandle" ∧ (parseMethodDescriptor y.desc).map (fun d => d.parameters.length) = some 1) (hW : (st.map fun v => v.category).sum ≤ 8) (d : decode cc pc = .ok (.invokestatic idx, 3)) (kk : g S' (pc + 3) L (st)) : g S pc L (x0 :: st) := r_callS C K hh hn hl hi hc hin hd hW d kk
theorem r_cV2r (C : Cw g own cc nL h l E) {x0 x1 : Value} {w : Value} {ty : FieldType} {k : Nat} (K : Kf l y cb nB (some ty) hB E S (rf E k :: [x0, x1]) (some w) S') (hh : hB < h) (hn : nB ≤ 21) (hl : Cond.methodLink own idx y ∈ lw_w) (hi : Cond.instanceMethod y ∈ lw_w) (hs : Cond.selects y.cls y y ∈ lw_w) (hc : Cond.code y cb nB (some ty) ∈ lw_w) (hin : Cond.initialized y.cls ∈ lw_w) (hd : y.cls ≠ "java/lang/invoke/MethodHandle" ∧ y.cls ≠ "java/lang/invoke/VarHandle" ∧ (parseMethodDescriptor y.desc).map (fun d => d.parameters.length) = some 2) {ci : Nat} {fs : List Value} {q : vw_C} (hk : k < 203) (hz : zcel E S k = .inr (ci, fs)) (hq : classes[ci]? = some q) (hqc : q.1 = y.cls) (hW : (st.map fun v => v.category).sum ≤ 8) (d : decode cc pc = .ok (.invokevirtual idx, 3)) (kk : g S' (pc + 3) L (w :: st)) : g S pc L (x1 :: x0 :: rf E k :: st) := r_callV C K hh hn hl hi hs hc hin hd hk hz hq hqc hW d kk
theorem r_cS2r (C : Cw g own cc nL h l E) {x0 x1 : Value} {w : Value} {ty : FieldType} (K : Kf l y cb nB (some ty) hB E S [x0, x1] (some w) S') (hh : hB < h) (hn : nB ≤ 21) (hl : Cond.methodLink own idx y ∈ lw_w) (hi : Cond.static y ∈ lw_w) (hc : Cond.code y cb nB (some ty) ∈ lw_w) (hin : Cond.initialized y.cls ∈ lw_w) (hd : y.cls ≠ "java/lang/invoke/MethodHandle" ∧ y.cls ≠ "java/lang/invoke/VarHandle" ∧ (parseMethodDescriptor y.desc).map (fun d => d.parameters.length) = some 2) (hW : (st.map fun v => v.category).sum ≤ 8) (d : decode cc pc = .ok (.invokestatic idx, 3)) (kk : g S' (pc + 3) L (w :: st)) : g S pc L (x1 :: x0 :: st) := r_callS C K hh hn hl hi hc hin hd hW d kk
theorem r_cV2v (C : Cw g own cc nL h l E) {x0 x1 : Value} {k : Nat} (K : Kf l y cb nB (none) hB E S (rf E k :: [x0, x1]) none S') (hh : hB < h) (hn : nB ≤ 21) (hl : Cond.methodLink own idx y ∈ lw_w) (hi : Cond.instanceMethod y ∈ lw_w) (hs : Cond.selects y.cls y y ∈ lw_w) (hc : Cond.code y cb nB (none) ∈ lw_w) (hin : Cond.initialized y.cls ∈ lw_w) (hd : y.cls ≠ "java/lang/invoke/MethodHandle" ∧ y.cls ≠ "java/lang/invoke/VarHandle" ∧ (parseMethodDescriptor y.desc).map (fun d => d.parameters.length) = some 2) {ci : Nat} {fs : List Value} {q : vw_C} (hk : k < 203) (hz : zcel E S k = .inr (ci, fs)) (hq : classes[ci]? = some q) (hqc : q.1 = y.cls) (hW : (st.map fun v => v.category).sum ≤ 8) (d : decode cc pc = .ok (.invokevirtual idx, 3)) (kk : g S' (pc + 3) L (st)) : g S pc L (x1 :: x0 :: rf E k :: st) := r_callV C K hh hn hl hi hs hc hin hd hk hz hq hqc hW d kk
theorem r_cS2v (C : Cw g own cc nL h l E) {x0 x1 : Value} (K : Kf l y cb nB (none) hB E S [x0, x1] none S') (hh : hB < h) (hn : nB ≤ 21) (hl : Cond.methodLink own idx y ∈ lw_w) (hi : Cond.static y ∈ lw_w) (hc : Cond.code y cb nB (none) ∈ lw_w) (hin : Cond.initialized y.cls ∈ lw_w) (hd : y.cls ≠ "java/lang/invoke/MethodHandle" ∧ y.cls ≠ "java/lang/invoke/VarHandle" ∧ (parseMethodDescriptor y.desc).map (fun d => d.parameters.length) = some 2) (hW : (st.map fun v => v.category).sum ≤ 8) (d : decode cc pc = .ok (.invokestatic idx, 3)) (kk : g S' (pc + 3) L (st)) : g S pc L (x1 :: x0 :: st) := r_callS C K hh hn hl hi hc hin hd hW d kk
theorem r_cV3r (C : Cw g own cc nL h l E) {x0 x1 x2 : Value} {w : Value} {ty : FieldType} {k : Nat} (K : Kf l y cb nB (some ty) hB E S (rf E k :: [x0, x1, x2]) (some w) S') (hh : hB < h) (hn : nB ≤ 21) (hl : Cond.methodLink own idx y ∈ lw_w) (hi : Cond.instanceMethod y ∈ lw_w) (hs : Cond.selects y.cls y y ∈ lw_w) (hc : Cond.code y cb nB (some ty) ∈ lw_w) (hin : Cond.initialized y.cls ∈ lw_w) (hd : y.cls ≠ "java/lang/invoke/MethodHandle" ∧ y.cls ≠ "java/lang/invoke/VarHandle" ∧ (parseMethodDescriptor y.desc).map (fun d => d.parameters.length) = some 3) {ci : Nat} {fs : List Value} {q : vw_C} (hk : k < 203) (hz : zcel E S k = .inr (ci, fs)) (hq : classes[ci]? = some q) (hqc : q.1 = y.cls) (hW : (st.map fun v => v.category).sum ≤ 8) (d : decode cc pc = .ok (.invokevirtual idx, 3)) (kk : g S' (pc + 3) L (w :: st)) : g S pc L (x2 :: x1 :: x0 :: rf E k :: st) := r_callV C K hh hn hl hi hs hc hin hd hk hz hq hqc hW d kk
theorem r_cS3r (C : Cw g own cc nL h l E) {x0 x1 x2 : Value} {w : Value} {ty : FieldType} (K : Kf l y cb nB (some ty) hB E S [x0, x1, x2] (some w) S') (hh : hB < h) (hn : nB ≤ 21) (hl : Cond.methodLink own idx y ∈ lw_w) (hi : Cond.static y ∈ lw_w) (hc : Cond.code y cb nB (some ty) ∈ lw_w) (hin : Cond.initialized y.cls ∈ lw_w) (hd : y.cls ≠ "java/lang/invoke/MethodHandle" ∧ y.cls ≠ "java/lang/invoke/VarHandle" ∧ (parseMethodDescriptor y.desc).map (fun d => d.parameters.length) = some 3) (hW : (st.map fun v => v.category).sum ≤ 8) (d : decode cc pc = .ok (.invokestatic idx, 3)) (kk : g S' (pc + 3) L (w :: st)) : g S pc L (x2 :: x1 :: x0 :: st) := r_callS C K hh hn hl hi hc hin hd hW d kk
theorem r_cV3v (C : Cw g own cc nL h l E) {x0 x1 x2 : Value} {k : Nat} (K : Kf l y cb nB (none) hB E S (rf E k :: [x0, x1, x2]) none S') (hh : hB < h) (hn : nB ≤ 21) (hl : Cond.methodLink own idx y ∈ lw_w) (hi : Cond.instanceMethod y ∈ lw_w) (hs : Cond.selects y.cls y y ∈ lw_w) (hc : Cond.code y cb nB (none) ∈ lw_w) (hin : Cond.initialized y.cls ∈ lw_w) (hd : y.cls ≠ "java/lang/invoke/MethodHandle" ∧ y.cls ≠ "java/lang/invoke/VarHandle" ∧ (parseMethodDescriptor y.desc).map (fun d => d.parameters.length) = some 3) {ci : Nat} {fs : List Value} {q : vw_C} (hk : k < 203) (hz : zcel E S k = .inr (ci, fs)) (hq : classes[ci]? = some q) (hqc : q.1 = y.cls) (hW : (st.map fun v => v.category).sum ≤ 8) (d : decode cc pc = .ok (.invokevirtual idx, 3)) (kk : g S' (pc + 3) L (st)) : g S pc L (x2 :: x1 :: x0 :: rf E k :: st) := r_callV C K hh hn hl hi hs hc hin hd hk hz hq hqc hW d kk
theorem r_cS3v (C : Cw g own cc nL h l E) {x0 x1 x2 : Value} (K : Kf l y cb nB (none) hB E S [x0, x1, x2] none S') (hh : hB < h) (hn : nB ≤ 21) (hl : Cond.methodLink own idx y ∈ lw_w) (hi : Cond.static y ∈ lw_w) (hc : Cond.code y cb nB (none) ∈ lw_w) (hin : Cond.initialized y.cls ∈ lw_w) (hd : y.cls ≠ "java/lang/invoke/MethodHandle" ∧ y.cls ≠ "java/lang/invoke/VarHandle" ∧ (parseMethodDescriptor y.desc).map (fun d => d.parameters.length) = some 3) (hW : (st.map fun v => v.category).sum ≤ 8) (d : decode cc pc = .ok (.invokestatic idx, 3)) (kk : g S' (pc + 3) L (st)) : g S pc L (x2 :: x1 :: x0 :: st) := r_callS C K hh hn hl hi hc hin hd hW d kk
theorem r_cV4r (C : Cw g own cc nL h l E) {x0 x1 x2 x3 : Value} {w : Value} {ty : FieldType} {k : Nat} (K : Kf l y cb nB (some ty) hB E S (rf E k :: [x0, x1, x2, x3]) (some w) S') (hh : hB < h) (hn : nB ≤ 21) (hl : Cond.methodLink own idx y ∈ lw_w) (hi : Cond.instanceMethod y ∈ lw_w) (hs : Cond.selects y.cls y y ∈ lw_w) (hc : Cond.code y cb nB (some ty) ∈ lw_w) (hin : Cond.initialized y.cls ∈ lw_w) (hd : y.cls ≠ "java/lang/invoke/MethodHandle" ∧ y.cls ≠ "java/lang/invoke/VarHandle" ∧ (parseMethodDescriptor y.desc).map (fun d => d.parameters.length) = some 4) {ci : Nat} {fs : List Value} {q : vw_C} (hk : k < 203) (hz : zcel E S k = .inr (ci, fs)) (hq : classes[ci]? = some q) (hqc : q.1 = y.cls) (hW : (st.map fun v => v.category).sum ≤ 8) (d : decode cc pc = .ok (.invokevirtual idx, 3)) (kk : g S' (pc + 3) L (w :: st)) : g S pc L (x3 :: x2 :: x1 :: x0 :: rf E k :: st) := r_callV C K hh hn hl hi hs hc hin hd hk hz hq hqc hW d kk
theorem r_cS4r (C : Cw g own cc nL h l E) {x0 x1 x2 x3 : Value} {w : Value} {ty : FieldType} (K : Kf l y cb nB (some ty) hB E S [x0, x1, x2, x3] (some w) S') (hh : hB < h) (hn : nB ≤ 21) (hl : Cond.methodLink own idx y ∈ lw_w) (hi : Cond.static y ∈ lw_w) (hc : Cond.code y cb nB (some ty) ∈ lw_w) (hin : Cond.initialized y.cls ∈ lw_w) (hd : y.cls ≠ "java/lang/invoke/MethodHandle" ∧ y.cls ≠ "java/lang/invoke/VarHandle" ∧ (parseMethodDescriptor y.desc).map (fun d => d.parameters.length) = some 4) (hW : (st.map fun v => v.category).sum ≤ 8) (d : decode cc pc = .ok (.invokestatic idx, 3)) (kk : g S' (pc + 3) L (w :: st)) : g S pc L (x3 :: x2 :: x1 :: x0 :: st) := r_callS C K hh hn hl hi hc hin hd hW d kk
theorem r_cV4v (C : Cw g own cc nL h l E) {x0 x1 x2 x3 : Value} {k : Nat} (K : Kf l y cb nB (none) hB E S (rf E k :: [x0, x1, x2, x3]) none S') (hh : hB < h) (hn : nB ≤ 21) (hl : Cond.methodLink own idx y ∈ lw_w) (hi : Cond.instanceMethod y ∈ lw_w) (hs : Cond.selects y.cls y y ∈ lw_w) (hc : Cond.code y cb nB (none) ∈ lw_w) (hin : Cond.initialized y.cls ∈ lw_w) (hd : y.cls ≠ "java/lang/invoke/MethodHandle" ∧ y.cls ≠ "java/lang/invoke/VarHandle" ∧ (parseMethodDescriptor y.desc).map (fun d => d.parameters.length) = some 4) {ci : Nat} {fs : List Value} {q : vw_C} (hk : k < 203) (hz : zcel E S k = .inr (ci, fs)) (hq : classes[ci]? = some q) (hqc : q.1 = y.cls) (hW : (st.map fun v => v.category).sum ≤ 8) (d : decode cc pc = .ok (.invokevirtual idx, 3)) (kk : g S' (pc + 3) L (st)) : g S pc L (x3 :: x2 :: x1 :: x0 :: rf E k :: st) := r_callV C K hh hn hl hi hs hc hin hd hk hz hq hqc hW d kk
theorem r_cS4v (C : Cw g own cc nL h l E) {x0 x1 x2 x3 : Value} (K : Kf l y cb nB (none) hB E S [x0, x1, x2, x3] none S') (hh : hB < h) (hn : nB ≤ 21) (hl : Cond.methodLink own idx y ∈ lw_w) (hi : Cond.static y ∈ lw_w) (hc : Cond.code y cb nB (none) ∈ lw_w) (hin : Cond.initialized y.cls ∈ lw_w) (hd : y.cls ≠ "java/lang/invoke/MethodHandle" ∧ y.cls ≠ "java/lang/invoke/VarHandle" ∧ (parseMethodDescriptor y.desc).map (fun d => d.parameters.length) = some 4) (hW : (st.map fun v => v.category).sum ≤ 8) (d : decode cc pc = .ok (.invokestatic idx, 3)) (kk : g S' (pc + 3) L (st)) : g S pc L (x3 :: x2 :: x1 :: x0 :: st) := r_callS C K hh hn hl hi hc hin hd hW d kk
theorem r_cV5r (C : Cw g own cc nL h l E) {x0 x1 x2 x3 x4 : Value} {w : Value} {ty : FieldType} {k : Nat} (K : Kf l y cb nB (some ty) hB E S (rf E k :: [x0, x1, x2, x3, x4]) (some w) S') (hh : hB < h) (hn : nB ≤ 21) (hl : Cond.methodLink own idx y ∈ lw_w) (hi : Cond.instanceMethod y ∈ lw_w) (hs : Cond.selects y.cls y y ∈ lw_w) (hc : Cond.code y cb nB (some ty) ∈ lw_w) (hin : Cond.initialized y.cls ∈ lw_w) (hd : y.cls ≠ "java/lang/invoke/MethodHandle" ∧ y.cls ≠ "java/lang/invoke/VarHandle" ∧ (parseMethodDescriptor y.desc).map (fun d => d.parameters.length) = some 5) {ci : Nat} {fs : List Value} {q : vw_C} (hk : k < 203) (hz : zcel E S k = .inr (ci, fs)) (hq : classes[ci]? = some q) (hqc : q.1 = y.cls) (hW : (st.map fun v => v.category).sum ≤ 8) (d : decode cc pc = .ok (.invokevirtual idx, 3)) (kk : g S' (pc + 3) L (w :: st)) : g S pc L (x4 :: x3 :: x2 :: x1 :: x0 :: rf E k :: st) := r_callV C K hh hn hl hi hs hc hin hd hk hz hq hqc hW d kk
theorem r_cS5r (C : Cw g own cc nL h l E) {x0 x1 x2 x3 x4 : Value} {w : Value} {ty : FieldType} (K : Kf l y cb nB (some ty) hB E S [x0, x1, x2, x3, x4] (some w) S') (hh : hB < h) (hn : nB ≤ 21) (hl : Cond.methodLink own idx y ∈ lw_w) (hi : Cond.static y ∈ lw_w) (hc : Cond.code y cb nB (some ty) ∈ lw_w) (hin : Cond.initialized y.cls ∈ lw_w) (hd : y.cls ≠ "java/lang/invoke/MethodHandle" ∧ y.cls ≠ "java/lang/invoke/VarHandle" ∧ (parseMethodDescriptor y.desc).map (fun d => d.parameters.length) = some 5) (hW : (st.map fun v => v.category).sum ≤ 8) (d : decode cc pc = .ok (.invokestatic idx, 3)) (kk : g S' (pc + 3) L (w :: st)) : g S pc L (x4 :: x3 :: x2 :: x1 :: x0 :: st) := r_callS C K hh hn hl hi hc hin hd hW d kk
theorem r_cV5v (C : Cw g own cc nL h l E) {x0 x1 x2 x3 x4 : Value} {k : Nat} (K : Kf l y cb nB (none) hB E S (rf E k :: [x0, x1, x2, x3, x4]) none S') (hh : hB < h) (hn : nB ≤ 21) (hl : Cond.methodLink own idx y ∈ lw_w) (hi : Cond.instanceMethod y ∈ lw_w) (hs : Cond.selects y.cls y y ∈ lw_w) (hc : Cond.code y cb nB (none) ∈ lw_w) (hin : Cond.initialized y.cls ∈ lw_w) (hd : y.cls ≠ "java/lang/invoke/MethodHandle" ∧ y.cls ≠ "java/lang/invoke/VarHandle" ∧ (parseMethodDescriptor y.desc).map (fun d => d.parameters.length) = some 5) {ci : Nat} {fs : List Value} {q : vw_C} (hk : k < 203) (hz : zcel E S k = .inr (ci, fs)) (hq : classes[ci]? = some q) (hqc : q.1 = y.cls) (hW : (st.map fun v => v.category).sum ≤ 8) (d : decode cc pc = .ok (.invokevirtual idx, 3)) (kk : g S' (pc + 3) L (st)) : g S pc L (x4 :: x3 :: x2 :: x1 :: x0 :: rf E k :: st) := r_callV C K hh hn hl hi hs hc hin hd hk hz hq hqc hW d kk
theorem r_cS5v (C : Cw g own cc nL h l E) {x0 x1 x2 x3 x4 : Value} (K : Kf l y cb nB (none) hB E S [x0, x1, x2, x3, x4] none S') (hh : hB < h) (hn : nB ≤ 21) (hl : Cond.methodLink own idx y ∈ lw_w) (hi : Cond.static y ∈ lw_w) (hc : Cond.code y cb nB (none) ∈ lw_w) (hin : Cond.initialized y.cls ∈ lw_w) (hd : y.cls ≠ "java/lang/invoke/MethodHandle" ∧ y.cls ≠ "java/lang/invoke/VarHandle" ∧ (parseMethodDescriptor y.desc).map (fun d => d.parameters.length) = some 5) (hW : (st.map fun v => v.category).sum ≤ 8) (d : decode cc pc = .ok (.invokestatic idx, 3)) (kk : g S' (pc + 3) L (st)) : g S pc L (x4 :: x3 :: x2 :: x1 :: x0 :: st) := r_callS C K hh hn hl hi hc hin hd hW d kk
theorem r_cV6r (C : Cw g own cc nL h l E) {x0 x1 x2 x3 x4 x5 : Value} {w : Value} {ty : FieldType} {k : Nat} (K : Kf l y cb nB (some ty) hB E S (rf E k :: [x0, x1, x2, x3, x4, x5]) (some w) S') (hh : hB < h) (hn : nB ≤ 21) (hl : Cond.methodLink own idx y ∈ lw_w) (hi : Cond.instanceMethod y ∈ lw_w) (hs : Cond.selects y.cls y y ∈ lw_w) (hc : Cond.code y cb nB (some ty) ∈ lw_w) (hin : Cond.initialized y.cls ∈ lw_w) (hd : y.cls ≠ "java/lang/invoke/MethodHandle" ∧ y.cls ≠ "java/lang/invoke/VarHandle" ∧ (parseMethodDescriptor y.desc).map (fun d => d.parameters.length) = some 6) {ci : Nat} {fs : List Value} {q : vw_C} (hk : k < 203) (hz : zcel E S k = .inr (ci, fs)) (hq : classes[ci]? = some q) (hqc : q.1 = y.cls) (hW : (st.map fun v => v.category).sum ≤ 8) (d : decode cc pc = .ok (.invokevirtual idx, 3)) (kk : g S' (pc + 3) L (w :: st)) : g S pc L (x5 :: x4 :: x3 :: x2 :: x1 :: x0 :: rf E k :: st) := r_callV C K hh hn hl hi hs hc hin hd hk hz hq hqc hW d kk
theorem r_cS6r (C : Cw g own cc nL h l E) {x0 x1 x2 x3 x4 x5 : Value} {w : Value} {ty : FieldType} (K : Kf l y cb nB (some ty) hB E S [x0, x1, x2, x3, x4, x5] (some w) S') (hh : hB < h) (hn : nB ≤ 21) (hl : Cond.methodLink own idx y ∈ lw_w) (hi : Cond.static y ∈ lw_w) (hc : Cond.code y cb nB (some ty) ∈ lw_w) (hin : Cond.initialized y.cls ∈ lw_w) (hd : y.cls ≠ "java/lang/invoke/MethodHandle" ∧ y.cls ≠ "java/lang/invoke/VarHandle" ∧ (parseMethodDescriptor y.desc).map (fun d => d.parameters.length) = some 6) (hW : (st.map fun v => v.category).sum ≤ 8) (d : decode cc pc = .ok (.invokestatic idx, 3)) (kk : g S' (pc + 3) L (w :: st)) : g S pc L (x5 :: x4 :: x3 :: x2 :: x1 :: x0 :: st) := r_callS C K hh hn hl hi hc hin hd hW d kk
theorem r_cV6v (C : Cw g own cc nL h l E) {x0 x1 x2 x3 x4 x5 : Value} {k : Nat} (K : Kf l y cb nB (none) hB E S (rf E k :: [x0, x1, x2, x3, x4, x5]) none S') (hh : hB < h) (hn : nB ≤ 21) (hl : Cond.methodLink own idx y ∈ lw_w) (hi : Cond.instanceMethod y ∈ lw_w) (hs : Cond.selects y.cls y y ∈ lw_w) (hc : Cond.code y cb nB (none) ∈ lw_w) (hin : Cond.initialized y.cls ∈ lw_w) (hd : y.cls ≠ "java/lang/invoke/MethodHandle" ∧ y.cls ≠ "java/lang/invoke/VarHandle" ∧ (parseMethodDescriptor y.desc).map (fun d => d.parameters.length) = some 6) {ci : Nat} {fs : List Value} {q : vw_C} (hk : k < 203) (hz : zcel E S k = .inr (ci, fs)) (hq : classes[ci]? = some q) (hqc : q.1 = y.cls) (hW : (st.map fun v => v.category).sum ≤ 8) (d : decode cc pc = .ok (.invokevirtual idx, 3)) (kk : g S' (pc + 3) L (st)) : g S pc L (x5 :: x4 :: x3 :: x2 :: x1 :: x0 :: rf E k :: st) := r_callV C K hh hn hl hi hs hc hin hd hk hz hq hqc hW d kk
theorem r_cS6v (C : Cw g own cc nL h l E) {x0 x1 x2 x3 x4 x5 : Value} (K : Kf l y cb nB (none) hB E S [x0, x1, x2, x3, x4, x5] none S') (hh : hB < h) (hn : nB ≤ 21) (hl : Cond.methodLink own idx y ∈ lw_w) (hi : Cond.static y ∈ lw_w) (hc : Cond.code y cb nB (none) ∈ lw_w) (hin : Cond.initialized y.cls ∈ lw_w) (hd : y.cls ≠ "java/lang/invoke/MethodHandle" ∧ y.cls ≠ "java/lang/invoke/VarHandle" ∧ (parseMethodDescriptor y.desc).map (fun d => d.parameters.length) = some 6) (hW : (st.map fun v => v.category).sum ≤ 8) (d : decode cc pc = .ok (.invokestatic idx, 3)) (kk : g S' (pc + 3) L (st)) : g S pc L (x5 :: x4 :: x3 :: x2 :: x1 :: x0 :: st) := r_callS C K hh hn hl hi hc hin hd hW d kk
end CALLS
theorem md_Gm_rack : y_Gm_rack.cls ≠ "java/lang/invoke/MethodHandle" ∧ y_Gm_rack.cls ≠ "java/lang/invoke/VarHandle" ∧ (parseMethodDescriptor y_Gm_rack.desc).map (fun d => d.parameters.length) = some 1 := by decide +kernel
theorem md_Gm_isOutside : y_Gm_isOutside.cls ≠ "java/lang/invoke/MethodHandle" ∧ y_Gm_isOutside.cls ≠ "java/lang/invoke/VarHandle" ∧ (parseMethodDescriptor y_Gm_isOutside.desc).map (fun d => d.parameters.length) = some 3 := by decide +kernel
theorem md_Mc_addRack : y_Mc_addRack.cls ≠ "java/lang/invoke/MethodHandle" ∧ y_Mc_addRack.cls ≠ "java/lang/invoke/VarHandle" ∧ (parseMethodDescriptor y_Mc_addRack.desc).map (fun d => d.parameters.length) = some 1 := by decide +kernel
theorem md_Mc_recount : y_Mc_recount.cls ≠ "java/lang/invoke/MethodHandle" ∧ y_Mc_recount.cls ≠ "java/lang/invoke/VarHandle" ∧ (parseMethodDescriptor y_Mc_recount.desc).map (fun d => d.parameters.length) = some 0 := by decide +kernel
theorem md_Mc_countedOf : y_Mc_countedOf.cls ≠ "java/lang/invoke/MethodHandle" ∧ y_Mc_countedOf.cls ≠ "java/lang/invoke/VarHandle" ∧ (parseMethodDescriptor y_Mc_countedOf.desc).map (fun d => d.parameters.length) = some 1 := by decide +kernel
theorem md_Gm_drain : y_Gm_drain.cls ≠ "java/lang/invoke/MethodHandle" ∧ y_Gm_drain.cls ≠ "java/lang/invoke/VarHandle" ∧ (parseMethodDescriptor y_Gm_drain.desc).map (fun d => d.parameters.length) = some 2 := by decide +kernel
theorem md_Mc_hasRack : y_Mc_hasRack.cls ≠ "java/lang/invoke/MethodHandle" ∧ y_Mc_hasRack.cls ≠ "java/lang/invoke/VarHandle" ∧ (parseMethodDescriptor y_Mc_hasRack.desc).map (fun d => d.parameters.length) = some 1 := by decide +kernel
theorem md_Gm_fail : y_Gm_fail.cls ≠ "java/lang/invoke/MethodHandle" ∧ y_Gm_fail.cls ≠ "java/lang/invoke/VarHandle" ∧ (parseMethodDescriptor y_Gm_fail.desc).map (fun d => d.parameters.length) = some 1 := by decide +kernel
theorem md_Mc_breakRack : y_Mc_breakRack.cls ≠ "java/lang/invoke/MethodHandle" ∧ y_Mc_breakRack.cls ≠ "java/lang/invoke/VarHandle" ∧ (parseMethodDescriptor y_Mc_breakRack.desc).map (fun d => d.parameters.length) = some 1 := by decide +kernel
theorem md_Jb_keepWhatWasSaved : y_Jb_keepWhatWasSaved.cls ≠ "java/lang/invoke/MethodHandle" ∧ y_Jb_keepWhatWasSaved.cls ≠ "java/lang/invoke/VarHandle" ∧ (parseMethodDescriptor y_Jb_keepWhatWasSaved.desc).map (fun d => d.parameters.length) = some 1 := by decide +kernel
theorem md_Jb_ranUntil : y_Jb_ranUntil.cls ≠ "java/lang/invoke/MethodHandle" ∧ y_Jb_ranUntil.cls ≠ "java/lang/invoke/VarHandle" ∧ (parseMethodDescriptor y_Jb_ranUntil.desc).map (fun d => d.parameters.length) = some 1 := by decide +kernel
theorem md_Mc_leaveNodes : y_Mc_leaveNodes.cls ≠ "java/lang/invoke/MethodHandle" ∧ y_Mc_leaveNodes.cls ≠ "java/lang/invoke/VarHandle" ∧ (parseMethodDescriptor y_Mc_leaveNodes.desc).map (fun d => d.parameters.length) = some 1 := by decide +kernel
theorem md_Gm_licences : y_Gm_licences.cls ≠ "java/lang/invoke/MethodHandle" ∧ y_Gm_licences.cls ≠ "java/lang/invoke/VarHandle" ∧ (parseMethodDescriptor y_Gm_licences.desc).map (fun d => d.parameters.length) = some 1 := by decide +kernel
theorem md_Gm_half : y_Gm_half.cls ≠ "java/lang/invoke/MethodHandle" ∧ y_Gm_half.cls ≠ "java/lang/invoke/VarHandle" ∧ (parseMethodDescriptor y_Gm_half.desc).map (fun d => d.parameters.length) = some 1 := by decide +kernel
theorem md_Gm_account : y_Gm_account.cls ≠ "java/lang/invoke/MethodHandle" ∧ y_Gm_account.cls ≠ "java/lang/invoke/VarHandle" ∧ (parseMethodDescriptor y_Gm_account.desc).map (fun d => d.parameters.length) = some 1 := by decide +kernel
theorem md_Mc_addAccount : y_Mc_addAccount.cls ≠ "java/lang/invoke/MethodHandle" ∧ y_Mc_addAccount.cls ≠ "java/lang/invoke/VarHandle" ∧ (parseMethodDescriptor y_Mc_addAccount.desc).map (fun d => d.parameters.length) = some 1 := by decide +kernel
theorem md_Gm_job : y_Gm_job.cls ≠ "java/lang/invoke/MethodHandle" ∧ y_Gm_job.cls ≠ "java/lang/invoke/VarHandle" ∧ (parseMethodDescriptor y_Gm_job.desc).map (fun d => d.parameters.length) = some 6 := by decide +kernel
theorem md_Mc_hasAccount : y_Mc_hasAccount.cls ≠ "java/lang/invoke/MethodHandle" ∧ y_Mc_hasAccount.cls ≠ "java/lang/invoke/VarHandle" ∧ (parseMethodDescriptor y_Mc_hasAccount.desc).map (fun d => d.parameters.length) = some 1 := by decide +kernel
theorem md_Jb_want : y_Jb_want.cls ≠ "java/lang/invoke/MethodHandle" ∧ y_Jb_want.cls ≠ "java/lang/invoke/VarHandle" ∧ (parseMethodDescriptor y_Jb_want.desc).map (fun d => d.parameters.length) = some 6 := by decide +kernel
theorem md_Gm_behind : y_Gm_behind.cls ≠ "java/lang/invoke/MethodHandle" ∧ y_Gm_behind.cls ≠ "java/lang/invoke/VarHandle" ∧ (parseMethodDescriptor y_Gm_behind.desc).map (fun d => d.parameters.length) = some 2 := by decide +kernel
theorem md_Mc_hasJob : y_Mc_hasJob.cls ≠ "java/lang/invoke/MethodHandle" ∧ y_Mc_hasJob.cls ≠ "java/lang/invoke/VarHandle" ∧ (parseMethodDescriptor y_Mc_hasJob.desc).map (fun d => d.parameters.length) = some 1 := by decide +kernel
theorem md_Gm_cancel : y_Gm_cancel.cls ≠ "java/lang/invoke/MethodHandle" ∧ y_Gm_cancel.cls ≠ "java/lang/invoke/VarHandle" ∧ (parseMethodDescriptor y_Gm_cancel.desc).map (fun d => d.parameters.length) = some 1 := by decide +kernel
theorem md_Gm_book : y_Gm_book.cls ≠ "java/lang/invoke/MethodHandle" ∧ y_Gm_book.cls ≠ "java/lang/invoke/VarHandle" ∧ (parseMethodDescriptor y_Gm_book.desc).map (fun d => d.parameters.length) = some 3 := by decide +kernel
theorem md_Mc_nodesFit : y_Mc_nodesFit.cls ≠ "java/lang/invoke/MethodHandle" ∧ y_Mc_nodesFit.cls ≠ "java/lang/invoke/VarHandle" ∧ (parseMethodDescriptor y_Mc_nodesFit.desc).map (fun d => d.parameters.length) = some 3 := by decide +kernel
theorem md_Mc_nodesTaken : y_Mc_nodesTaken.cls ≠ "java/lang/invoke/MethodHandle" ∧ y_Mc_nodesTaken.cls ≠ "java/lang/invoke/VarHandle" ∧ (parseMethodDescriptor y_Mc_nodesTaken.desc).map (fun d => d.parameters.length) = some 1 := by decide +kernel
theorem md_Hd_beginsWithin : y_Hd_beginsWithin.cls ≠ "java/lang/invoke/MethodHandle" ∧ y_Hd_beginsWithin.cls ≠ "java/lang/invoke/VarHandle" ∧ (parseMethodDescriptor y_Hd_beginsWithin.desc).map (fun d => d.parameters.length) = some 2 := by decide +kernel
theorem md_Hd_set : y_Hd_set.cls ≠ "java/lang/invoke/MethodHandle" ∧ y_Hd_set.cls ≠ "java/lang/invoke/VarHandle" ∧ (parseMethodDescriptor y_Hd_set.desc).map (fun d => d.parameters.length) = some 4 := by decide +kernel
theorem md_Gm_unbook : y_Gm_unbook.cls ≠ "java/lang/invoke/MethodHandle" ∧ y_Gm_unbook.cls ≠ "java/lang/invoke/VarHandle" ∧ (parseMethodDescriptor y_Gm_unbook.desc).map (fun d => d.parameters.length) = some 1 := by decide +kernel
theorem md_Mc_dropBooking : y_Mc_dropBooking.cls ≠ "java/lang/invoke/MethodHandle" ∧ y_Mc_dropBooking.cls ≠ "java/lang/invoke/VarHandle" ∧ (parseMethodDescriptor y_Mc_dropBooking.desc).map (fun d => d.parameters.length) = some 1 := by decide +kernel
theorem md_Hd_become : y_Hd_become.cls ≠ "java/lang/invoke/MethodHandle" ∧ y_Hd_become.cls ≠ "java/lang/invoke/VarHandle" ∧ (parseMethodDescriptor y_Hd_become.desc).map (fun d => d.parameters.length) = some 1 := by decide +kernel
theorem md_Gm_ticks : y_Gm_ticks.cls ≠ "java/lang/invoke/MethodHandle" ∧ y_Gm_ticks.cls ≠ "java/lang/invoke/VarHandle" ∧ (parseMethodDescriptor y_Gm_ticks.desc).map (fun d => d.parameters.length) = some 1 := by decide +kernel
theorem md_Mc_passTick : y_Mc_passTick.cls ≠ "java/lang/invoke/MethodHandle" ∧ y_Mc_passTick.cls ≠ "java/lang/invoke/VarHandle" ∧ (parseMethodDescriptor y_Mc_passTick.desc).map (fun d => d.parameters.length) = some 1 := by decide +kernel
theorem md_Mc_lineUp : y_Mc_lineUp.cls ≠ "java/lang/invoke/MethodHandle" ∧ y_Mc_lineUp.cls ≠ "java/lang/invoke/VarHandle" ∧ (parseMethodDescriptor y_Mc_lineUp.desc).map (fun d => d.parameters.length) = some 0 := by decide +kernel
theorem md_Mc_mayBegin : y_Mc_mayBegin.cls ≠ "java/lang/invoke/MethodHandle" ∧ y_Mc_mayBegin.cls ≠ "java/lang/invoke/VarHandle" ∧ (parseMethodDescriptor y_Mc_mayBegin.desc).map (fun d => d.parameters.length) = some 1 := by decide +kernel
theorem md_Mc_putInQueue : y_Mc_putInQueue.cls ≠ "java/lang/invoke/MethodHandle" ∧ y_Mc_putInQueue.cls ≠ "java/lang/invoke/VarHandle" ∧ (parseMethodDescriptor y_Mc_putInQueue.desc).map (fun d => d.parameters.length) = some 1 := by decide +kernel
theorem md_Ac_usedLessThan : y_Ac_usedLessThan.cls ≠ "java/lang/invoke/MethodHandle" ∧ y_Ac_usedLessThan.cls ≠ "java/lang/invoke/VarHandle" ∧ (parseMethodDescriptor y_Ac_usedLessThan.desc).map (fun d => d.parameters.length) = some 1 := by decide +kernel
theorem md_Mc_serveQueue : y_Mc_serveQueue.cls ≠ "java/lang/invoke/MethodHandle" ∧ y_Mc_serveQueue.cls ≠ "java/lang/invoke/VarHandle" ∧ (parseMethodDescriptor y_Mc_serveQueue.desc).map (fun d => d.parameters.length) = some 0 := by decide +kernel
theorem md_Mc_fits : y_Mc_fits.cls ≠ "java/lang/invoke/MethodHandle" ∧ y_Mc_fits.cls ≠ "java/lang/invoke/VarHandle" ∧ (parseMethodDescriptor y_Mc_fits.desc).map (fun d => d.parameters.length) = some 2 := by decide +kernel
theorem md_Jb_left : y_Jb_left.cls ≠ "java/lang/invoke/MethodHandle" ∧ y_Jb_left.cls ≠ "java/lang/invoke/VarHandle" ∧ (parseMethodDescriptor y_Jb_left.desc).map (fun d => d.parameters.length) = some 0 := by decide +kernel
theorem md_Mc_licencesFit : y_Mc_licencesFit.cls ≠ "java/lang/invoke/MethodHandle" ∧ y_Mc_licencesFit.cls ≠ "java/lang/invoke/VarHandle" ∧ (parseMethodDescriptor y_Mc_licencesFit.desc).map (fun d => d.parameters.length) = some 3 := by decide +kernel
theorem md_Mc_licencesTaken : y_Mc_licencesTaken.cls ≠ "java/lang/invoke/MethodHandle" ∧ y_Mc_licencesTaken.cls ≠ "java/lang/invoke/VarHandle" ∧ (parseMethodDescriptor y_Mc_licencesTaken.desc).map (fun d => d.parameters.length) = some 1 := by decide +kernel
theorem md_Mc_begin : y_Mc_begin.cls ≠ "java/lang/invoke/MethodHandle" ∧ y_Mc_begin.cls ≠ "java/lang/invoke/VarHandle" ∧ (parseMethodDescriptor y_Mc_begin.desc).map (fun d => d.parameters.length) = some 1 := by decide +kernel
theorem md_Mc_fewestRacks : y_Mc_fewestRacks.cls ≠ "java/lang/invoke/MethodHandle" ∧ y_Mc_fewestRacks.cls ≠ "java/lang/invoke/VarHandle" ∧ (parseMethodDescriptor y_Mc_fewestRacks.desc).map (fun d => d.parameters.length) = some 1 := by decide +kernel
theorem md_In_bitCount : y_In_bitCount.cls ≠ "java/lang/invoke/MethodHandle" ∧ y_In_bitCount.cls ≠ "java/lang/invoke/VarHandle" ∧ (parseMethodDescriptor y_In_bitCount.desc).map (fun d => d.parameters.length) = some 1 := by decide +kernel
theorem md_Mc_unusedOn : y_Mc_unusedOn.cls ≠ "java/lang/invoke/MethodHandle" ∧ y_Mc_unusedOn.cls ≠ "java/lang/invoke/VarHandle" ∧ (parseMethodDescriptor y_Mc_unusedOn.desc).map (fun d => d.parameters.length) = some 1 := by decide +kernel
theorem md_Mc_firstFit : y_Mc_firstFit.cls ≠ "java/lang/invoke/MethodHandle" ∧ y_Mc_firstFit.cls ≠ "java/lang/invoke/VarHandle" ∧ (parseMethodDescriptor y_Mc_firstFit.desc).map (fun d => d.parameters.length) = some 1 := by decide +kernel
theorem md_Mc_nextEnd : y_Mc_nextEnd.cls ≠ "java/lang/invoke/MethodHandle" ∧ y_Mc_nextEnd.cls ≠ "java/lang/invoke/VarHandle" ∧ (parseMethodDescriptor y_Mc_nextEnd.desc).map (fun d => d.parameters.length) = some 1 := by decide +kernel
theorem md_Mc_nearer : y_Mc_nearer.cls ≠ "java/lang/invoke/MethodHandle" ∧ y_Mc_nearer.cls ≠ "java/lang/invoke/VarHandle" ∧ (parseMethodDescriptor y_Mc_nearer.desc).map (fun d => d.parameters.length) = some 3 := by decide +kernel
theorem md_Mc_runJobs : y_Mc_runJobs.cls ≠ "java/lang/invoke/MethodHandle" ∧ y_Mc_runJobs.cls ≠ "java/lang/invoke/VarHandle" ∧ (parseMethodDescriptor y_Mc_runJobs.desc).map (fun d => d.parameters.length) = some 1 := by decide +kernel
theorem md_Mc_runOne : y_Mc_runOne.cls ≠ "java/lang/invoke/MethodHandle" ∧ y_Mc_runOne.cls ≠ "java/lang/invoke/VarHandle" ∧ (parseMethodDescriptor y_Mc_runOne.desc).map (fun d => d.parameters.length) = some 2 := by decide +kernel
theorem md_Mc_halveUse : y_Mc_halveUse.cls ≠ "java/lang/invoke/MethodHandle" ∧ y_Mc_halveUse.cls ≠ "java/lang/invoke/VarHandle" ∧ (parseMethodDescriptor y_Mc_halveUse.desc).map (fun d => d.parameters.length) = some 0 := by decide +kernel
theorem md_Gm_told : y_Gm_told.cls ≠ "java/lang/invoke/MethodHandle" ∧ y_Gm_told.cls ≠ "java/lang/invoke/VarHandle" ∧ (parseMethodDescriptor y_Gm_told.desc).map (fun d => d.parameters.length) = some 2 := by decide +kernel
theorem md_Jb_racksHeld : y_Jb_racksHeld.cls ≠ "java/lang/invoke/MethodHandle" ∧ y_Jb_racksHeld.cls ≠ "java/lang/invoke/VarHandle" ∧ (parseMethodDescriptor y_Jb_racksHeld.desc).map (fun d => d.parameters.length) = some 0 := by decide +kernel
theorem md_Gm_on : y_Gm_on.cls ≠ "java/lang/invoke/MethodHandle" ∧ y_Gm_on.cls ≠ "java/lang/invoke/VarHandle" ∧ (parseMethodDescriptor y_Gm_on.desc).map (fun d => d.parameters.length) = some 2 := by decide +kernel
theorem md_Gm_free : y_Gm_free.cls ≠ "java/lang/invoke/MethodHandle" ∧ y_Gm_free.cls ≠ "java/lang/invoke/VarHandle" ∧ (parseMethodDescriptor y_Gm_free.desc).map (fun d => d.parameters.length) = some 1 := by decide +kernel
theorem md_Gm_used : y_Gm_used.cls ≠ "java/lang/invoke/MethodHandle" ∧ y_Gm_used.cls ≠ "java/lang/invoke/VarHandle" ∧ (parseMethodDescriptor y_Gm_used.desc).map (fun d => d.parameters.length) = some 1 := by decide +kernel
theorem md_Gm_blocked : y_Gm_blocked.cls ≠ "java/lang/invoke/MethodHandle" ∧ y_Gm_blocked.cls ≠ "java/lang/invoke/VarHandle" ∧ (parseMethodDescriptor y_Gm_blocked.desc).map (fun d => d.parameters.length) = some 1 := by decide +kernel
theorem md_Gm_taken : y_Gm_taken.cls ≠ "java/lang/invoke/MethodHandle" ∧ y_Gm_taken.cls ≠ "java/lang/invoke/VarHandle" ∧ (parseMethodDescriptor y_Gm_taken.desc).map (fun d => d.parameters.length) = some 2 := by decide +kernel
theorem md_Gm_foreseen : y_Gm_foreseen.cls ≠ "java/lang/invoke/MethodHandle" ∧ y_Gm_foreseen.cls ≠ "java/lang/invoke/VarHandle" ∧ (parseMethodDescriptor y_Gm_foreseen.desc).map (fun d => d.parameters.length) = some 1 := by decide +kernel
theorem md_Mc_become : y_Mc_become.cls ≠ "java/lang/invoke/MethodHandle" ∧ y_Mc_become.cls ≠ "java/lang/invoke/VarHandle" ∧ (parseMethodDescriptor y_Mc_become.desc).map (fun d => d.parameters.length) = some 1 := by decide +kernel
theorem md_Rk_become : y_Rk_become.cls ≠ "java/lang/invoke/MethodHandle" ∧ y_Rk_become.cls ≠ "java/lang/invoke/VarHandle" ∧ (parseMethodDescriptor y_Rk_become.desc).map (fun d => d.parameters.length) = some 1 := by decide +kernel
theorem md_Ac_become : y_Ac_become.cls ≠ "java/lang/invoke/MethodHandle" ∧ y_Ac_become.cls ≠ "java/lang/invoke/VarHandle" ∧ (parseMethodDescriptor y_Ac_become.desc).map (fun d => d.parameters.length) = some 1 := by decide +kernel
theorem md_Jb_become : y_Jb_become.cls ≠ "java/lang/invoke/MethodHandle" ∧ y_Jb_become.cls ≠ "java/lang/invoke/VarHandle" ∧ (parseMethodDescriptor y_Jb_become.desc).map (fun d => d.parameters.length) = some 1 := by decide +kernel
theorem md_Gm_count : y_Gm_count.cls ≠ "java/lang/invoke/MethodHandle" ∧ y_Gm_count.cls ≠ "java/lang/invoke/VarHandle" ∧ (parseMethodDescriptor y_Gm_count.desc).map (fun d => d.parameters.length) = some 1 := by decide +kernel
theorem md_Mc_jobsThatAre : y_Mc_jobsThatAre.cls ≠ "java/lang/invoke/MethodHandle" ∧ y_Mc_jobsThatAre.cls ≠ "java/lang/invoke/VarHandle" ∧ (parseMethodDescriptor y_Mc_jobsThatAre.desc).map (fun d => d.parameters.length) = some 1 := by decide +kernel
theorem md_Md_rack : y_Md_rack.cls ≠ "java/lang/invoke/MethodHandle" ∧ y_Md_rack.cls ≠ "java/lang/invoke/VarHandle" ∧ (parseMethodDescriptor y_Md_rack.desc).map (fun d => d.parameters.length) = some 1 := by decide +kernel
theorem md_Md_in : y_Md_in.cls ≠ "java/lang/invoke/MethodHandle" ∧ y_Md_in.cls ≠ "java/lang/invoke/VarHandle" ∧ (parseMethodDescriptor y_Md_in.desc).map (fun d => d.parameters.length) = some 3 := by decide +kernel
theorem md_Md_drain : y_Md_drain.cls ≠ "java/lang/invoke/MethodHandle" ∧ y_Md_drain.cls ≠ "java/lang/invoke/VarHandle" ∧ (parseMethodDescriptor y_Md_drain.desc).map (fun d => d.parameters.length) = some 2 := by decide +kernel
theorem md_Md_isRack : y_Md_isRack.cls ≠ "java/lang/invoke/MethodHandle" ∧ y_Md_isRack.cls ≠ "java/lang/invoke/VarHandle" ∧ (parseMethodDescriptor y_Md_isRack.desc).map (fun d => d.parameters.length) = some 1 := by decide +kernel
theorem md_Md_fail : y_Md_fail.cls ≠ "java/lang/invoke/MethodHandle" ∧ y_Md_fail.cls ≠ "java/lang/invoke/VarHandle" ∧ (parseMethodDescriptor y_Md_fail.desc).map (fun d => d.parameters.length) = some 1 := by decide +kernel
theorem md_Md_leave : y_Md_leave.cls ≠ "java/lang/invoke/MethodHandle" ∧ y_Md_leave.cls ≠ "java/lang/invoke/VarHandle" ∧ (parseMethodDescriptor y_Md_leave.desc).map (fun d => d.parameters.length) = some 1 := by decide +kernel
theorem md_Md_licences : y_Md_licences.cls ≠ "java/lang/invoke/MethodHandle" ∧ y_Md_licences.cls ≠ "java/lang/invoke/VarHandle" ∧ (parseMethodDescriptor y_Md_licences.desc).map (fun d => d.parameters.length) = some 1 := by decide +kernel
theorem md_Md_half : y_Md_half.cls ≠ "java/lang/invoke/MethodHandle" ∧ y_Md_half.cls ≠ "java/lang/invoke/VarHandle" ∧ (parseMethodDescriptor y_Md_half.desc).map (fun d => d.parameters.length) = some 1 := by decide +kernel
theorem md_Md_account : y_Md_account.cls ≠ "java/lang/invoke/MethodHandle" ∧ y_Md_account.cls ≠ "java/lang/invoke/VarHandle" ∧ (parseMethodDescriptor y_Md_account.desc).map (fun d => d.parameters.length) = some 1 := by decide +kernel
theorem md_Md_job : y_Md_job.cls ≠ "java/lang/invoke/MethodHandle" ∧ y_Md_job.cls ≠ "java/lang/invoke/VarHandle" ∧ (parseMethodDescriptor y_Md_job.desc).map (fun d => d.parameters.length) = some 6 := by decide +kernel
theorem md_Md_behind : y_Md_behind.cls ≠ "java/lang/invoke/MethodHandle" ∧ y_Md_behind.cls ≠ "java/lang/invoke/VarHandle" ∧ (parseMethodDescriptor y_Md_behind.desc).map (fun d => d.parameters.length) = some 2 := by decide +kernel
theorem md_Md_isJob : y_Md_isJob.cls ≠ "java/lang/invoke/MethodHandle" ∧ y_Md_isJob.cls ≠ "java/lang/invoke/VarHandle" ∧ (parseMethodDescriptor y_Md_isJob.desc).map (fun d => d.parameters.length) = some 1 := by decide +kernel
theorem md_Md_cancel : y_Md_cancel.cls ≠ "java/lang/invoke/MethodHandle" ∧ y_Md_cancel.cls ≠ "java/lang/invoke/VarHandle" ∧ (parseMethodDescriptor y_Md_cancel.desc).map (fun d => d.parameters.length) = some 1 := by decide +kernel
theorem md_Md_book : y_Md_book.cls ≠ "java/lang/invoke/MethodHandle" ∧ y_Md_book.cls ≠ "java/lang/invoke/VarHandle" ∧ (parseMethodDescriptor y_Md_book.desc).map (fun d => d.parameters.length) = some 3 := by decide +kernel
theorem md_Md_room : y_Md_room.cls ≠ "java/lang/invoke/MethodHandle" ∧ y_Md_room.cls ≠ "java/lang/invoke/VarHandle" ∧ (parseMethodDescriptor y_Md_room.desc).map (fun d => d.parameters.length) = some 0 := by decide +kernel
theorem md_Md_takenNodes : y_Md_takenNodes.cls ≠ "java/lang/invoke/MethodHandle" ∧ y_Md_takenNodes.cls ≠ "java/lang/invoke/VarHandle" ∧ (parseMethodDescriptor y_Md_takenNodes.desc).map (fun d => d.parameters.length) = some 1 := by decide +kernel
theorem md_Md_runsAt : y_Md_runsAt.cls ≠ "java/lang/invoke/MethodHandle" ∧ y_Md_runsAt.cls ≠ "java/lang/invoke/VarHandle" ∧ (parseMethodDescriptor y_Md_runsAt.desc).map (fun d => d.parameters.length) = some 2 := by decide +kernel
theorem md_Md_unbook : y_Md_unbook.cls ≠ "java/lang/invoke/MethodHandle" ∧ y_Md_unbook.cls ≠ "java/lang/invoke/VarHandle" ∧ (parseMethodDescriptor y_Md_unbook.desc).map (fun d => d.parameters.length) = some 1 := by decide +kernel
theorem md_Md_ticks : y_Md_ticks.cls ≠ "java/lang/invoke/MethodHandle" ∧ y_Md_ticks.cls ≠ "java/lang/invoke/VarHandle" ∧ (parseMethodDescriptor y_Md_ticks.desc).map (fun d => d.parameters.length) = some 1 := by decide +kernel
theorem md_Md_tick : y_Md_tick.cls ≠ "java/lang/invoke/MethodHandle" ∧ y_Md_tick.cls ≠ "java/lang/invoke/VarHandle" ∧ (parseMethodDescriptor y_Md_tick.desc).map (fun d => d.parameters.length) = some 0 := by decide +kernel
theorem md_Md_findQueue : y_Md_findQueue.cls ≠ "java/lang/invoke/MethodHandle" ∧ y_Md_findQueue.cls ≠ "java/lang/invoke/VarHandle" ∧ (parseMethodDescriptor y_Md_findQueue.desc).map (fun d => d.parameters.length) = some 0 := by decide +kernel
theorem md_Md_isAhead : y_Md_isAhead.cls ≠ "java/lang/invoke/MethodHandle" ∧ y_Md_isAhead.cls ≠ "java/lang/invoke/VarHandle" ∧ (parseMethodDescriptor y_Md_isAhead.desc).map (fun d => d.parameters.length) = some 2 := by decide +kernel
theorem md_Md_findTaken : y_Md_findTaken.cls ≠ "java/lang/invoke/MethodHandle" ∧ y_Md_findTaken.cls ≠ "java/lang/invoke/VarHandle" ∧ (parseMethodDescriptor y_Md_findTaken.desc).map (fun d => d.parameters.length) = some 0 := by decide +kernel
theorem md_Md_fits : y_Md_fits.cls ≠ "java/lang/invoke/MethodHandle" ∧ y_Md_fits.cls ≠ "java/lang/invoke/VarHandle" ∧ (parseMethodDescriptor y_Md_fits.desc).map (fun d => d.parameters.length) = some 3 := by decide +kernel
theorem md_Md_leftOf : y_Md_leftOf.cls ≠ "java/lang/invoke/MethodHandle" ∧ y_Md_leftOf.cls ≠ "java/lang/invoke/VarHandle" ∧ (parseMethodDescriptor y_Md_leftOf.desc).map (fun d => d.parameters.length) = some 1 := by decide +kernel
theorem md_Md_begin : y_Md_begin.cls ≠ "java/lang/invoke/MethodHandle" ∧ y_Md_begin.cls ≠ "java/lang/invoke/VarHandle" ∧ (parseMethodDescriptor y_Md_begin.desc).map (fun d => d.parameters.length) = some 1 := by decide +kernel
theorem md_Md_freeOn : y_Md_freeOn.cls ≠ "java/lang/invoke/MethodHandle" ∧ y_Md_freeOn.cls ≠ "java/lang/invoke/VarHandle" ∧ (parseMethodDescriptor y_Md_freeOn.desc).map (fun d => d.parameters.length) = some 1 := by decide +kernel
theorem md_Md_told : y_Md_told.cls ≠ "java/lang/invoke/MethodHandle" ∧ y_Md_told.cls ≠ "java/lang/invoke/VarHandle" ∧ (parseMethodDescriptor y_Md_told.desc).map (fun d => d.parameters.length) = some 2 := by decide +kernel
theorem md_Md_on : y_Md_on.cls ≠ "java/lang/invoke/MethodHandle" ∧ y_Md_on.cls ≠ "java/lang/invoke/VarHandle" ∧ (parseMethodDescriptor y_Md_on.desc).map (fun d => d.parameters.length) = some 2 := by decide +kernel
theorem md_Md_free : y_Md_free.cls ≠ "java/lang/invoke/MethodHandle" ∧ y_Md_free.cls ≠ "java/lang/invoke/VarHandle" ∧ (parseMethodDescriptor y_Md_free.desc).map (fun d => d.parameters.length) = some 1 := by decide +kernel
theorem md_Md_used : y_Md_used.cls ≠ "java/lang/invoke/MethodHandle" ∧ y_Md_used.cls ≠ "java/lang/invoke/VarHandle" ∧ (parseMethodDescriptor y_Md_used.desc).map (fun d => d.parameters.length) = some 1 := by decide +kernel
theorem md_Md_blocked : y_Md_blocked.cls ≠ "java/lang/invoke/MethodHandle" ∧ y_Md_blocked.cls ≠ "java/lang/invoke/VarHandle" ∧ (parseMethodDescriptor y_Md_blocked.desc).map (fun d => d.parameters.length) = some 1 := by decide +kernel
theorem md_Md_taken : y_Md_taken.cls ≠ "java/lang/invoke/MethodHandle" ∧ y_Md_taken.cls ≠ "java/lang/invoke/VarHandle" ∧ (parseMethodDescriptor y_Md_taken.desc).map (fun d => d.parameters.length) = some 2 := by decide +kernel
theorem md_Md_takenLicences : y_Md_takenLicences.cls ≠ "java/lang/invoke/MethodHandle" ∧ y_Md_takenLicences.cls ≠ "java/lang/invoke/VarHandle" ∧ (parseMethodDescriptor y_Md_takenLicences.desc).map (fun d => d.parameters.length) = some 1 := by decide +kernel
theorem md_Md_foreseen : y_Md_foreseen.cls ≠ "java/lang/invoke/MethodHandle" ∧ y_Md_foreseen.cls ≠ "java/lang/invoke/VarHandle" ∧ (parseMethodDescriptor y_Md_foreseen.desc).map (fun d => d.parameters.length) = some 1 := by decide +kernel
theorem md_Md_keep : y_Md_keep.cls ≠ "java/lang/invoke/MethodHandle" ∧ y_Md_keep.cls ≠ "java/lang/invoke/VarHandle" ∧ (parseMethodDescriptor y_Md_keep.desc).map (fun d => d.parameters.length) = some 0 := by decide +kernel
theorem md_Md_putBack : y_Md_putBack.cls ≠ "java/lang/invoke/MethodHandle" ∧ y_Md_putBack.cls ≠ "java/lang/invoke/VarHandle" ∧ (parseMethodDescriptor y_Md_putBack.desc).map (fun d => d.parameters.length) = some 0 := by decide +kernel
theorem md_Md_count : y_Md_count.cls ≠ "java/lang/invoke/MethodHandle" ∧ y_Md_count.cls ≠ "java/lang/invoke/VarHandle" ∧ (parseMethodDescriptor y_Md_count.desc).map (fun d => d.parameters.length) = some 1 := by decide +kernel
end
section
/-! PURE WORDS -/
def b2i (p : Prop) [Decidable p] : Int := if p then 1 else 0
def sumN (f : Nat → Int) : Nat → Int
  | 0 => 0
  | n + 1 => sumN f n + f n
theorem sumN_s (f : Nat → Int) (n : Nat) : sumN f (n + 1) = sumN f n + f n := rfl
theorem sumN_0 (f : Nat → Int) : sumN f 0 = 0 := rfl
theorem sumN_bd {f : Nat → Int} {lo hi : Int} : ∀ {n : Nat}, (∀ i, i < n → lo ≤ f i ∧ f i ≤ hi) → (n : Int) * lo ≤ sumN f n ∧ sumN f n ≤ (n : Int) * hi := by
  intro n
  induction n with
  | zero => intro _; simp [sumN]
  | succ n ih =>
    intro h
    have h1 := ih (fun i hi => h i (by omega))
    have h2 := h n (by omega)
    have e1 : ((n + 1 : Nat) : Int) * lo = (n : Int) * lo + lo := by rw [Int.natCast_add, Int.add_mul]; simp
    have e2 : ((n + 1 : Nat) : Int) * hi = (n : Int) * hi + hi := by rw [Int.natCast_add, Int.add_mul]; simp
    rw [sumN_s, e1, e2]
    omega
theorem sumN_congr {f g : Nat → Int} : ∀ {n : Nat}, (∀ i, i < n → f i = g i) → sumN f n = sumN g n := by
  intro n
  induction n with
  | zero => intro _; rfl
  | succ n ih => intro h; rw [sumN_s, sumN_s, ih (fun i hi => h i (by omega)), h n (by omega)]
theorem sumN_nn {f : Nat → Int} {n : Nat} (h : ∀ i, i < n → 0 ≤ f i) : 0 ≤ sumN f n := by
  induction n with
  | zero => simp [sumN]
  | succ n ih => rw [sumN_s]; have h1 := ih (fun i hi => h i (by omega)); have h2 := h n (by omega); omega
theorem sumN_up {f : Nat → Int} {n : Nat} {c : Int} (h : ∀ i, i < n → f i ≤ c) : sumN f n ≤ n * c := by
  induction n with
  | zero => simp [sumN]
  | succ n ih =>
    rw [sumN_s]
    have h1 := ih (fun i hi => h i (by omega)); have h2 := h n (by omega)
    have e2 : ((n + 1 : Nat) : Int) * c = (n : Int) * c + c := by rw [Int.natCast_add, Int.add_mul]; simp
    rw [e2]; omega
/-- the bounds of every int of a table, but USED -/
def lo (f : Nat) : Int := if f = 8 ∨ f = 9 ∨ f = 23 ∨ f = 25 ∨ f = 26 ∨ f = 42 ∨ f = 43 then -1 else 0
def hi (f : Nat) : Int := [4, 6, 30, 9, 3000, 1000, 100, 64, 29, 3000, 30, 29, 16, 16, 1, 100, 0, 5, 64, 100, 50, 50, 50, 29, 3, 3000, 3000, 50, 64, 3100, 16, 64, 100, 3000, 3100, 50, 50, 50, 1, 4000, 4000, 3, 3000, 3000, 50, 50, 16, 0, 64].getD f 16
def Bd (t : TT) : Prop := ∀ f i, (f ≠ 16 ∧ f ≠ 47) → lo f ≤ t f i ∧ t f i ≤ hi f
theorem hi_up (f : Nat) : hi f ≤ 4000 := by
  unfold hi
  by_cases h : f < 49
  · have : ∀ f, f < 49 → [4, 6, 30, 9, 3000, 1000, 100, 64, 29, 3000, 30, 29, 16, 16, 1, 100, 0, 5, 64, 100, 50, 50, 50, 29, 3, 3000, 3000, 50, 64, 3100, 16, 64, 100, 3000, 3100, 50, 50, 50, 1, 4000, 4000, 3, 3000, 3000, 50, 50, 16, 0, 64].getD f (16 : Int) ≤ 4000 := by decide +kernel
    exact this f h
  · rw [List.getD_eq_getElem?_getD, List.getElem?_eq_none (by simp; omega)]; decide
theorem lo_dn (f : Nat) : -1 ≤ lo f := by unfold lo; split <;> decide
def fok (f : Nat) : Bool := f != 16 && f != 47
theorem bd_ir {t : TT} {f i : Nat} (hB : Bd t) (hf : fok f = true) : ir (t f i) := by
  have h := hB f i (by simp [fok] at hf; exact hf)
  have h1 := hi_up f
  have h2 := lo_dn f
  exact ⟨by omega, by omega⟩
theorem bd_tu {t : TT} {f i : Nat} {x : Int} (hB : Bd t) (h : (f ≠ 16 ∧ f ≠ 47) → lo f ≤ x ∧ x ≤ hi f) : Bd (tu t f i x) := by
  intro a b hab
  unfold tu
  split
  · rename_i q; rw [q.1]; exact h (by rw [← q.1]; exact hab)
  · exact hB a b hab
theorem bdOn {t : TT} (hB : Bd t) (j r : Nat) : 0 ≤ t (100 + j) r ∧ t (100 + j) r ≤ 16 := by
  have h := hB (100 + j) r (by omega)
  have e1 : lo (100 + j) = 0 := by unfold lo; rw [if_neg (by omega)]
  have e2 : hi (100 + j) = 16 := by
    unfold hi; rw [List.getD_eq_getElem?_getD, List.getElem?_eq_none (by simp; omega)]; rfl
  rw [e1, e2] at h; exact h
theorem bdOn_ir {t : TT} (hB : Bd t) (j r : Nat) : ir (t (100 + j) r) := by have := bdOn hB j r; exact ⟨by omega, by omega⟩

theorem bd0 {t : TT} (hB : Bd t) (i : Nat) : 0 ≤ t 0 i ∧ t 0 i ≤ 4 := hB 0 i (by decide)
theorem bd1 {t : TT} (hB : Bd t) (i : Nat) : 0 ≤ t 1 i ∧ t 1 i ≤ 6 := hB 1 i (by decide)
theorem bd2 {t : TT} (hB : Bd t) (i : Nat) : 0 ≤ t 2 i ∧ t 2 i ≤ 30 := hB 2 i (by decide)
theorem bd3 {t : TT} (hB : Bd t) (i : Nat) : 0 ≤ t 3 i ∧ t 3 i ≤ 9 := hB 3 i (by decide)
theorem bd4 {t : TT} (hB : Bd t) (i : Nat) : 0 ≤ t 4 i ∧ t 4 i ≤ 3000 := hB 4 i (by decide)
theorem bd5 {t : TT} (hB : Bd t) (i : Nat) : 0 ≤ t 5 i ∧ t 5 i ≤ 1000 := hB 5 i (by decide)
theorem bd6 {t : TT} (hB : Bd t) (i : Nat) : 0 ≤ t 6 i ∧ t 6 i ≤ 100 := hB 6 i (by decide)
theorem bd7 {t : TT} (hB : Bd t) (i : Nat) : 0 ≤ t 7 i ∧ t 7 i ≤ 64 := hB 7 i (by decide)
theorem bd8 {t : TT} (hB : Bd t) (i : Nat) : -1 ≤ t 8 i ∧ t 8 i ≤ 29 := hB 8 i (by decide)
theorem bd9 {t : TT} (hB : Bd t) (i : Nat) : -1 ≤ t 9 i ∧ t 9 i ≤ 3000 := hB 9 i (by decide)
theorem bd10 {t : TT} (hB : Bd t) (i : Nat) : 0 ≤ t 10 i ∧ t 10 i ≤ 30 := hB 10 i (by decide)
theorem bd11 {t : TT} (hB : Bd t) (i : Nat) : 0 ≤ t 11 i ∧ t 11 i ≤ 29 := hB 11 i (by decide)
theorem bd12 {t : TT} (hB : Bd t) (i : Nat) : 0 ≤ t 12 i ∧ t 12 i ≤ 16 := hB 12 i (by decide)
theorem bd13 {t : TT} (hB : Bd t) (i : Nat) : 0 ≤ t 13 i ∧ t 13 i ≤ 16 := hB 13 i (by decide)
theorem bd14 {t : TT} (hB : Bd t) (i : Nat) : 0 ≤ t 14 i ∧ t 14 i ≤ 1 := hB 14 i (by decide)
theorem bd15 {t : TT} (hB : Bd t) (i : Nat) : 0 ≤ t 15 i ∧ t 15 i ≤ 100 := hB 15 i (by decide)
theorem bd17 {t : TT} (hB : Bd t) (i : Nat) : 0 ≤ t 17 i ∧ t 17 i ≤ 5 := hB 17 i (by decide)
theorem bd18 {t : TT} (hB : Bd t) (i : Nat) : 0 ≤ t 18 i ∧ t 18 i ≤ 64 := hB 18 i (by decide)
theorem bd19 {t : TT} (hB : Bd t) (i : Nat) : 0 ≤ t 19 i ∧ t 19 i ≤ 100 := hB 19 i (by decide)
theorem bd20 {t : TT} (hB : Bd t) (i : Nat) : 0 ≤ t 20 i ∧ t 20 i ≤ 50 := hB 20 i (by decide)
theorem bd21 {t : TT} (hB : Bd t) (i : Nat) : 0 ≤ t 21 i ∧ t 21 i ≤ 50 := hB 21 i (by decide)
theorem bd22 {t : TT} (hB : Bd t) (i : Nat) : 0 ≤ t 22 i ∧ t 22 i ≤ 50 := hB 22 i (by decide)
theorem bd23 {t : TT} (hB : Bd t) (i : Nat) : -1 ≤ t 23 i ∧ t 23 i ≤ 29 := hB 23 i (by decide)
theorem bd24 {t : TT} (hB : Bd t) (i : Nat) : 0 ≤ t 24 i ∧ t 24 i ≤ 3 := hB 24 i (by decide)
theorem bd25 {t : TT} (hB : Bd t) (i : Nat) : -1 ≤ t 25 i ∧ t 25 i ≤ 3000 := hB 25 i (by decide)
theorem bd26 {t : TT} (hB : Bd t) (i : Nat) : -1 ≤ t 26 i ∧ t 26 i ≤ 3000 := hB 26 i (by decide)
theorem bd27 {t : TT} (hB : Bd t) (i : Nat) : 0 ≤ t 27 i ∧ t 27 i ≤ 50 := hB 27 i (by decide)
theorem bd28 {t : TT} (hB : Bd t) (i : Nat) : 0 ≤ t 28 i ∧ t 28 i ≤ 64 := hB 28 i (by decide)
theorem bd29 {t : TT} (hB : Bd t) (i : Nat) : 0 ≤ t 29 i ∧ t 29 i ≤ 3100 := hB 29 i (by decide)
theorem bd30 {t : TT} (hB : Bd t) (i : Nat) : 0 ≤ t 30 i ∧ t 30 i ≤ 16 := hB 30 i (by decide)
theorem bd31 {t : TT} (hB : Bd t) (i : Nat) : 0 ≤ t 31 i ∧ t 31 i ≤ 64 := hB 31 i (by decide)
theorem bd32 {t : TT} (hB : Bd t) (i : Nat) : 0 ≤ t 32 i ∧ t 32 i ≤ 100 := hB 32 i (by decide)
theorem bd33 {t : TT} (hB : Bd t) (i : Nat) : 0 ≤ t 33 i ∧ t 33 i ≤ 3000 := hB 33 i (by decide)
theorem bd34 {t : TT} (hB : Bd t) (i : Nat) : 0 ≤ t 34 i ∧ t 34 i ≤ 3100 := hB 34 i (by decide)
theorem bd35 {t : TT} (hB : Bd t) (i : Nat) : 0 ≤ t 35 i ∧ t 35 i ≤ 50 := hB 35 i (by decide)
theorem bd36 {t : TT} (hB : Bd t) (i : Nat) : 0 ≤ t 36 i ∧ t 36 i ≤ 50 := hB 36 i (by decide)
theorem bd37 {t : TT} (hB : Bd t) (i : Nat) : 0 ≤ t 37 i ∧ t 37 i ≤ 50 := hB 37 i (by decide)
theorem bd38 {t : TT} (hB : Bd t) (i : Nat) : 0 ≤ t 38 i ∧ t 38 i ≤ 1 := hB 38 i (by decide)
theorem bd39 {t : TT} (hB : Bd t) (i : Nat) : 0 ≤ t 39 i ∧ t 39 i ≤ 4000 := hB 39 i (by decide)
theorem bd40 {t : TT} (hB : Bd t) (i : Nat) : 0 ≤ t 40 i ∧ t 40 i ≤ 4000 := hB 40 i (by decide)
theorem bd41 {t : TT} (hB : Bd t) (i : Nat) : 0 ≤ t 41 i ∧ t 41 i ≤ 3 := hB 41 i (by decide)
theorem bd42 {t : TT} (hB : Bd t) (i : Nat) : -1 ≤ t 42 i ∧ t 42 i ≤ 3000 := hB 42 i (by decide)
theorem bd43 {t : TT} (hB : Bd t) (i : Nat) : -1 ≤ t 43 i ∧ t 43 i ≤ 3000 := hB 43 i (by decide)
theorem bd44 {t : TT} (hB : Bd t) (i : Nat) : 0 ≤ t 44 i ∧ t 44 i ≤ 50 := hB 44 i (by decide)
theorem bd45 {t : TT} (hB : Bd t) (i : Nat) : 0 ≤ t 45 i ∧ t 45 i ≤ 50 := hB 45 i (by decide)
theorem bd46 {t : TT} (hB : Bd t) (i : Nat) : 0 ≤ t 46 i ∧ t 46 i ≤ 16 := hB 46 i (by decide)
theorem bd48 {t : TT} (hB : Bd t) (i : Nat) : 0 ≤ t 48 i ∧ t 48 i ≤ 64 := hB 48 i (by decide)
def wr (e : Int) : Int := (Int32.ofInt e).toInt
theorem wr_id {e : Int} (h : ir e) : wr e = e := ir_to h
section MORE
variable {g : WW → Nat → LL → List Value → Prop} {own : String} {cc : ByteArray} {nL h : Nat} {l : Launch} {E : Ew} {S : WW} {pc : Nat} {L : LL} {st : List Value}
theorem r_irem (C : Cw g own cc nL h l E) {a b : Int} (d : decode cc pc = .ok (.irem, 1)) (h1 : 0 ≤ a ∧ a ≤ 2147483647) (h2 : 0 < b ∧ b ≤ 2147483647) (kk : g S (pc + 1) L (iv (a % b) :: st)) : g S pc L (iv b :: iv a :: st) := by
  obtain ⟨p, e0, R, s, mi, args, below, meth, c, cells, slots, Q, A, H0, D, ⟨hx, hb, hml, hown, hts⟩, hE, hA, hK, hR, hg⟩ := C
  refine (hg _ _ _ _).mpr fun H locs ls hP hS hL => ?_
  obtain ⟨x, rfl⟩ := Int.eq_ofNat_of_zero_le h1.1
  obtain ⟨y, rfl⟩ := Int.eq_ofNat_of_zero_le (show 0 ≤ b by omega)
  refine lv_irem hx hb d ?_ ?_
  · intro hz
    have := (ir_eq (a := (y : Int)) (b := 0) ⟨by omega, by omega⟩ ir_0).mp hz
    omega
  · have e1 : Int32.ofInt (x : Int) - Int32.ofInt (x : Int) / Int32.ofInt (y : Int) * Int32.ofInt (y : Int) = Int32.ofInt ((x : Int) % (y : Int)) := by
      have h3 := pk_rem (a := x) (d := y) (by omega) (by omega) (by omega)
      have hn : ∀ n : Nat, nI n = Int32.ofInt (n : Int) := fun n => rfl
      rw [hn, hn, hn] at h3
      rw [h3]; rfl
    rw [e1]
    exact (hg _ _ _ _).mp kk H locs ls hP hS hL
theorem r_idiv2 (C : Cw g own cc nL h l E) {a : Int} (d : decode cc pc = .ok (.idiv, 1)) (kk : g S (pc + 1) L (iv ((wr a).tdiv 2) :: st)) : g S pc L (iv 2 :: iv a :: st) := by
  obtain ⟨p, e0, R, s, mi, args, below, meth, c, cells, slots, Q, A, H0, D, ⟨hx, hb, hml, hown, hts⟩, hE, hA, hK, hR, hg⟩ := C
  refine (hg _ _ _ _).mpr fun H locs ls hP hS hL => ?_
  refine lv_idiv hx hb d (by decide) ?_
  have h4 : ir ((wr a).tdiv 2) := by
    have h2 := ir_of (Int32.ofInt a)
    have h5 : (Int32.ofInt a).toInt = wr a := rfl
    rw [h5] at h2
    unfold ir at h2 ⊢
    generalize wr a = w at h2 ⊢
    by_cases hz : 0 ≤ w
    · rw [Int.tdiv_eq_ediv_of_nonneg hz]; omega
    · rw [show w = -(-w) by omega, Int.neg_tdiv, Int.tdiv_eq_ediv_of_nonneg (show 0 ≤ -w by omega)]; omega
  have e1 : Int32.ofInt a / Int32.ofInt 2 = Int32.ofInt ((wr a).tdiv 2) := by
    rw [← Int32.toInt_inj, Int32.toInt_div_of_ne_right _ _ (by decide), show (Int32.ofInt 2).toInt = 2 by decide, ir_to h4]
    rfl
  rw [e1]
  exact (hg _ _ _ _).mp kk H locs ls hP hS hL
theorem bt_shl : ∀ n : Nat, n < 5 → (Int32.ofInt 1) <<< (Int32.ofInt (n : Int) &&& 31) = Int32.ofInt ((2 ^ n : Nat) : Int) := by decide +kernel
theorem bt_shr : ∀ a : Nat, a < 16 → ∀ n : Nat, n < 4 → (Int32.ofInt (a : Int)) >>> (Int32.ofInt (n : Int) &&& 31) = Int32.ofInt ((a >>> n : Nat) : Int) := by decide +kernel
theorem bt_and : ∀ a : Nat, a < 16 → (Int32.ofInt (a : Int)) &&& (Int32.ofInt 1) = Int32.ofInt ((a % 2 : Nat) : Int) := by decide +kernel
theorem r_ishl (C : Cw g own cc nL h l E) {e : Int} (n : Nat) (he : e = (n : Int)) (hn : n < 5) (d : decode cc pc = .ok (.ishl, 1)) (kk : g S (pc + 1) L (iv ((2 ^ n : Nat) : Int) :: st)) : g S pc L (iv e :: iv 1 :: st) := by
  obtain ⟨p, e0, R, s, mi, args, below, meth, c, cells, slots, Q, A, H0, D, ⟨hx, hb, hml, hown, hts⟩, hE, hA, hK, hR, hg⟩ := C
  refine (hg _ _ _ _).mpr fun H locs ls hP hS hL => ?_
  subst he
  refine lv_ishl hx hb d ?_
  rw [bt_shl n hn]
  exact (hg _ _ _ _).mp kk H locs ls hP hS hL
theorem r_ishr (C : Cw g own cc nL h l E) {a n : Nat} (ha : a < 16) (hn : n < 4) (d : decode cc pc = .ok (.ishr, 1)) (kk : g S (pc + 1) L (iv ((a >>> n : Nat) : Int) :: st)) : g S pc L (iv (n : Int) :: iv (a : Int) :: st) := by
  obtain ⟨p, e0, R, s, mi, args, below, meth, c, cells, slots, Q, A, H0, D, ⟨hx, hb, hml, hown, hts⟩, hE, hA, hK, hR, hg⟩ := C
  refine (hg _ _ _ _).mpr fun H locs ls hP hS hL => ?_
  refine lv_ishr hx hb d ?_
  rw [bt_shr a ha n hn]
  exact (hg _ _ _ _).mp kk H locs ls hP hS hL
theorem shr_lt {a n : Nat} (ha : a < 16) : a >>> n < 16 := by
  rw [Nat.shiftRight_eq_div_pow]; exact Nat.lt_of_le_of_lt (Nat.div_le_self _ _) ha
theorem r_iand (C : Cw g own cc nL h l E) {a n : Nat} (ha : a < 16) (d : decode cc pc = .ok (.iand, 1)) (kk : g S (pc + 1) L (iv (((a >>> n) % 2 : Nat) : Int) :: st)) : g S pc L (iv 1 :: iv ((a >>> n : Nat) : Int) :: st) := by
  obtain ⟨p, e0, R, s, mi, args, below, meth, c, cells, slots, Q, A, H0, D, ⟨hx, hb, hml, hown, hts⟩, hE, hA, hK, hR, hg⟩ := C
  refine (hg _ _ _ _).mpr fun H locs ls hP hS hL => ?_
  refine lv_iand hx hb d ?_
  rw [bt_and _ (shr_lt ha)]
  exact (hg _ _ _ _).mp kk H locs ls hP hS hL
end MORE

theorem lw_Math_s : Cond.static Lib.Math.min.name ∈ lw_w := mw_ (List.mem_of_getElem? (i := 431) (by decide +kernel)) rfl
theorem lw_Math_i : Cond.initialized "java/lang/Math" ∈ lw_w := mw_ (List.mem_of_getElem? (i := 26) (by decide +kernel)) rfl
theorem lw_Math_c : Cond.code Lib.Math.min.name Lib.Math.min.code 2 (some .int) ∈ lw_w := mw_ (List.mem_of_getElem? (i := 432) (by decide +kernel)) rfl
end
