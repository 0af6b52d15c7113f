section
-- ===== PART A: goes FIRST, ahead of the names: the tables' words, and 'selects' of the private methods out of them =====
/-- a private method of a class that the tables say can be made, by its rows of tables_1 -/
def lw_okq (q : MethodName × Nat) : Prop := (q.1.cls ≠ "java/lang/invoke/MethodHandle" ∧ q.1.cls ≠ "java/lang/invoke/VarHandle") ∧ Cond.instantiable q.1.cls q.2 ∈ tables_1 ∧ Cond.privateMethod q.1 ∈ tables_1 ∧ Cond.instanceMethod q.1 ∈ tables_1
theorem lw_p0 : lw_okq (⟨"GreatMachineModel", "isRack", "(I)Z"⟩, 44) := ⟨⟨by decide +kernel, by decide +kernel⟩, List.mem_of_getElem? (i := 504) (by decide +kernel), List.mem_of_getElem? (i := 655) (by decide +kernel), List.mem_of_getElem? (i := 656) (by decide +kernel)⟩
theorem lw_p1 : lw_okq (⟨"GreatMachineModel", "leave", "(I)V"⟩, 44) := ⟨⟨by decide +kernel, by decide +kernel⟩, List.mem_of_getElem? (i := 504) (by decide +kernel), List.mem_of_getElem? (i := 663) (by decide +kernel), List.mem_of_getElem? (i := 664) (by decide +kernel)⟩
theorem lw_p2 : lw_okq (⟨"GreatMachineModel", "isJob", "(I)Z"⟩, 44) := ⟨⟨by decide +kernel, by decide +kernel⟩, List.mem_of_getElem? (i := 504) (by decide +kernel), List.mem_of_getElem? (i := 687) (by decide +kernel), List.mem_of_getElem? (i := 688) (by decide +kernel)⟩
theorem lw_p3 : lw_okq (⟨"GreatMachineModel", "room", "()I"⟩, 44) := ⟨⟨by decide +kernel, by decide +kernel⟩, List.mem_of_getElem? (i := 504) (by decide +kernel), List.mem_of_getElem? (i := 699) (by decide +kernel), List.mem_of_getElem? (i := 700) (by decide +kernel)⟩
theorem lw_p4 : lw_okq (⟨"GreatMachineModel", "takenNodes", "(I)I"⟩, 44) := ⟨⟨by decide +kernel, by decide +kernel⟩, List.mem_of_getElem? (i := 504) (by decide +kernel), List.mem_of_getElem? (i := 703) (by decide +kernel), List.mem_of_getElem? (i := 704) (by decide +kernel)⟩
theorem lw_p5 : lw_okq (⟨"GreatMachineModel", "runsAt", "(II)Z"⟩, 44) := ⟨⟨by decide +kernel, by decide +kernel⟩, List.mem_of_getElem? (i := 504) (by decide +kernel), List.mem_of_getElem? (i := 707) (by decide +kernel), List.mem_of_getElem? (i := 708) (by decide +kernel)⟩
theorem lw_p6 : lw_okq (⟨"GreatMachineModel", "tick", "()V"⟩, 44) := ⟨⟨by decide +kernel, by decide +kernel⟩, List.mem_of_getElem? (i := 504) (by decide +kernel), List.mem_of_getElem? (i := 719) (by decide +kernel), List.mem_of_getElem? (i := 720) (by decide +kernel)⟩
theorem lw_p7 : lw_okq (⟨"GreatMachineModel", "findQueue", "()V"⟩, 44) := ⟨⟨by decide +kernel, by decide +kernel⟩, List.mem_of_getElem? (i := 504) (by decide +kernel), List.mem_of_getElem? (i := 723) (by decide +kernel), List.mem_of_getElem? (i := 724) (by decide +kernel)⟩
theorem lw_p8 : lw_okq (⟨"GreatMachineModel", "isAhead", "(II)Z"⟩, 44) := ⟨⟨by decide +kernel, by decide +kernel⟩, List.mem_of_getElem? (i := 504) (by decide +kernel), List.mem_of_getElem? (i := 727) (by decide +kernel), List.mem_of_getElem? (i := 728) (by decide +kernel)⟩
theorem lw_p9 : lw_okq (⟨"GreatMachineModel", "findTaken", "()V"⟩, 44) := ⟨⟨by decide +kernel, by decide +kernel⟩, List.mem_of_getElem? (i := 504) (by decide +kernel), List.mem_of_getElem? (i := 731) (by decide +kernel), List.mem_of_getElem? (i := 732) (by decide +kernel)⟩
theorem lw_p10 : lw_okq (⟨"GreatMachineModel", "fits", "(IIZ)Z"⟩, 44) := ⟨⟨by decide +kernel, by decide +kernel⟩, List.mem_of_getElem? (i := 504) (by decide +kernel), List.mem_of_getElem? (i := 735) (by decide +kernel), List.mem_of_getElem? (i := 736) (by decide +kernel)⟩
theorem lw_p11 : lw_okq (⟨"GreatMachineModel", "leftOf", "(I)I"⟩, 44) := ⟨⟨by decide +kernel, by decide +kernel⟩, List.mem_of_getElem? (i := 504) (by decide +kernel), List.mem_of_getElem? (i := 739) (by decide +kernel), List.mem_of_getElem? (i := 740) (by decide +kernel)⟩
theorem lw_p12 : lw_okq (⟨"GreatMachineModel", "begin", "(I)V"⟩, 44) := ⟨⟨by decide +kernel, by decide +kernel⟩, List.mem_of_getElem? (i := 504) (by decide +kernel), List.mem_of_getElem? (i := 743) (by decide +kernel), List.mem_of_getElem? (i := 744) (by decide +kernel)⟩
theorem lw_p13 : lw_okq (⟨"GreatMachineModel", "freeOn", "(I)I"⟩, 44) := ⟨⟨by decide +kernel, by decide +kernel⟩, List.mem_of_getElem? (i := 504) (by decide +kernel), List.mem_of_getElem? (i := 747) (by decide +kernel), List.mem_of_getElem? (i := 748) (by decide +kernel)⟩
theorem lw_p14 : lw_okq (⟨"GreatMachineModel", "takenLicences", "(I)I"⟩, 44) := ⟨⟨by decide +kernel, by decide +kernel⟩, List.mem_of_getElem? (i := 504) (by decide +kernel), List.mem_of_getElem? (i := 775) (by decide +kernel), List.mem_of_getElem? (i := 776) (by decide +kernel)⟩
theorem lw_p15 : lw_okq (⟨"GreatMachineModel", "keep", "()V"⟩, 44) := ⟨⟨by decide +kernel, by decide +kernel⟩, List.mem_of_getElem? (i := 504) (by decide +kernel), List.mem_of_getElem? (i := 783) (by decide +kernel), List.mem_of_getElem? (i := 784) (by decide +kernel)⟩
def lw_privs_1 : List (MethodName × Nat) := [(⟨"GreatMachineModel", "isRack", "(I)Z"⟩, 44), (⟨"GreatMachineModel", "leave", "(I)V"⟩, 44), (⟨"GreatMachineModel", "isJob", "(I)Z"⟩, 44), (⟨"GreatMachineModel", "room", "()I"⟩, 44), (⟨"GreatMachineModel", "takenNodes", "(I)I"⟩, 44), (⟨"GreatMachineModel", "runsAt", "(II)Z"⟩, 44), (⟨"GreatMachineModel", "tick", "()V"⟩, 44), (⟨"GreatMachineModel", "findQueue", "()V"⟩, 44), (⟨"GreatMachineModel", "isAhead", "(II)Z"⟩, 44), (⟨"GreatMachineModel", "findTaken", "()V"⟩, 44), (⟨"GreatMachineModel", "fits", "(IIZ)Z"⟩, 44), (⟨"GreatMachineModel", "leftOf", "(I)I"⟩, 44), (⟨"GreatMachineModel", "begin", "(I)V"⟩, 44), (⟨"GreatMachineModel", "freeOn", "(I)I"⟩, 44), (⟨"GreatMachineModel", "takenLicences", "(I)I"⟩, 44), (⟨"GreatMachineModel", "keep", "()V"⟩, 44)]
theorem lw_r1 : ∀ q ∈ lw_privs_1, lw_okq q := List.forall_mem_cons.mpr ⟨lw_p0, List.forall_mem_cons.mpr ⟨lw_p1, List.forall_mem_cons.mpr ⟨lw_p2, List.forall_mem_cons.mpr ⟨lw_p3, List.forall_mem_cons.mpr ⟨lw_p4, List.forall_mem_cons.mpr ⟨lw_p5, List.forall_mem_cons.mpr ⟨lw_p6, List.forall_mem_cons.mpr ⟨lw_p7, List.forall_mem_cons.mpr ⟨lw_p8, List.forall_mem_cons.mpr ⟨lw_p9, List.forall_mem_cons.mpr ⟨lw_p10, List.forall_mem_cons.mpr ⟨lw_p11, List.forall_mem_cons.mpr ⟨lw_p12, List.forall_mem_cons.mpr ⟨lw_p13, List.forall_mem_cons.mpr ⟨lw_p14, List.forall_mem_cons.mpr ⟨lw_p15, fun _ h => absurd h List.not_mem_nil⟩⟩⟩⟩⟩⟩⟩⟩⟩⟩⟩⟩⟩⟩⟩⟩
theorem lw_p16 : lw_okq (⟨"GreatMachineModel", "putBack", "()V"⟩, 44) := ⟨⟨by decide +kernel, by decide +kernel⟩, List.mem_of_getElem? (i := 504) (by decide +kernel), List.mem_of_getElem? (i := 787) (by decide +kernel), List.mem_of_getElem? (i := 788) (by decide +kernel)⟩
def lw_privs_2 : List (MethodName × Nat) := [(⟨"GreatMachineModel", "putBack", "()V"⟩, 44)]
theorem lw_r2 : ∀ q ∈ lw_privs_2, lw_okq q := List.forall_mem_cons.mpr ⟨lw_p16, fun _ h => absurd h List.not_mem_nil⟩
def lw_privs : List (MethodName × Nat) := lw_privs_1 ++ (lw_privs_2)
def lw_tbl : List Cond := k2_sels lw_privs ++ tables_1
theorem lw_privs_ok : ∀ q ∈ lw_privs, lw_okq q := by
  show ∀ q ∈ lw_privs_1 ++ (lw_privs_2), lw_okq q
  exact List.forall_mem_append.mpr ⟨lw_r1, lw_r2⟩

def R_Ac : String := "GreatMachine$Account"
def T_Ac : u_T := fun k => match k with
  | 0 => ("GreatMachine$Account", "shares", "I", false)
  | _ => ("GreatMachine$Account", "use", "I", false)
def ty_Ac : Nat → FieldType := fun k => match k with
  | 0 => .int
  | _ => .int
theorem nm_Ac : ∀ a, a < 2 → ∀ b, b < 2 → a ≠ b → (T_Ac a).2.1 ≠ (T_Ac b).2.1 := by decide +kernel
theorem tok_Ac : ∀ k, k < 2 → parseFieldDescriptor (T_Ac k).2.2.1 = some (ty_Ac k) := by decide +kernel
theorem in_Ac : ∀ w ∈ u_ws R_Ac T_Ac 2, w ∈ lw_tbl := by decide +kernel
def R_Hd : String := "GreatMachine$Hold"
def T_Hd : u_T := fun k => match k with
  | 0 => ("GreatMachine$Hold", "nodes", "I", false)
  | 1 => ("GreatMachine$Hold", "licences", "I", false)
  | 2 => ("GreatMachine$Hold", "from", "I", false)
  | _ => ("GreatMachine$Hold", "to", "I", false)
def ty_Hd : Nat → FieldType := fun k => match k with
  | 0 => .int
  | 1 => .int
  | 2 => .int
  | _ => .int
theorem nm_Hd : ∀ a, a < 4 → ∀ b, b < 4 → a ≠ b → (T_Hd a).2.1 ≠ (T_Hd b).2.1 := by decide +kernel
theorem tok_Hd : ∀ k, k < 4 → parseFieldDescriptor (T_Hd k).2.2.1 = some (ty_Hd k) := by decide +kernel
theorem in_Hd : ∀ w ∈ u_ws R_Hd T_Hd 4, w ∈ lw_tbl := by decide +kernel
def R_Jb : String := "GreatMachine$Job"
def T_Jb : u_T := fun k => match k with
  | 0 => ("GreatMachine$Job", "account", "I", false)
  | 1 => ("GreatMachine$Job", "nodes", "I", false)
  | 2 => ("GreatMachine$Job", "licences", "I", false)
  | 3 => ("GreatMachine$Job", "limit", "I", false)
  | 4 => ("GreatMachine$Job", "truly", "I", false)
  | 5 => ("GreatMachine$Job", "save", "I", false)
  | 6 => ("GreatMachine$Job", "ahead", "I", false)
  | 7 => ("GreatMachine$Job", "state", "I", false)
  | 8 => ("GreatMachine$Job", "begun", "I", false)
  | 9 => ("GreatMachine$Job", "ended", "I", false)
  | 10 => ("GreatMachine$Job", "saved", "I", false)
  | 11 => ("GreatMachine$Job", "counted", "I", false)
  | 12 => ("GreatMachine$Job", "takesUntil", "I", false)
  | _ => ("GreatMachine$Job", "nodesOn", "[I", true)
def ty_Jb : Nat → FieldType := fun k => match k with
  | 0 => .int
  | 1 => .int
  | 2 => .int
  | 3 => .int
  | 4 => .int
  | 5 => .int
  | 6 => .int
  | 7 => .int
  | 8 => .int
  | 9 => .int
  | 10 => .int
  | 11 => .int
  | 12 => .int
  | _ => .array .int
theorem nm_Jb : ∀ a, a < 14 → ∀ b, b < 14 → a ≠ b → (T_Jb a).2.1 ≠ (T_Jb b).2.1 := by decide +kernel
theorem tok_Jb : ∀ k, k < 14 → parseFieldDescriptor (T_Jb k).2.2.1 = some (ty_Jb k) := by decide +kernel
theorem in_Jb : ∀ w ∈ u_ws R_Jb T_Jb 14, w ∈ lw_tbl := by decide +kernel
def R_Mc : String := "GreatMachine$Machine"
def T_Mc : u_T := fun k => match k with
  | 0 => ("GreatMachine$Machine", "racks", "[LGreatMachine$Rack;", true)
  | 1 => ("GreatMachine$Machine", "accounts", "[LGreatMachine$Account;", true)
  | 2 => ("GreatMachine$Machine", "jobs", "[LGreatMachine$Job;", true)
  | 3 => ("GreatMachine$Machine", "holds", "[LGreatMachine$Hold;", true)
  | 4 => ("GreatMachine$Machine", "rackCount", "I", false)
  | 5 => ("GreatMachine$Machine", "accountCount", "I", false)
  | 6 => ("GreatMachine$Machine", "jobCount", "I", false)
  | 7 => ("GreatMachine$Machine", "holdCount", "I", false)
  | 8 => ("GreatMachine$Machine", "now", "I", false)
  | 9 => ("GreatMachine$Machine", "halving", "I", false)
  | 10 => ("GreatMachine$Machine", "licencesInAll", "I", false)
  | 11 => ("GreatMachine$Machine", "room", "I", false)
  | 12 => ("GreatMachine$Machine", "blockedJob", "I", false)
  | 13 => ("GreatMachine$Machine", "keptFrom", "I", false)
  | 14 => ("GreatMachine$Machine", "queue", "[I", true)
  | _ => ("GreatMachine$Machine", "queueLength", "I", false)
def ty_Mc : Nat → FieldType := fun k => match k with
  | 0 => .array (.object "GreatMachine$Rack")
  | 1 => .array (.object "GreatMachine$Account")
  | 2 => .array (.object "GreatMachine$Job")
  | 3 => .array (.object "GreatMachine$Hold")
  | 4 => .int
  | 5 => .int
  | 6 => .int
  | 7 => .int
  | 8 => .int
  | 9 => .int
  | 10 => .int
  | 11 => .int
  | 12 => .int
  | 13 => .int
  | 14 => .array .int
  | _ => .int
theorem nm_Mc : ∀ a, a < 16 → ∀ b, b < 16 → a ≠ b → (T_Mc a).2.1 ≠ (T_Mc b).2.1 := by decide +kernel
theorem tok_Mc : ∀ k, k < 16 → parseFieldDescriptor (T_Mc k).2.2.1 = some (ty_Mc k) := by decide +kernel
theorem in_Mc : ∀ w ∈ u_ws R_Mc T_Mc 16, w ∈ lw_tbl := by decide +kernel
def R_Rk : String := "GreatMachine$Rack"
def T_Rk : u_T := fun k => match k with
  | 0 => ("GreatMachine$Rack", "nodes", "I", false)
  | 1 => ("GreatMachine$Rack", "unused", "I", false)
  | _ => ("GreatMachine$Rack", "drained", "Z", false)
def ty_Rk : Nat → FieldType := fun k => match k with
  | 0 => .int
  | 1 => .int
  | _ => .boolean
theorem nm_Rk : ∀ a, a < 3 → ∀ b, b < 3 → a ≠ b → (T_Rk a).2.1 ≠ (T_Rk b).2.1 := by decide +kernel
theorem tok_Rk : ∀ k, k < 3 → parseFieldDescriptor (T_Rk k).2.2.1 = some (ty_Rk k) := by decide +kernel
theorem in_Rk : ∀ w ∈ u_ws R_Rk T_Rk 3, w ∈ lw_tbl := by decide +kernel
def R_Gm : String := "GreatMachine"
def T_Gm : u_T := fun k => match k with
  | 0 => ("GreatMachine", "machine", "LGreatMachine$Machine;", true)
  | _ => ("GreatMachine", "foresight", "LGreatMachine$Machine;", true)
def ty_Gm : Nat → FieldType := fun k => match k with
  | 0 => .object "GreatMachine$Machine"
  | _ => .object "GreatMachine$Machine"
theorem nm_Gm : ∀ a, a < 2 → ∀ b, b < 2 → a ≠ b → (T_Gm a).2.1 ≠ (T_Gm b).2.1 := by decide +kernel
theorem tok_Gm : ∀ k, k < 2 → parseFieldDescriptor (T_Gm k).2.2.1 = some (ty_Gm k) := by decide +kernel
theorem in_Gm : ∀ w ∈ u_ws R_Gm T_Gm 2, w ∈ lw_tbl := by decide +kernel
def R_Md : String := "GreatMachineModel"
def T_Md : u_T := fun k => match k with
  | 0 => ("GreatMachineModel", "time", "I", false)
  | 1 => ("GreatMachineModel", "half", "I", false)
  | 2 => ("GreatMachineModel", "allLicences", "I", false)
  | 3 => ("GreatMachineModel", "racks", "I", false)
  | 4 => ("GreatMachineModel", "nodes", "[I", true)
  | 5 => ("GreatMachineModel", "isDrained", "[Z", true)
  | 6 => ("GreatMachineModel", "accounts", "I", false)
  | 7 => ("GreatMachineModel", "shares", "[I", true)
  | 8 => ("GreatMachineModel", "used", "[I", true)
  | 9 => ("GreatMachineModel", "jobs", "I", false)
  | 10 => ("GreatMachineModel", "account", "[I", true)
  | 11 => ("GreatMachineModel", "wants", "[I", true)
  | 12 => ("GreatMachineModel", "needs", "[I", true)
  | 13 => ("GreatMachineModel", "limit", "[I", true)
  | 14 => ("GreatMachineModel", "truly", "[I", true)
  | 15 => ("GreatMachineModel", "save", "[I", true)
  | 16 => ("GreatMachineModel", "ahead", "[I", true)
  | 17 => ("GreatMachineModel", "state", "[I", true)
  | 18 => ("GreatMachineModel", "began", "[I", true)
  | 19 => ("GreatMachineModel", "ended", "[I", true)
  | 20 => ("GreatMachineModel", "saved", "[I", true)
  | 21 => ("GreatMachineModel", "ran", "[I", true)
  | 22 => ("GreatMachineModel", "leftAt", "[I", true)
  | 23 => ("GreatMachineModel", "on", "[I", true)
  | 24 => ("GreatMachineModel", "bookings", "I", false)
  | 25 => ("GreatMachineModel", "bookNodes", "[I", true)
  | 26 => ("GreatMachineModel", "bookFrom", "[I", true)
  | 27 => ("GreatMachineModel", "bookTo", "[I", true)
  | 28 => ("GreatMachineModel", "blocked", "I", false)
  | 29 => ("GreatMachineModel", "kept", "I", false)
  | 30 => ("GreatMachineModel", "keptLeft", "I", false)
  | 31 => ("GreatMachineModel", "isForeseen", "Z", false)
  | 32 => ("GreatMachineModel", "roomNow", "I", false)
  | 33 => ("GreatMachineModel", "nodesAt", "[I", true)
  | 34 => ("GreatMachineModel", "licencesAt", "[I", true)
  | 35 => ("GreatMachineModel", "queue", "[I", true)
  | 36 => ("GreatMachineModel", "queued", "I", false)
  | 37 => ("GreatMachineModel", "wasState", "[I", true)
  | 38 => ("GreatMachineModel", "wasBegan", "[I", true)
  | 39 => ("GreatMachineModel", "wasEnded", "[I", true)
  | 40 => ("GreatMachineModel", "wasRan", "[I", true)
  | 41 => ("GreatMachineModel", "wasLeft", "[I", true)
  | 42 => ("GreatMachineModel", "wasOn", "[I", true)
  | _ => ("GreatMachineModel", "wasUsed", "[I", true)
def ty_Md : Nat → FieldType := fun k => match k with
  | 0 => .int
  | 1 => .int
  | 2 => .int
  | 3 => .int
  | 4 => .array .int
  | 5 => .array .boolean
  | 6 => .int
  | 7 => .array .int
  | 8 => .array .int
  | 9 => .int
  | 10 => .array .int
  | 11 => .array .int
  | 12 => .array .int
  | 13 => .array .int
  | 14 => .array .int
  | 15 => .array .int
  | 16 => .array .int
  | 17 => .array .int
  | 18 => .array .int
  | 19 => .array .int
  | 20 => .array .int
  | 21 => .array .int
  | 22 => .array .int
  | 23 => .array .int
  | 24 => .int
  | 25 => .array .int
  | 26 => .array .int
  | 27 => .array .int
  | 28 => .int
  | 29 => .int
  | 30 => .int
  | 31 => .boolean
  | 32 => .int
  | 33 => .array .int
  | 34 => .array .int
  | 35 => .array .int
  | 36 => .int
  | 37 => .array .int
  | 38 => .array .int
  | 39 => .array .int
  | 40 => .array .int
  | 41 => .array .int
  | 42 => .array .int
  | _ => .array .int
theorem nm_Md : ∀ a, a < 44 → ∀ b, b < 44 → a ≠ b → (T_Md a).2.1 ≠ (T_Md b).2.1 := by decide +kernel
theorem tok_Md : ∀ k, k < 44 → parseFieldDescriptor (T_Md k).2.2.1 = some (ty_Md k) := by decide +kernel
theorem in_Md : ∀ w ∈ u_ws R_Md T_Md 44, w ∈ lw_tbl := by decide +kernel
abbrev classes : List vw_C := [(R_Ac, T_Ac, 2), (R_Hd, T_Hd, 4), (R_Jb, T_Jb, 14), (R_Mc, T_Mc, 16), (R_Rk, T_Rk, 3), (R_Gm, T_Gm, 2), (R_Md, T_Md, 44)]
def lw_w : List Cond := lw_tbl.filter goodWord
theorem mw_ {w : Cond} (h : w ∈ lw_tbl) (g : goodWord w = true) : w ∈ lw_w := List.mem_filter.mpr ⟨h, g⟩
theorem inw_Ac : ∀ w ∈ u_ws R_Ac T_Ac 2, w ∈ lw_w := fun w h => mw_ (in_Ac w h) (List.all_eq_true.mp (show (u_ws R_Ac T_Ac 2).all goodWord = true by decide +kernel) w h)
theorem inw_Hd : ∀ w ∈ u_ws R_Hd T_Hd 4, w ∈ lw_w := fun w h => mw_ (in_Hd w h) (List.all_eq_true.mp (show (u_ws R_Hd T_Hd 4).all goodWord = true by decide +kernel) w h)
theorem inw_Jb : ∀ w ∈ u_ws R_Jb T_Jb 14, w ∈ lw_w := fun w h => mw_ (in_Jb w h) (List.all_eq_true.mp (show (u_ws R_Jb T_Jb 14).all goodWord = true by decide +kernel) w h)
theorem inw_Mc : ∀ w ∈ u_ws R_Mc T_Mc 16, w ∈ lw_w := fun w h => mw_ (in_Mc w h) (List.all_eq_true.mp (show (u_ws R_Mc T_Mc 16).all goodWord = true by decide +kernel) w h)
theorem inw_Rk : ∀ w ∈ u_ws R_Rk T_Rk 3, w ∈ lw_w := fun w h => mw_ (in_Rk w h) (List.all_eq_true.mp (show (u_ws R_Rk T_Rk 3).all goodWord = true by decide +kernel) w h)
theorem inw_Gm : ∀ w ∈ u_ws R_Gm T_Gm 2, w ∈ lw_w := fun w h => mw_ (in_Gm w h) (List.all_eq_true.mp (show (u_ws R_Gm T_Gm 2).all goodWord = true by decide +kernel) w h)
theorem inw_Md : ∀ w ∈ u_ws R_Md T_Md 44, w ∈ lw_w := fun w h => mw_ (in_Md w h) (List.all_eq_true.mp (show (u_ws R_Md T_Md 44).all goodWord = true by decide +kernel) w h)
abbrev b_Gm_init : ByteArray := prog_1_method_1_code
def y_Gm_init : MethodName := ⟨"GreatMachine", "<init>", "()V"⟩
theorem mc_Gm_init : Cond.code y_Gm_init b_Gm_init 1 none ∈ lw_w := mw_ (List.mem_of_getElem? (i := 32) (by decide +kernel)) rfl
theorem mi_Gm_init : Cond.initialized "GreatMachine" ∈ lw_w := mw_ (List.mem_of_getElem? (i := 18) (by decide +kernel)) rfl
theorem mn_Gm_init : Cond.instanceMethod y_Gm_init ∈ lw_w := mw_ (List.mem_of_getElem? (i := 31) (by decide +kernel)) rfl
abbrev b_Mc_init : ByteArray := prog_5_method_1_code
def y_Mc_init : MethodName := ⟨"GreatMachine$Machine", "<init>", "()V"⟩
theorem mc_Mc_init : Cond.code y_Mc_init b_Mc_init 2 none ∈ lw_w := mw_ (List.mem_of_getElem? (i := 40) (by decide +kernel)) rfl
theorem mi_Mc_init : Cond.initialized "GreatMachine$Machine" ∈ lw_w := mw_ (List.mem_of_getElem? (i := 19) (by decide +kernel)) rfl
theorem mn_Mc_init : Cond.instanceMethod y_Mc_init ∈ lw_w := mw_ (List.mem_of_getElem? (i := 39) (by decide +kernel)) rfl
abbrev b_Rk_init : ByteArray := prog_6_method_1_code
def y_Rk_init : MethodName := ⟨"GreatMachine$Rack", "<init>", "()V"⟩
theorem mc_Rk_init : Cond.code y_Rk_init b_Rk_init 1 none ∈ lw_w := mw_ (List.mem_of_getElem? (i := 53) (by decide +kernel)) rfl
theorem mi_Rk_init : Cond.initialized "GreatMachine$Rack" ∈ lw_w := mw_ (List.mem_of_getElem? (i := 20) (by decide +kernel)) rfl
theorem mn_Rk_init : Cond.instanceMethod y_Rk_init ∈ lw_w := mw_ (List.mem_of_getElem? (i := 52) (by decide +kernel)) rfl
abbrev b_Ac_init : ByteArray := prog_2_method_1_code
def y_Ac_init : MethodName := ⟨"GreatMachine$Account", "<init>", "()V"⟩
theorem mc_Ac_init : Cond.code y_Ac_init b_Ac_init 1 none ∈ lw_w := mw_ (List.mem_of_getElem? (i := 74) (by decide +kernel)) rfl
theorem mi_Ac_init : Cond.initialized "GreatMachine$Account" ∈ lw_w := mw_ (List.mem_of_getElem? (i := 21) (by decide +kernel)) rfl
theorem mn_Ac_init : Cond.instanceMethod y_Ac_init ∈ lw_w := mw_ (List.mem_of_getElem? (i := 73) (by decide +kernel)) rfl
abbrev b_Jb_init : ByteArray := prog_4_method_1_code
def y_Jb_init : MethodName := ⟨"GreatMachine$Job", "<init>", "()V"⟩
theorem mc_Jb_init : Cond.code y_Jb_init b_Jb_init 1 none ∈ lw_w := mw_ (List.mem_of_getElem? (i := 89) (by decide +kernel)) rfl
theorem mi_Jb_init : Cond.initialized "GreatMachine$Job" ∈ lw_w := mw_ (List.mem_of_getElem? (i := 22) (by decide +kernel)) rfl
theorem mn_Jb_init : Cond.instanceMethod y_Jb_init ∈ lw_w := mw_ (List.mem_of_getElem? (i := 88) (by decide +kernel)) rfl
abbrev b_Hd_init : ByteArray := prog_3_method_1_code
def y_Hd_init : MethodName := ⟨"GreatMachine$Hold", "<init>", "()V"⟩
theorem mc_Hd_init : Cond.code y_Hd_init b_Hd_init 1 none ∈ lw_w := mw_ (List.mem_of_getElem? (i := 155) (by decide +kernel)) rfl
theorem mi_Hd_init : Cond.initialized "GreatMachine$Hold" ∈ lw_w := mw_ (List.mem_of_getElem? (i := 23) (by decide +kernel)) rfl
theorem mn_Hd_init : Cond.instanceMethod y_Hd_init ∈ lw_w := mw_ (List.mem_of_getElem? (i := 154) (by decide +kernel)) rfl
abbrev b_Gm_rack : ByteArray := prog_1_method_2_code
def y_Gm_rack : MethodName := ⟨"GreatMachine", "rack", "(I)I"⟩
theorem mc_Gm_rack : Cond.code y_Gm_rack b_Gm_rack 2 (some .int) ∈ lw_w := mw_ (List.mem_of_getElem? (i := 247) (by decide +kernel)) rfl
theorem mi_Gm_rack : Cond.initialized "GreatMachine" ∈ lw_w := mw_ (List.mem_of_getElem? (i := 18) (by decide +kernel)) rfl
theorem mn_Gm_rack : Cond.instanceMethod y_Gm_rack ∈ lw_w := mw_ (List.mem_of_getElem? (i := 245) (by decide +kernel)) rfl
theorem ms_Gm_rack : Cond.selects "GreatMachine" y_Gm_rack y_Gm_rack ∈ lw_w := mw_ (List.mem_of_getElem? (i := 246) (by decide +kernel)) rfl
abbrev b_Gm_isOutside : ByteArray := prog_1_method_22_code
def y_Gm_isOutside : MethodName := ⟨"GreatMachine", "isOutside", "(III)Z"⟩
theorem mc_Gm_isOutside : Cond.code y_Gm_isOutside b_Gm_isOutside 3 (some .boolean) ∈ lw_w := mw_ (List.mem_of_getElem? (i := 250) (by decide +kernel)) rfl
theorem mi_Gm_isOutside : Cond.initialized "GreatMachine" ∈ lw_w := mw_ (List.mem_of_getElem? (i := 18) (by decide +kernel)) rfl
theorem mt_Gm_isOutside : Cond.static y_Gm_isOutside ∈ lw_w := mw_ (List.mem_of_getElem? (i := 249) (by decide +kernel)) rfl
abbrev b_Mc_addRack : ByteArray := prog_5_method_6_code
def y_Mc_addRack : MethodName := ⟨"GreatMachine$Machine", "addRack", "(I)I"⟩
theorem mc_Mc_addRack : Cond.code y_Mc_addRack b_Mc_addRack 3 (some .int) ∈ lw_w := mw_ (List.mem_of_getElem? (i := 254) (by decide +kernel)) rfl
theorem mi_Mc_addRack : Cond.initialized "GreatMachine$Machine" ∈ lw_w := mw_ (List.mem_of_getElem? (i := 19) (by decide +kernel)) rfl
theorem mn_Mc_addRack : Cond.instanceMethod y_Mc_addRack ∈ lw_w := mw_ (List.mem_of_getElem? (i := 252) (by decide +kernel)) rfl
theorem ms_Mc_addRack : Cond.selects "GreatMachine$Machine" y_Mc_addRack y_Mc_addRack ∈ lw_w := mw_ (List.mem_of_getElem? (i := 253) (by decide +kernel)) rfl
abbrev b_Mc_recount : ByteArray := prog_5_method_10_code
def y_Mc_recount : MethodName := ⟨"GreatMachine$Machine", "recount", "()V"⟩
theorem mc_Mc_recount : Cond.code y_Mc_recount b_Mc_recount 2 none ∈ lw_w := mw_ (List.mem_of_getElem? (i := 258) (by decide +kernel)) rfl
theorem mi_Mc_recount : Cond.initialized "GreatMachine$Machine" ∈ lw_w := mw_ (List.mem_of_getElem? (i := 19) (by decide +kernel)) rfl
theorem mn_Mc_recount : Cond.instanceMethod y_Mc_recount ∈ lw_w := mw_ (List.mem_of_getElem? (i := 256) (by decide +kernel)) rfl
theorem ms_Mc_recount : Cond.selects "GreatMachine$Machine" y_Mc_recount y_Mc_recount ∈ lw_w := mw_ (List.mem_of_getElem? (i := 257) (by decide +kernel)) rfl
abbrev b_Mc_countedOf : ByteArray := prog_5_method_11_code
def y_Mc_countedOf : MethodName := ⟨"GreatMachine$Machine", "countedOf", "(LGreatMachine$Job;)I"⟩
theorem mc_Mc_countedOf : Cond.code y_Mc_countedOf b_Mc_countedOf 4 (some .int) ∈ lw_w := mw_ (List.mem_of_getElem? (i := 262) (by decide +kernel)) rfl
theorem mi_Mc_countedOf : Cond.initialized "GreatMachine$Machine" ∈ lw_w := mw_ (List.mem_of_getElem? (i := 19) (by decide +kernel)) rfl
theorem mn_Mc_countedOf : Cond.instanceMethod y_Mc_countedOf ∈ lw_w := mw_ (List.mem_of_getElem? (i := 260) (by decide +kernel)) rfl
theorem ms_Mc_countedOf : Cond.selects "GreatMachine$Machine" y_Mc_countedOf y_Mc_countedOf ∈ lw_w := mw_ (List.mem_of_getElem? (i := 261) (by decide +kernel)) rfl
abbrev b_Gm_drain : ByteArray := prog_1_method_3_code
def y_Gm_drain : MethodName := ⟨"GreatMachine", "drain", "(IZ)I"⟩
theorem mc_Gm_drain : Cond.code y_Gm_drain b_Gm_drain 4 (some .int) ∈ lw_w := mw_ (List.mem_of_getElem? (i := 266) (by decide +kernel)) rfl
theorem mi_Gm_drain : Cond.initialized "GreatMachine" ∈ lw_w := mw_ (List.mem_of_getElem? (i := 18) (by decide +kernel)) rfl
theorem mn_Gm_drain : Cond.instanceMethod y_Gm_drain ∈ lw_w := mw_ (List.mem_of_getElem? (i := 264) (by decide +kernel)) rfl
theorem ms_Gm_drain : Cond.selects "GreatMachine" y_Gm_drain y_Gm_drain ∈ lw_w := mw_ (List.mem_of_getElem? (i := 265) (by decide +kernel)) rfl
abbrev b_Mc_hasRack : ByteArray := prog_5_method_3_code
def y_Mc_hasRack : MethodName := ⟨"GreatMachine$Machine", "hasRack", "(I)Z"⟩
theorem mc_Mc_hasRack : Cond.code y_Mc_hasRack b_Mc_hasRack 2 (some .boolean) ∈ lw_w := mw_ (List.mem_of_getElem? (i := 270) (by decide +kernel)) rfl
theorem mi_Mc_hasRack : Cond.initialized "GreatMachine$Machine" ∈ lw_w := mw_ (List.mem_of_getElem? (i := 19) (by decide +kernel)) rfl
theorem mn_Mc_hasRack : Cond.instanceMethod y_Mc_hasRack ∈ lw_w := mw_ (List.mem_of_getElem? (i := 268) (by decide +kernel)) rfl
theorem ms_Mc_hasRack : Cond.selects "GreatMachine$Machine" y_Mc_hasRack y_Mc_hasRack ∈ lw_w := mw_ (List.mem_of_getElem? (i := 269) (by decide +kernel)) rfl
abbrev b_Gm_fail : ByteArray := prog_1_method_4_code
def y_Gm_fail : MethodName := ⟨"GreatMachine", "fail", "(I)I"⟩
theorem mc_Gm_fail : Cond.code y_Gm_fail b_Gm_fail 2 (some .int) ∈ lw_w := mw_ (List.mem_of_getElem? (i := 275) (by decide +kernel)) rfl
theorem mi_Gm_fail : Cond.initialized "GreatMachine" ∈ lw_w := mw_ (List.mem_of_getElem? (i := 18) (by decide +kernel)) rfl
theorem mn_Gm_fail : Cond.instanceMethod y_Gm_fail ∈ lw_w := mw_ (List.mem_of_getElem? (i := 273) (by decide +kernel)) rfl
theorem ms_Gm_fail : Cond.selects "GreatMachine" y_Gm_fail y_Gm_fail ∈ lw_w := mw_ (List.mem_of_getElem? (i := 274) (by decide +kernel)) rfl
abbrev b_Mc_breakRack : ByteArray := prog_5_method_12_code
def y_Mc_breakRack : MethodName := ⟨"GreatMachine$Machine", "breakRack", "(I)I"⟩
theorem mc_Mc_breakRack : Cond.code y_Mc_breakRack b_Mc_breakRack 5 (some .int) ∈ lw_w := mw_ (List.mem_of_getElem? (i := 279) (by decide +kernel)) rfl
theorem mi_Mc_breakRack : Cond.initialized "GreatMachine$Machine" ∈ lw_w := mw_ (List.mem_of_getElem? (i := 19) (by decide +kernel)) rfl
theorem mn_Mc_breakRack : Cond.instanceMethod y_Mc_breakRack ∈ lw_w := mw_ (List.mem_of_getElem? (i := 277) (by decide +kernel)) rfl
theorem ms_Mc_breakRack : Cond.selects "GreatMachine$Machine" y_Mc_breakRack y_Mc_breakRack ∈ lw_w := mw_ (List.mem_of_getElem? (i := 278) (by decide +kernel)) rfl
abbrev b_Jb_keepWhatWasSaved : ByteArray := prog_4_method_6_code
def y_Jb_keepWhatWasSaved : MethodName := ⟨"GreatMachine$Job", "keepWhatWasSaved", "(I)V"⟩
theorem mc_Jb_keepWhatWasSaved : Cond.code y_Jb_keepWhatWasSaved b_Jb_keepWhatWasSaved 3 none ∈ lw_w := mw_ (List.mem_of_getElem? (i := 283) (by decide +kernel)) rfl
theorem mi_Jb_keepWhatWasSaved : Cond.initialized "GreatMachine$Job" ∈ lw_w := mw_ (List.mem_of_getElem? (i := 22) (by decide +kernel)) rfl
theorem mn_Jb_keepWhatWasSaved : Cond.instanceMethod y_Jb_keepWhatWasSaved ∈ lw_w := mw_ (List.mem_of_getElem? (i := 281) (by decide +kernel)) rfl
theorem ms_Jb_keepWhatWasSaved : Cond.selects "GreatMachine$Job" y_Jb_keepWhatWasSaved y_Jb_keepWhatWasSaved ∈ lw_w := mw_ (List.mem_of_getElem? (i := 282) (by decide +kernel)) rfl
abbrev b_Jb_ranUntil : ByteArray := prog_4_method_5_code
def y_Jb_ranUntil : MethodName := ⟨"GreatMachine$Job", "ranUntil", "(I)I"⟩
theorem mc_Jb_ranUntil : Cond.code y_Jb_ranUntil b_Jb_ranUntil 2 (some .int) ∈ lw_w := mw_ (List.mem_of_getElem? (i := 287) (by decide +kernel)) rfl
theorem mi_Jb_ranUntil : Cond.initialized "GreatMachine$Job" ∈ lw_w := mw_ (List.mem_of_getElem? (i := 22) (by decide +kernel)) rfl
theorem mn_Jb_ranUntil : Cond.instanceMethod y_Jb_ranUntil ∈ lw_w := mw_ (List.mem_of_getElem? (i := 285) (by decide +kernel)) rfl
theorem ms_Jb_ranUntil : Cond.selects "GreatMachine$Job" y_Jb_ranUntil y_Jb_ranUntil ∈ lw_w := mw_ (List.mem_of_getElem? (i := 286) (by decide +kernel)) rfl
abbrev b_Mc_leaveNodes : ByteArray := prog_5_method_13_code
def y_Mc_leaveNodes : MethodName := ⟨"GreatMachine$Machine", "leaveNodes", "(LGreatMachine$Job;)V"⟩
theorem mc_Mc_leaveNodes : Cond.code y_Mc_leaveNodes b_Mc_leaveNodes 3 none ∈ lw_w := mw_ (List.mem_of_getElem? (i := 291) (by decide +kernel)) rfl
theorem mi_Mc_leaveNodes : Cond.initialized "GreatMachine$Machine" ∈ lw_w := mw_ (List.mem_of_getElem? (i := 19) (by decide +kernel)) rfl
theorem mn_Mc_leaveNodes : Cond.instanceMethod y_Mc_leaveNodes ∈ lw_w := mw_ (List.mem_of_getElem? (i := 289) (by decide +kernel)) rfl
theorem ms_Mc_leaveNodes : Cond.selects "GreatMachine$Machine" y_Mc_leaveNodes y_Mc_leaveNodes ∈ lw_w := mw_ (List.mem_of_getElem? (i := 290) (by decide +kernel)) rfl
abbrev b_Gm_licences : ByteArray := prog_1_method_5_code
def y_Gm_licences : MethodName := ⟨"GreatMachine", "licences", "(I)I"⟩
theorem mc_Gm_licences : Cond.code y_Gm_licences b_Gm_licences 3 (some .int) ∈ lw_w := mw_ (List.mem_of_getElem? (i := 295) (by decide +kernel)) rfl
theorem mi_Gm_licences : Cond.initialized "GreatMachine" ∈ lw_w := mw_ (List.mem_of_getElem? (i := 18) (by decide +kernel)) rfl
theorem mn_Gm_licences : Cond.instanceMethod y_Gm_licences ∈ lw_w := mw_ (List.mem_of_getElem? (i := 293) (by decide +kernel)) rfl
theorem ms_Gm_licences : Cond.selects "GreatMachine" y_Gm_licences y_Gm_licences ∈ lw_w := mw_ (List.mem_of_getElem? (i := 294) (by decide +kernel)) rfl
abbrev b_Gm_half : ByteArray := prog_1_method_6_code
def y_Gm_half : MethodName := ⟨"GreatMachine", "half", "(I)I"⟩
theorem mc_Gm_half : Cond.code y_Gm_half b_Gm_half 3 (some .int) ∈ lw_w := mw_ (List.mem_of_getElem? (i := 299) (by decide +kernel)) rfl
theorem mi_Gm_half : Cond.initialized "GreatMachine" ∈ lw_w := mw_ (List.mem_of_getElem? (i := 18) (by decide +kernel)) rfl
theorem mn_Gm_half : Cond.instanceMethod y_Gm_half ∈ lw_w := mw_ (List.mem_of_getElem? (i := 297) (by decide +kernel)) rfl
theorem ms_Gm_half : Cond.selects "GreatMachine" y_Gm_half y_Gm_half ∈ lw_w := mw_ (List.mem_of_getElem? (i := 298) (by decide +kernel)) rfl
abbrev b_Gm_account : ByteArray := prog_1_method_7_code
def y_Gm_account : MethodName := ⟨"GreatMachine", "account", "(I)I"⟩
theorem mc_Gm_account : Cond.code y_Gm_account b_Gm_account 2 (some .int) ∈ lw_w := mw_ (List.mem_of_getElem? (i := 303) (by decide +kernel)) rfl
theorem mi_Gm_account : Cond.initialized "GreatMachine" ∈ lw_w := mw_ (List.mem_of_getElem? (i := 18) (by decide +kernel)) rfl
theorem mn_Gm_account : Cond.instanceMethod y_Gm_account ∈ lw_w := mw_ (List.mem_of_getElem? (i := 301) (by decide +kernel)) rfl
theorem ms_Gm_account : Cond.selects "GreatMachine" y_Gm_account y_Gm_account ∈ lw_w := mw_ (List.mem_of_getElem? (i := 302) (by decide +kernel)) rfl
abbrev b_Mc_addAccount : ByteArray := prog_5_method_7_code
def y_Mc_addAccount : MethodName := ⟨"GreatMachine$Machine", "addAccount", "(I)I"⟩
theorem mc_Mc_addAccount : Cond.code y_Mc_addAccount b_Mc_addAccount 3 (some .int) ∈ lw_w := mw_ (List.mem_of_getElem? (i := 307) (by decide +kernel)) rfl
theorem mi_Mc_addAccount : Cond.initialized "GreatMachine$Machine" ∈ lw_w := mw_ (List.mem_of_getElem? (i := 19) (by decide +kernel)) rfl
theorem mn_Mc_addAccount : Cond.instanceMethod y_Mc_addAccount ∈ lw_w := mw_ (List.mem_of_getElem? (i := 305) (by decide +kernel)) rfl
theorem ms_Mc_addAccount : Cond.selects "GreatMachine$Machine" y_Mc_addAccount y_Mc_addAccount ∈ lw_w := mw_ (List.mem_of_getElem? (i := 306) (by decide +kernel)) rfl
abbrev b_Gm_job : ByteArray := prog_1_method_8_code
def y_Gm_job : MethodName := ⟨"GreatMachine", "job", "(IIIIII)I"⟩
theorem mc_Gm_job : Cond.code y_Gm_job b_Gm_job 8 (some .int) ∈ lw_w := mw_ (List.mem_of_getElem? (i := 311) (by decide +kernel)) rfl
theorem mi_Gm_job : Cond.initialized "GreatMachine" ∈ lw_w := mw_ (List.mem_of_getElem? (i := 18) (by decide +kernel)) rfl
theorem mn_Gm_job : Cond.instanceMethod y_Gm_job ∈ lw_w := mw_ (List.mem_of_getElem? (i := 309) (by decide +kernel)) rfl
theorem ms_Gm_job : Cond.selects "GreatMachine" y_Gm_job y_Gm_job ∈ lw_w := mw_ (List.mem_of_getElem? (i := 310) (by decide +kernel)) rfl
abbrev b_Mc_hasAccount : ByteArray := prog_5_method_4_code
def y_Mc_hasAccount : MethodName := ⟨"GreatMachine$Machine", "hasAccount", "(I)Z"⟩
theorem mc_Mc_hasAccount : Cond.code y_Mc_hasAccount b_Mc_hasAccount 2 (some .boolean) ∈ lw_w := mw_ (List.mem_of_getElem? (i := 315) (by decide +kernel)) rfl
theorem mi_Mc_hasAccount : Cond.initialized "GreatMachine$Machine" ∈ lw_w := mw_ (List.mem_of_getElem? (i := 19) (by decide +kernel)) rfl
theorem mn_Mc_hasAccount : Cond.instanceMethod y_Mc_hasAccount ∈ lw_w := mw_ (List.mem_of_getElem? (i := 313) (by decide +kernel)) rfl
theorem ms_Mc_hasAccount : Cond.selects "GreatMachine$Machine" y_Mc_hasAccount y_Mc_hasAccount ∈ lw_w := mw_ (List.mem_of_getElem? (i := 314) (by decide +kernel)) rfl
abbrev b_Jb_want : ByteArray := prog_4_method_2_code
def y_Jb_want : MethodName := ⟨"GreatMachine$Job", "want", "(IIIIII)V"⟩
theorem mc_Jb_want : Cond.code y_Jb_want b_Jb_want 7 none ∈ lw_w := mw_ (List.mem_of_getElem? (i := 319) (by decide +kernel)) rfl
theorem mi_Jb_want : Cond.initialized "GreatMachine$Job" ∈ lw_w := mw_ (List.mem_of_getElem? (i := 22) (by decide +kernel)) rfl
theorem mn_Jb_want : Cond.instanceMethod y_Jb_want ∈ lw_w := mw_ (List.mem_of_getElem? (i := 317) (by decide +kernel)) rfl
theorem ms_Jb_want : Cond.selects "GreatMachine$Job" y_Jb_want y_Jb_want ∈ lw_w := mw_ (List.mem_of_getElem? (i := 318) (by decide +kernel)) rfl
abbrev b_Gm_behind : ByteArray := prog_1_method_9_code
def y_Gm_behind : MethodName := ⟨"GreatMachine", "behind", "(II)I"⟩
theorem mc_Gm_behind : Cond.code y_Gm_behind b_Gm_behind 3 (some .int) ∈ lw_w := mw_ (List.mem_of_getElem? (i := 323) (by decide +kernel)) rfl
theorem mi_Gm_behind : Cond.initialized "GreatMachine" ∈ lw_w := mw_ (List.mem_of_getElem? (i := 18) (by decide +kernel)) rfl
theorem mn_Gm_behind : Cond.instanceMethod y_Gm_behind ∈ lw_w := mw_ (List.mem_of_getElem? (i := 321) (by decide +kernel)) rfl
theorem ms_Gm_behind : Cond.selects "GreatMachine" y_Gm_behind y_Gm_behind ∈ lw_w := mw_ (List.mem_of_getElem? (i := 322) (by decide +kernel)) rfl
abbrev b_Mc_hasJob : ByteArray := prog_5_method_5_code
def y_Mc_hasJob : MethodName := ⟨"GreatMachine$Machine", "hasJob", "(I)Z"⟩
theorem mc_Mc_hasJob : Cond.code y_Mc_hasJob b_Mc_hasJob 2 (some .boolean) ∈ lw_w := mw_ (List.mem_of_getElem? (i := 327) (by decide +kernel)) rfl
theorem mi_Mc_hasJob : Cond.initialized "GreatMachine$Machine" ∈ lw_w := mw_ (List.mem_of_getElem? (i := 19) (by decide +kernel)) rfl
theorem mn_Mc_hasJob : Cond.instanceMethod y_Mc_hasJob ∈ lw_w := mw_ (List.mem_of_getElem? (i := 325) (by decide +kernel)) rfl
theorem ms_Mc_hasJob : Cond.selects "GreatMachine$Machine" y_Mc_hasJob y_Mc_hasJob ∈ lw_w := mw_ (List.mem_of_getElem? (i := 326) (by decide +kernel)) rfl
abbrev b_Gm_cancel : ByteArray := prog_1_method_10_code
def y_Gm_cancel : MethodName := ⟨"GreatMachine", "cancel", "(I)I"⟩
theorem mc_Gm_cancel : Cond.code y_Gm_cancel b_Gm_cancel 3 (some .int) ∈ lw_w := mw_ (List.mem_of_getElem? (i := 331) (by decide +kernel)) rfl
theorem mi_Gm_cancel : Cond.initialized "GreatMachine" ∈ lw_w := mw_ (List.mem_of_getElem? (i := 18) (by decide +kernel)) rfl
theorem mn_Gm_cancel : Cond.instanceMethod y_Gm_cancel ∈ lw_w := mw_ (List.mem_of_getElem? (i := 329) (by decide +kernel)) rfl
theorem ms_Gm_cancel : Cond.selects "GreatMachine" y_Gm_cancel y_Gm_cancel ∈ lw_w := mw_ (List.mem_of_getElem? (i := 330) (by decide +kernel)) rfl
abbrev b_Gm_book : ByteArray := prog_1_method_11_code
def y_Gm_book : MethodName := ⟨"GreatMachine", "book", "(III)I"⟩
theorem mc_Gm_book : Cond.code y_Gm_book b_Gm_book 5 (some .int) ∈ lw_w := mw_ (List.mem_of_getElem? (i := 336) (by decide +kernel)) rfl
theorem mi_Gm_book : Cond.initialized "GreatMachine" ∈ lw_w := mw_ (List.mem_of_getElem? (i := 18) (by decide +kernel)) rfl
theorem mn_Gm_book : Cond.instanceMethod y_Gm_book ∈ lw_w := mw_ (List.mem_of_getElem? (i := 334) (by decide +kernel)) rfl
theorem ms_Gm_book : Cond.selects "GreatMachine" y_Gm_book y_Gm_book ∈ lw_w := mw_ (List.mem_of_getElem? (i := 335) (by decide +kernel)) rfl
abbrev b_Mc_nodesFit : ByteArray := prog_5_method_16_code
def y_Mc_nodesFit : MethodName := ⟨"GreatMachine$Machine", "nodesFit", "(III)Z"⟩
theorem mc_Mc_nodesFit : Cond.code y_Mc_nodesFit b_Mc_nodesFit 6 (some .boolean) ∈ lw_w := mw_ (List.mem_of_getElem? (i := 340) (by decide +kernel)) rfl
theorem mi_Mc_nodesFit : Cond.initialized "GreatMachine$Machine" ∈ lw_w := mw_ (List.mem_of_getElem? (i := 19) (by decide +kernel)) rfl
theorem mn_Mc_nodesFit : Cond.instanceMethod y_Mc_nodesFit ∈ lw_w := mw_ (List.mem_of_getElem? (i := 338) (by decide +kernel)) rfl
theorem ms_Mc_nodesFit : Cond.selects "GreatMachine$Machine" y_Mc_nodesFit y_Mc_nodesFit ∈ lw_w := mw_ (List.mem_of_getElem? (i := 339) (by decide +kernel)) rfl
abbrev b_Mc_nodesTaken : ByteArray := prog_5_method_14_code
def y_Mc_nodesTaken : MethodName := ⟨"GreatMachine$Machine", "nodesTaken", "(I)I"⟩
theorem mc_Mc_nodesTaken : Cond.code y_Mc_nodesTaken b_Mc_nodesTaken 4 (some .int) ∈ lw_w := mw_ (List.mem_of_getElem? (i := 344) (by decide +kernel)) rfl
theorem mi_Mc_nodesTaken : Cond.initialized "GreatMachine$Machine" ∈ lw_w := mw_ (List.mem_of_getElem? (i := 19) (by decide +kernel)) rfl
theorem mn_Mc_nodesTaken : Cond.instanceMethod y_Mc_nodesTaken ∈ lw_w := mw_ (List.mem_of_getElem? (i := 342) (by decide +kernel)) rfl
theorem ms_Mc_nodesTaken : Cond.selects "GreatMachine$Machine" y_Mc_nodesTaken y_Mc_nodesTaken ∈ lw_w := mw_ (List.mem_of_getElem? (i := 343) (by decide +kernel)) rfl
abbrev b_Hd_beginsWithin : ByteArray := prog_3_method_4_code
def y_Hd_beginsWithin : MethodName := ⟨"GreatMachine$Hold", "beginsWithin", "(II)Z"⟩
theorem mc_Hd_beginsWithin : Cond.code y_Hd_beginsWithin b_Hd_beginsWithin 3 (some .boolean) ∈ lw_w := mw_ (List.mem_of_getElem? (i := 348) (by decide +kernel)) rfl
theorem mi_Hd_beginsWithin : Cond.initialized "GreatMachine$Hold" ∈ lw_w := mw_ (List.mem_of_getElem? (i := 23) (by decide +kernel)) rfl
theorem mn_Hd_beginsWithin : Cond.instanceMethod y_Hd_beginsWithin ∈ lw_w := mw_ (List.mem_of_getElem? (i := 346) (by decide +kernel)) rfl
theorem ms_Hd_beginsWithin : Cond.selects "GreatMachine$Hold" y_Hd_beginsWithin y_Hd_beginsWithin ∈ lw_w := mw_ (List.mem_of_getElem? (i := 347) (by decide +kernel)) rfl
abbrev b_Hd_set : ByteArray := prog_3_method_2_code
def y_Hd_set : MethodName := ⟨"GreatMachine$Hold", "set", "(IIII)V"⟩
theorem mc_Hd_set : Cond.code y_Hd_set b_Hd_set 5 none ∈ lw_w := mw_ (List.mem_of_getElem? (i := 352) (by decide +kernel)) rfl
theorem mi_Hd_set : Cond.initialized "GreatMachine$Hold" ∈ lw_w := mw_ (List.mem_of_getElem? (i := 23) (by decide +kernel)) rfl
theorem mn_Hd_set : Cond.instanceMethod y_Hd_set ∈ lw_w := mw_ (List.mem_of_getElem? (i := 350) (by decide +kernel)) rfl
theorem ms_Hd_set : Cond.selects "GreatMachine$Hold" y_Hd_set y_Hd_set ∈ lw_w := mw_ (List.mem_of_getElem? (i := 351) (by decide +kernel)) rfl
abbrev b_Gm_unbook : ByteArray := prog_1_method_12_code
def y_Gm_unbook : MethodName := ⟨"GreatMachine", "unbook", "(I)I"⟩
theorem mc_Gm_unbook : Cond.code y_Gm_unbook b_Gm_unbook 2 (some .int) ∈ lw_w := mw_ (List.mem_of_getElem? (i := 356) (by decide +kernel)) rfl
theorem mi_Gm_unbook : Cond.initialized "GreatMachine" ∈ lw_w := mw_ (List.mem_of_getElem? (i := 18) (by decide +kernel)) rfl
theorem mn_Gm_unbook : Cond.instanceMethod y_Gm_unbook ∈ lw_w := mw_ (List.mem_of_getElem? (i := 354) (by decide +kernel)) rfl
theorem ms_Gm_unbook : Cond.selects "GreatMachine" y_Gm_unbook y_Gm_unbook ∈ lw_w := mw_ (List.mem_of_getElem? (i := 355) (by decide +kernel)) rfl
abbrev b_Mc_dropBooking : ByteArray := prog_5_method_8_code
def y_Mc_dropBooking : MethodName := ⟨"GreatMachine$Machine", "dropBooking", "(I)V"⟩
theorem mc_Mc_dropBooking : Cond.code y_Mc_dropBooking b_Mc_dropBooking 3 none ∈ lw_w := mw_ (List.mem_of_getElem? (i := 360) (by decide +kernel)) rfl
theorem mi_Mc_dropBooking : Cond.initialized "GreatMachine$Machine" ∈ lw_w := mw_ (List.mem_of_getElem? (i := 19) (by decide +kernel)) rfl
theorem mn_Mc_dropBooking : Cond.instanceMethod y_Mc_dropBooking ∈ lw_w := mw_ (List.mem_of_getElem? (i := 358) (by decide +kernel)) rfl
theorem ms_Mc_dropBooking : Cond.selects "GreatMachine$Machine" y_Mc_dropBooking y_Mc_dropBooking ∈ lw_w := mw_ (List.mem_of_getElem? (i := 359) (by decide +kernel)) rfl
abbrev b_Hd_become : ByteArray := prog_3_method_3_code
def y_Hd_become : MethodName := ⟨"GreatMachine$Hold", "become", "(LGreatMachine$Hold;)V"⟩
theorem mc_Hd_become : Cond.code y_Hd_become b_Hd_become 2 none ∈ lw_w := mw_ (List.mem_of_getElem? (i := 364) (by decide +kernel)) rfl
theorem mi_Hd_become : Cond.initialized "GreatMachine$Hold" ∈ lw_w := mw_ (List.mem_of_getElem? (i := 23) (by decide +kernel)) rfl
theorem mn_Hd_become : Cond.instanceMethod y_Hd_become ∈ lw_w := mw_ (List.mem_of_getElem? (i := 362) (by decide +kernel)) rfl
theorem ms_Hd_become : Cond.selects "GreatMachine$Hold" y_Hd_become y_Hd_become ∈ lw_w := mw_ (List.mem_of_getElem? (i := 363) (by decide +kernel)) rfl
abbrev b_Gm_ticks : ByteArray := prog_1_method_13_code
def y_Gm_ticks : MethodName := ⟨"GreatMachine", "ticks", "(I)I"⟩
theorem mc_Gm_ticks : Cond.code y_Gm_ticks b_Gm_ticks 3 (some .int) ∈ lw_w := mw_ (List.mem_of_getElem? (i := 369) (by decide +kernel)) rfl
theorem mi_Gm_ticks : Cond.initialized "GreatMachine" ∈ lw_w := mw_ (List.mem_of_getElem? (i := 18) (by decide +kernel)) rfl
theorem mn_Gm_ticks : Cond.instanceMethod y_Gm_ticks ∈ lw_w := mw_ (List.mem_of_getElem? (i := 367) (by decide +kernel)) rfl
theorem ms_Gm_ticks : Cond.selects "GreatMachine" y_Gm_ticks y_Gm_ticks ∈ lw_w := mw_ (List.mem_of_getElem? (i := 368) (by decide +kernel)) rfl
abbrev b_Mc_passTick : ByteArray := prog_5_method_19_code
def y_Mc_passTick : MethodName := ⟨"GreatMachine$Machine", "passTick", "(Z)V"⟩
theorem mc_Mc_passTick : Cond.code y_Mc_passTick b_Mc_passTick 2 none ∈ lw_w := mw_ (List.mem_of_getElem? (i := 373) (by decide +kernel)) rfl
theorem mi_Mc_passTick : Cond.initialized "GreatMachine$Machine" ∈ lw_w := mw_ (List.mem_of_getElem? (i := 19) (by decide +kernel)) rfl
theorem mn_Mc_passTick : Cond.instanceMethod y_Mc_passTick ∈ lw_w := mw_ (List.mem_of_getElem? (i := 371) (by decide +kernel)) rfl
theorem ms_Mc_passTick : Cond.selects "GreatMachine$Machine" y_Mc_passTick y_Mc_passTick ∈ lw_w := mw_ (List.mem_of_getElem? (i := 372) (by decide +kernel)) rfl
abbrev b_Mc_lineUp : ByteArray := prog_5_method_20_code
def y_Mc_lineUp : MethodName := ⟨"GreatMachine$Machine", "lineUp", "()V"⟩
theorem mc_Mc_lineUp : Cond.code y_Mc_lineUp b_Mc_lineUp 2 none ∈ lw_w := mw_ (List.mem_of_getElem? (i := 377) (by decide +kernel)) rfl
theorem mi_Mc_lineUp : Cond.initialized "GreatMachine$Machine" ∈ lw_w := mw_ (List.mem_of_getElem? (i := 19) (by decide +kernel)) rfl
theorem mn_Mc_lineUp : Cond.instanceMethod y_Mc_lineUp ∈ lw_w := mw_ (List.mem_of_getElem? (i := 375) (by decide +kernel)) rfl
theorem ms_Mc_lineUp : Cond.selects "GreatMachine$Machine" y_Mc_lineUp y_Mc_lineUp ∈ lw_w := mw_ (List.mem_of_getElem? (i := 376) (by decide +kernel)) rfl
abbrev b_Mc_mayBegin : ByteArray := prog_5_method_21_code
def y_Mc_mayBegin : MethodName := ⟨"GreatMachine$Machine", "mayBegin", "(LGreatMachine$Job;)Z"⟩
theorem mc_Mc_mayBegin : Cond.code y_Mc_mayBegin b_Mc_mayBegin 2 (some .boolean) ∈ lw_w := mw_ (List.mem_of_getElem? (i := 381) (by decide +kernel)) rfl
theorem mi_Mc_mayBegin : Cond.initialized "GreatMachine$Machine" ∈ lw_w := mw_ (List.mem_of_getElem? (i := 19) (by decide +kernel)) rfl
theorem mn_Mc_mayBegin : Cond.instanceMethod y_Mc_mayBegin ∈ lw_w := mw_ (List.mem_of_getElem? (i := 379) (by decide +kernel)) rfl
theorem ms_Mc_mayBegin : Cond.selects "GreatMachine$Machine" y_Mc_mayBegin y_Mc_mayBegin ∈ lw_w := mw_ (List.mem_of_getElem? (i := 380) (by decide +kernel)) rfl
abbrev b_Mc_putInQueue : ByteArray := prog_5_method_22_code
def y_Mc_putInQueue : MethodName := ⟨"GreatMachine$Machine", "putInQueue", "(I)V"⟩
theorem mc_Mc_putInQueue : Cond.code y_Mc_putInQueue b_Mc_putInQueue 4 none ∈ lw_w := mw_ (List.mem_of_getElem? (i := 386) (by decide +kernel)) rfl
theorem mi_Mc_putInQueue : Cond.initialized "GreatMachine$Machine" ∈ lw_w := mw_ (List.mem_of_getElem? (i := 19) (by decide +kernel)) rfl
theorem mn_Mc_putInQueue : Cond.instanceMethod y_Mc_putInQueue ∈ lw_w := mw_ (List.mem_of_getElem? (i := 384) (by decide +kernel)) rfl
theorem ms_Mc_putInQueue : Cond.selects "GreatMachine$Machine" y_Mc_putInQueue y_Mc_putInQueue ∈ lw_w := mw_ (List.mem_of_getElem? (i := 385) (by decide +kernel)) rfl
abbrev b_Ac_usedLessThan : ByteArray := prog_2_method_3_code
def y_Ac_usedLessThan : MethodName := ⟨"GreatMachine$Account", "usedLessThan", "(LGreatMachine$Account;)Z"⟩
theorem mc_Ac_usedLessThan : Cond.code y_Ac_usedLessThan b_Ac_usedLessThan 2 (some .boolean) ∈ lw_w := mw_ (List.mem_of_getElem? (i := 390) (by decide +kernel)) rfl
theorem mi_Ac_usedLessThan : Cond.initialized "GreatMachine$Account" ∈ lw_w := mw_ (List.mem_of_getElem? (i := 21) (by decide +kernel)) rfl
theorem mn_Ac_usedLessThan : Cond.instanceMethod y_Ac_usedLessThan ∈ lw_w := mw_ (List.mem_of_getElem? (i := 388) (by decide +kernel)) rfl
theorem ms_Ac_usedLessThan : Cond.selects "GreatMachine$Account" y_Ac_usedLessThan y_Ac_usedLessThan ∈ lw_w := mw_ (List.mem_of_getElem? (i := 389) (by decide +kernel)) rfl
abbrev b_Mc_serveQueue : ByteArray := prog_5_method_23_code
def y_Mc_serveQueue : MethodName := ⟨"GreatMachine$Machine", "serveQueue", "()V"⟩
theorem mc_Mc_serveQueue : Cond.code y_Mc_serveQueue b_Mc_serveQueue 4 none ∈ lw_w := mw_ (List.mem_of_getElem? (i := 394) (by decide +kernel)) rfl
theorem mi_Mc_serveQueue : Cond.initialized "GreatMachine$Machine" ∈ lw_w := mw_ (List.mem_of_getElem? (i := 19) (by decide +kernel)) rfl
theorem mn_Mc_serveQueue : Cond.instanceMethod y_Mc_serveQueue ∈ lw_w := mw_ (List.mem_of_getElem? (i := 392) (by decide +kernel)) rfl
theorem ms_Mc_serveQueue : Cond.selects "GreatMachine$Machine" y_Mc_serveQueue y_Mc_serveQueue ∈ lw_w := mw_ (List.mem_of_getElem? (i := 393) (by decide +kernel)) rfl
abbrev b_Mc_fits : ByteArray := prog_5_method_18_code
def y_Mc_fits : MethodName := ⟨"GreatMachine$Machine", "fits", "(LGreatMachine$Job;I)Z"⟩
theorem mc_Mc_fits : Cond.code y_Mc_fits b_Mc_fits 4 (some .boolean) ∈ lw_w := mw_ (List.mem_of_getElem? (i := 398) (by decide +kernel)) rfl
theorem mi_Mc_fits : Cond.initialized "GreatMachine$Machine" ∈ lw_w := mw_ (List.mem_of_getElem? (i := 19) (by decide +kernel)) rfl
theorem mn_Mc_fits : Cond.instanceMethod y_Mc_fits ∈ lw_w := mw_ (List.mem_of_getElem? (i := 396) (by decide +kernel)) rfl
theorem ms_Mc_fits : Cond.selects "GreatMachine$Machine" y_Mc_fits y_Mc_fits ∈ lw_w := mw_ (List.mem_of_getElem? (i := 397) (by decide +kernel)) rfl
abbrev b_Jb_left : ByteArray := prog_4_method_4_code
def y_Jb_left : MethodName := ⟨"GreatMachine$Job", "left", "()I"⟩
theorem mc_Jb_left : Cond.code y_Jb_left b_Jb_left 1 (some .int) ∈ lw_w := mw_ (List.mem_of_getElem? (i := 402) (by decide +kernel)) rfl
theorem mi_Jb_left : Cond.initialized "GreatMachine$Job" ∈ lw_w := mw_ (List.mem_of_getElem? (i := 22) (by decide +kernel)) rfl
theorem mn_Jb_left : Cond.instanceMethod y_Jb_left ∈ lw_w := mw_ (List.mem_of_getElem? (i := 400) (by decide +kernel)) rfl
theorem ms_Jb_left : Cond.selects "GreatMachine$Job" y_Jb_left y_Jb_left ∈ lw_w := mw_ (List.mem_of_getElem? (i := 401) (by decide +kernel)) rfl
abbrev b_Mc_licencesFit : ByteArray := prog_5_method_17_code
def y_Mc_licencesFit : MethodName := ⟨"GreatMachine$Machine", "licencesFit", "(III)Z"⟩
theorem mc_Mc_licencesFit : Cond.code y_Mc_licencesFit b_Mc_licencesFit 6 (some .boolean) ∈ lw_w := mw_ (List.mem_of_getElem? (i := 407) (by decide +kernel)) rfl
theorem mi_Mc_licencesFit : Cond.initialized "GreatMachine$Machine" ∈ lw_w := mw_ (List.mem_of_getElem? (i := 19) (by decide +kernel)) rfl
theorem mn_Mc_licencesFit : Cond.instanceMethod y_Mc_licencesFit ∈ lw_w := mw_ (List.mem_of_getElem? (i := 405) (by decide +kernel)) rfl
theorem ms_Mc_licencesFit : Cond.selects "GreatMachine$Machine" y_Mc_licencesFit y_Mc_licencesFit ∈ lw_w := mw_ (List.mem_of_getElem? (i := 406) (by decide +kernel)) rfl
abbrev b_Mc_licencesTaken : ByteArray := prog_5_method_15_code
def y_Mc_licencesTaken : MethodName := ⟨"GreatMachine$Machine", "licencesTaken", "(I)I"⟩
theorem mc_Mc_licencesTaken : Cond.code y_Mc_licencesTaken b_Mc_licencesTaken 4 (some .int) ∈ lw_w := mw_ (List.mem_of_getElem? (i := 411) (by decide +kernel)) rfl
theorem mi_Mc_licencesTaken : Cond.initialized "GreatMachine$Machine" ∈ lw_w := mw_ (List.mem_of_getElem? (i := 19) (by decide +kernel)) rfl
theorem mn_Mc_licencesTaken : Cond.instanceMethod y_Mc_licencesTaken ∈ lw_w := mw_ (List.mem_of_getElem? (i := 409) (by decide +kernel)) rfl
theorem ms_Mc_licencesTaken : Cond.selects "GreatMachine$Machine" y_Mc_licencesTaken y_Mc_licencesTaken ∈ lw_w := mw_ (List.mem_of_getElem? (i := 410) (by decide +kernel)) rfl
abbrev b_Mc_begin : ByteArray := prog_5_method_27_code
def y_Mc_begin : MethodName := ⟨"GreatMachine$Machine", "begin", "(LGreatMachine$Job;)V"⟩
theorem mc_Mc_begin : Cond.code y_Mc_begin b_Mc_begin 6 none ∈ lw_w := mw_ (List.mem_of_getElem? (i := 415) (by decide +kernel)) rfl
theorem mi_Mc_begin : Cond.initialized "GreatMachine$Machine" ∈ lw_w := mw_ (List.mem_of_getElem? (i := 19) (by decide +kernel)) rfl
theorem mn_Mc_begin : Cond.instanceMethod y_Mc_begin ∈ lw_w := mw_ (List.mem_of_getElem? (i := 413) (by decide +kernel)) rfl
theorem ms_Mc_begin : Cond.selects "GreatMachine$Machine" y_Mc_begin y_Mc_begin ∈ lw_w := mw_ (List.mem_of_getElem? (i := 414) (by decide +kernel)) rfl
abbrev b_Mc_fewestRacks : ByteArray := prog_5_method_28_code
def y_Mc_fewestRacks : MethodName := ⟨"GreatMachine$Machine", "fewestRacks", "(I)I"⟩
theorem mc_Mc_fewestRacks : Cond.code y_Mc_fewestRacks b_Mc_fewestRacks 5 (some .int) ∈ lw_w := mw_ (List.mem_of_getElem? (i := 419) (by decide +kernel)) rfl
theorem mi_Mc_fewestRacks : Cond.initialized "GreatMachine$Machine" ∈ lw_w := mw_ (List.mem_of_getElem? (i := 19) (by decide +kernel)) rfl
theorem mn_Mc_fewestRacks : Cond.instanceMethod y_Mc_fewestRacks ∈ lw_w := mw_ (List.mem_of_getElem? (i := 417) (by decide +kernel)) rfl
theorem ms_Mc_fewestRacks : Cond.selects "GreatMachine$Machine" y_Mc_fewestRacks y_Mc_fewestRacks ∈ lw_w := mw_ (List.mem_of_getElem? (i := 418) (by decide +kernel)) rfl
abbrev b_In_bitCount : ByteArray := prog_9_method_49_code
def y_In_bitCount : MethodName := ⟨"java/lang/Integer", "bitCount", "(I)I"⟩
theorem mc_In_bitCount : Cond.code y_In_bitCount b_In_bitCount 1 (some .int) ∈ lw_w := mw_ (List.mem_of_getElem? (i := 422) (by decide +kernel)) rfl
theorem mi_In_bitCount : Cond.initialized "java/lang/Integer" ∈ lw_w := mw_ (List.mem_of_getElem? (i := 25) (by decide +kernel)) rfl
theorem mt_In_bitCount : Cond.static y_In_bitCount ∈ lw_w := mw_ (List.mem_of_getElem? (i := 421) (by decide +kernel)) rfl
abbrev b_Mc_unusedOn : ByteArray := prog_5_method_29_code
def y_Mc_unusedOn : MethodName := ⟨"GreatMachine$Machine", "unusedOn", "(I)I"⟩
theorem mc_Mc_unusedOn : Cond.code y_Mc_unusedOn b_Mc_unusedOn 4 (some .int) ∈ lw_w := mw_ (List.mem_of_getElem? (i := 429) (by decide +kernel)) rfl
theorem mi_Mc_unusedOn : Cond.initialized "GreatMachine$Machine" ∈ lw_w := mw_ (List.mem_of_getElem? (i := 19) (by decide +kernel)) rfl
theorem mn_Mc_unusedOn : Cond.instanceMethod y_Mc_unusedOn ∈ lw_w := mw_ (List.mem_of_getElem? (i := 427) (by decide +kernel)) rfl
theorem ms_Mc_unusedOn : Cond.selects "GreatMachine$Machine" y_Mc_unusedOn y_Mc_unusedOn ∈ lw_w := mw_ (List.mem_of_getElem? (i := 428) (by decide +kernel)) rfl
abbrev b_Mc_firstFit : ByteArray := prog_5_method_24_code
def y_Mc_firstFit : MethodName := ⟨"GreatMachine$Machine", "firstFit", "(LGreatMachine$Job;)I"⟩
theorem mc_Mc_firstFit : Cond.code y_Mc_firstFit b_Mc_firstFit 4 (some .int) ∈ lw_w := mw_ (List.mem_of_getElem? (i := 436) (by decide +kernel)) rfl
theorem mi_Mc_firstFit : Cond.initialized "GreatMachine$Machine" ∈ lw_w := mw_ (List.mem_of_getElem? (i := 19) (by decide +kernel)) rfl
theorem mn_Mc_firstFit : Cond.instanceMethod y_Mc_firstFit ∈ lw_w := mw_ (List.mem_of_getElem? (i := 434) (by decide +kernel)) rfl
theorem ms_Mc_firstFit : Cond.selects "GreatMachine$Machine" y_Mc_firstFit y_Mc_firstFit ∈ lw_w := mw_ (List.mem_of_getElem? (i := 435) (by decide +kernel)) rfl
abbrev b_Mc_nextEnd : ByteArray := prog_5_method_25_code
def y_Mc_nextEnd : MethodName := ⟨"GreatMachine$Machine", "nextEnd", "(I)I"⟩
theorem mc_Mc_nextEnd : Cond.code y_Mc_nextEnd b_Mc_nextEnd 4 (some .int) ∈ lw_w := mw_ (List.mem_of_getElem? (i := 440) (by decide +kernel)) rfl
theorem mi_Mc_nextEnd : Cond.initialized "GreatMachine$Machine" ∈ lw_w := mw_ (List.mem_of_getElem? (i := 19) (by decide +kernel)) rfl
theorem mn_Mc_nextEnd : Cond.instanceMethod y_Mc_nextEnd ∈ lw_w := mw_ (List.mem_of_getElem? (i := 438) (by decide +kernel)) rfl
theorem ms_Mc_nextEnd : Cond.selects "GreatMachine$Machine" y_Mc_nextEnd y_Mc_nextEnd ∈ lw_w := mw_ (List.mem_of_getElem? (i := 439) (by decide +kernel)) rfl
abbrev b_Mc_nearer : ByteArray := prog_5_method_26_code
def y_Mc_nearer : MethodName := ⟨"GreatMachine$Machine", "nearer", "(III)I"⟩
theorem mc_Mc_nearer : Cond.code y_Mc_nearer b_Mc_nearer 3 (some .int) ∈ lw_w := mw_ (List.mem_of_getElem? (i := 443) (by decide +kernel)) rfl
theorem mi_Mc_nearer : Cond.initialized "GreatMachine$Machine" ∈ lw_w := mw_ (List.mem_of_getElem? (i := 19) (by decide +kernel)) rfl
theorem mt_Mc_nearer : Cond.static y_Mc_nearer ∈ lw_w := mw_ (List.mem_of_getElem? (i := 442) (by decide +kernel)) rfl
abbrev b_Mc_runJobs : ByteArray := prog_5_method_30_code
def y_Mc_runJobs : MethodName := ⟨"GreatMachine$Machine", "runJobs", "(Z)V"⟩
theorem mc_Mc_runJobs : Cond.code y_Mc_runJobs b_Mc_runJobs 3 none ∈ lw_w := mw_ (List.mem_of_getElem? (i := 448) (by decide +kernel)) rfl
theorem mi_Mc_runJobs : Cond.initialized "GreatMachine$Machine" ∈ lw_w := mw_ (List.mem_of_getElem? (i := 19) (by decide +kernel)) rfl
theorem mn_Mc_runJobs : Cond.instanceMethod y_Mc_runJobs ∈ lw_w := mw_ (List.mem_of_getElem? (i := 446) (by decide +kernel)) rfl
theorem ms_Mc_runJobs : Cond.selects "GreatMachine$Machine" y_Mc_runJobs y_Mc_runJobs ∈ lw_w := mw_ (List.mem_of_getElem? (i := 447) (by decide +kernel)) rfl
abbrev b_Mc_runOne : ByteArray := prog_5_method_31_code
def y_Mc_runOne : MethodName := ⟨"GreatMachine$Machine", "runOne", "(LGreatMachine$Job;Z)V"⟩
theorem mc_Mc_runOne : Cond.code y_Mc_runOne b_Mc_runOne 4 none ∈ lw_w := mw_ (List.mem_of_getElem? (i := 452) (by decide +kernel)) rfl
theorem mi_Mc_runOne : Cond.initialized "GreatMachine$Machine" ∈ lw_w := mw_ (List.mem_of_getElem? (i := 19) (by decide +kernel)) rfl
theorem mn_Mc_runOne : Cond.instanceMethod y_Mc_runOne ∈ lw_w := mw_ (List.mem_of_getElem? (i := 450) (by decide +kernel)) rfl
theorem ms_Mc_runOne : Cond.selects "GreatMachine$Machine" y_Mc_runOne y_Mc_runOne ∈ lw_w := mw_ (List.mem_of_getElem? (i := 451) (by decide +kernel)) rfl
abbrev b_Mc_halveUse : ByteArray := prog_5_method_32_code
def y_Mc_halveUse : MethodName := ⟨"GreatMachine$Machine", "halveUse", "()V"⟩
theorem mc_Mc_halveUse : Cond.code y_Mc_halveUse b_Mc_halveUse 2 none ∈ lw_w := mw_ (List.mem_of_getElem? (i := 457) (by decide +kernel)) rfl
theorem mi_Mc_halveUse : Cond.initialized "GreatMachine$Machine" ∈ lw_w := mw_ (List.mem_of_getElem? (i := 19) (by decide +kernel)) rfl
theorem mn_Mc_halveUse : Cond.instanceMethod y_Mc_halveUse ∈ lw_w := mw_ (List.mem_of_getElem? (i := 455) (by decide +kernel)) rfl
theorem ms_Mc_halveUse : Cond.selects "GreatMachine$Machine" y_Mc_halveUse y_Mc_halveUse ∈ lw_w := mw_ (List.mem_of_getElem? (i := 456) (by decide +kernel)) rfl
abbrev b_Gm_told : ByteArray := prog_1_method_14_code
def y_Gm_told : MethodName := ⟨"GreatMachine", "told", "(II)I"⟩
theorem mc_Gm_told : Cond.code y_Gm_told b_Gm_told 4 (some .int) ∈ lw_w := mw_ (List.mem_of_getElem? (i := 461) (by decide +kernel)) rfl
theorem mi_Gm_told : Cond.initialized "GreatMachine" ∈ lw_w := mw_ (List.mem_of_getElem? (i := 18) (by decide +kernel)) rfl
theorem mn_Gm_told : Cond.instanceMethod y_Gm_told ∈ lw_w := mw_ (List.mem_of_getElem? (i := 459) (by decide +kernel)) rfl
theorem ms_Gm_told : Cond.selects "GreatMachine" y_Gm_told y_Gm_told ∈ lw_w := mw_ (List.mem_of_getElem? (i := 460) (by decide +kernel)) rfl
abbrev b_Jb_racksHeld : ByteArray := prog_4_method_7_code
def y_Jb_racksHeld : MethodName := ⟨"GreatMachine$Job", "racksHeld", "()I"⟩
theorem mc_Jb_racksHeld : Cond.code y_Jb_racksHeld b_Jb_racksHeld 3 (some .int) ∈ lw_w := mw_ (List.mem_of_getElem? (i := 466) (by decide +kernel)) rfl
theorem mi_Jb_racksHeld : Cond.initialized "GreatMachine$Job" ∈ lw_w := mw_ (List.mem_of_getElem? (i := 22) (by decide +kernel)) rfl
theorem mn_Jb_racksHeld : Cond.instanceMethod y_Jb_racksHeld ∈ lw_w := mw_ (List.mem_of_getElem? (i := 464) (by decide +kernel)) rfl
theorem ms_Jb_racksHeld : Cond.selects "GreatMachine$Job" y_Jb_racksHeld y_Jb_racksHeld ∈ lw_w := mw_ (List.mem_of_getElem? (i := 465) (by decide +kernel)) rfl
abbrev b_Gm_on : ByteArray := prog_1_method_15_code
def y_Gm_on : MethodName := ⟨"GreatMachine", "on", "(II)I"⟩
theorem mc_Gm_on : Cond.code y_Gm_on b_Gm_on 3 (some .int) ∈ lw_w := mw_ (List.mem_of_getElem? (i := 470) (by decide +kernel)) rfl
theorem mi_Gm_on : Cond.initialized "GreatMachine" ∈ lw_w := mw_ (List.mem_of_getElem? (i := 18) (by decide +kernel)) rfl
theorem mn_Gm_on : Cond.instanceMethod y_Gm_on ∈ lw_w := mw_ (List.mem_of_getElem? (i := 468) (by decide +kernel)) rfl
theorem ms_Gm_on : Cond.selects "GreatMachine" y_Gm_on y_Gm_on ∈ lw_w := mw_ (List.mem_of_getElem? (i := 469) (by decide +kernel)) rfl
abbrev b_Gm_free : ByteArray := prog_1_method_16_code
def y_Gm_free : MethodName := ⟨"GreatMachine", "free", "(I)I"⟩
theorem mc_Gm_free : Cond.code y_Gm_free b_Gm_free 2 (some .int) ∈ lw_w := mw_ (List.mem_of_getElem? (i := 474) (by decide +kernel)) rfl
theorem mi_Gm_free : Cond.initialized "GreatMachine" ∈ lw_w := mw_ (List.mem_of_getElem? (i := 18) (by decide +kernel)) rfl
theorem mn_Gm_free : Cond.instanceMethod y_Gm_free ∈ lw_w := mw_ (List.mem_of_getElem? (i := 472) (by decide +kernel)) rfl
theorem ms_Gm_free : Cond.selects "GreatMachine" y_Gm_free y_Gm_free ∈ lw_w := mw_ (List.mem_of_getElem? (i := 473) (by decide +kernel)) rfl
abbrev b_Gm_used : ByteArray := prog_1_method_17_code
def y_Gm_used : MethodName := ⟨"GreatMachine", "used", "(I)I"⟩
theorem mc_Gm_used : Cond.code y_Gm_used b_Gm_used 2 (some .int) ∈ lw_w := mw_ (List.mem_of_getElem? (i := 478) (by decide +kernel)) rfl
theorem mi_Gm_used : Cond.initialized "GreatMachine" ∈ lw_w := mw_ (List.mem_of_getElem? (i := 18) (by decide +kernel)) rfl
theorem mn_Gm_used : Cond.instanceMethod y_Gm_used ∈ lw_w := mw_ (List.mem_of_getElem? (i := 476) (by decide +kernel)) rfl
theorem ms_Gm_used : Cond.selects "GreatMachine" y_Gm_used y_Gm_used ∈ lw_w := mw_ (List.mem_of_getElem? (i := 477) (by decide +kernel)) rfl
abbrev b_Gm_blocked : ByteArray := prog_1_method_18_code
def y_Gm_blocked : MethodName := ⟨"GreatMachine", "blocked", "(I)I"⟩
theorem mc_Gm_blocked : Cond.code y_Gm_blocked b_Gm_blocked 2 (some .int) ∈ lw_w := mw_ (List.mem_of_getElem? (i := 482) (by decide +kernel)) rfl
theorem mi_Gm_blocked : Cond.initialized "GreatMachine" ∈ lw_w := mw_ (List.mem_of_getElem? (i := 18) (by decide +kernel)) rfl
theorem mn_Gm_blocked : Cond.instanceMethod y_Gm_blocked ∈ lw_w := mw_ (List.mem_of_getElem? (i := 480) (by decide +kernel)) rfl
theorem ms_Gm_blocked : Cond.selects "GreatMachine" y_Gm_blocked y_Gm_blocked ∈ lw_w := mw_ (List.mem_of_getElem? (i := 481) (by decide +kernel)) rfl
abbrev b_Gm_taken : ByteArray := prog_1_method_19_code
def y_Gm_taken : MethodName := ⟨"GreatMachine", "taken", "(II)I"⟩
theorem mc_Gm_taken : Cond.code y_Gm_taken b_Gm_taken 3 (some .int) ∈ lw_w := mw_ (List.mem_of_getElem? (i := 486) (by decide +kernel)) rfl
theorem mi_Gm_taken : Cond.initialized "GreatMachine" ∈ lw_w := mw_ (List.mem_of_getElem? (i := 18) (by decide +kernel)) rfl
theorem mn_Gm_taken : Cond.instanceMethod y_Gm_taken ∈ lw_w := mw_ (List.mem_of_getElem? (i := 484) (by decide +kernel)) rfl
theorem ms_Gm_taken : Cond.selects "GreatMachine" y_Gm_taken y_Gm_taken ∈ lw_w := mw_ (List.mem_of_getElem? (i := 485) (by decide +kernel)) rfl
abbrev b_Gm_foreseen : ByteArray := prog_1_method_20_code
def y_Gm_foreseen : MethodName := ⟨"GreatMachine", "foreseen", "(I)I"⟩
theorem mc_Gm_foreseen : Cond.code y_Gm_foreseen b_Gm_foreseen 5 (some .int) ∈ lw_w := mw_ (List.mem_of_getElem? (i := 492) (by decide +kernel)) rfl
theorem mi_Gm_foreseen : Cond.initialized "GreatMachine" ∈ lw_w := mw_ (List.mem_of_getElem? (i := 18) (by decide +kernel)) rfl
theorem mn_Gm_foreseen : Cond.instanceMethod y_Gm_foreseen ∈ lw_w := mw_ (List.mem_of_getElem? (i := 490) (by decide +kernel)) rfl
theorem ms_Gm_foreseen : Cond.selects "GreatMachine" y_Gm_foreseen y_Gm_foreseen ∈ lw_w := mw_ (List.mem_of_getElem? (i := 491) (by decide +kernel)) rfl
abbrev b_Mc_become : ByteArray := prog_5_method_2_code
def y_Mc_become : MethodName := ⟨"GreatMachine$Machine", "become", "(LGreatMachine$Machine;)V"⟩
theorem mc_Mc_become : Cond.code y_Mc_become b_Mc_become 3 none ∈ lw_w := mw_ (List.mem_of_getElem? (i := 496) (by decide +kernel)) rfl
theorem mi_Mc_become : Cond.initialized "GreatMachine$Machine" ∈ lw_w := mw_ (List.mem_of_getElem? (i := 19) (by decide +kernel)) rfl
theorem mn_Mc_become : Cond.instanceMethod y_Mc_become ∈ lw_w := mw_ (List.mem_of_getElem? (i := 494) (by decide +kernel)) rfl
theorem ms_Mc_become : Cond.selects "GreatMachine$Machine" y_Mc_become y_Mc_become ∈ lw_w := mw_ (List.mem_of_getElem? (i := 495) (by decide +kernel)) rfl
abbrev b_Rk_become : ByteArray := prog_6_method_2_code
def y_Rk_become : MethodName := ⟨"GreatMachine$Rack", "become", "(LGreatMachine$Rack;)V"⟩
theorem mc_Rk_become : Cond.code y_Rk_become b_Rk_become 2 none ∈ lw_w := mw_ (List.mem_of_getElem? (i := 500) (by decide +kernel)) rfl
theorem mi_Rk_become : Cond.initialized "GreatMachine$Rack" ∈ lw_w := mw_ (List.mem_of_getElem? (i := 20) (by decide +kernel)) rfl
theorem mn_Rk_become : Cond.instanceMethod y_Rk_become ∈ lw_w := mw_ (List.mem_of_getElem? (i := 498) (by decide +kernel)) rfl
theorem ms_Rk_become : Cond.selects "GreatMachine$Rack" y_Rk_become y_Rk_become ∈ lw_w := mw_ (List.mem_of_getElem? (i := 499) (by decide +kernel)) rfl
abbrev b_Ac_become : ByteArray := prog_2_method_2_code
def y_Ac_become : MethodName := ⟨"GreatMachine$Account", "become", "(LGreatMachine$Account;)V"⟩
theorem mc_Ac_become : Cond.code y_Ac_become b_Ac_become 2 none ∈ lw_w := mw_ (List.mem_of_getElem? (i := 504) (by decide +kernel)) rfl
theorem mi_Ac_become : Cond.initialized "GreatMachine$Account" ∈ lw_w := mw_ (List.mem_of_getElem? (i := 21) (by decide +kernel)) rfl
theorem mn_Ac_become : Cond.instanceMethod y_Ac_become ∈ lw_w := mw_ (List.mem_of_getElem? (i := 502) (by decide +kernel)) rfl
theorem ms_Ac_become : Cond.selects "GreatMachine$Account" y_Ac_become y_Ac_become ∈ lw_w := mw_ (List.mem_of_getElem? (i := 503) (by decide +kernel)) rfl
abbrev b_Jb_become : ByteArray := prog_4_method_3_code
def y_Jb_become : MethodName := ⟨"GreatMachine$Job", "become", "(LGreatMachine$Job;)V"⟩
theorem mc_Jb_become : Cond.code y_Jb_become b_Jb_become 2 none ∈ lw_w := mw_ (List.mem_of_getElem? (i := 508) (by decide +kernel)) rfl
theorem mi_Jb_become : Cond.initialized "GreatMachine$Job" ∈ lw_w := mw_ (List.mem_of_getElem? (i := 22) (by decide +kernel)) rfl
theorem mn_Jb_become : Cond.instanceMethod y_Jb_become ∈ lw_w := mw_ (List.mem_of_getElem? (i := 506) (by decide +kernel)) rfl
theorem ms_Jb_become : Cond.selects "GreatMachine$Job" y_Jb_become y_Jb_become ∈ lw_w := mw_ (List.mem_of_getElem? (i := 507) (by decide +kernel)) rfl
abbrev b_Gm_count : ByteArray := prog_1_method_21_code
def y_Gm_count : MethodName := ⟨"GreatMachine", "count", "(I)I"⟩
theorem mc_Gm_count : Cond.code y_Gm_count b_Gm_count 2 (some .int) ∈ lw_w := mw_ (List.mem_of_getElem? (i := 515) (by decide +kernel)) rfl
theorem mi_Gm_count : Cond.initialized "GreatMachine" ∈ lw_w := mw_ (List.mem_of_getElem? (i := 18) (by decide +kernel)) rfl
theorem mn_Gm_count : Cond.instanceMethod y_Gm_count ∈ lw_w := mw_ (List.mem_of_getElem? (i := 513) (by decide +kernel)) rfl
theorem ms_Gm_count : Cond.selects "GreatMachine" y_Gm_count y_Gm_count ∈ lw_w := mw_ (List.mem_of_getElem? (i := 514) (by decide +kernel)) rfl
abbrev b_Mc_jobsThatAre : ByteArray := prog_5_method_9_code
def y_Mc_jobsThatAre : MethodName := ⟨"GreatMachine$Machine", "jobsThatAre", "(I)I"⟩
theorem mc_Mc_jobsThatAre : Cond.code y_Mc_jobsThatAre b_Mc_jobsThatAre 4 (some .int) ∈ lw_w := mw_ (List.mem_of_getElem? (i := 519) (by decide +kernel)) rfl
theorem mi_Mc_jobsThatAre : Cond.initialized "GreatMachine$Machine" ∈ lw_w := mw_ (List.mem_of_getElem? (i := 19) (by decide +kernel)) rfl
theorem mn_Mc_jobsThatAre : Cond.instanceMethod y_Mc_jobsThatAre ∈ lw_w := mw_ (List.mem_of_getElem? (i := 517) (by decide +kernel)) rfl
theorem ms_Mc_jobsThatAre : Cond.selects "GreatMachine$Machine" y_Mc_jobsThatAre y_Mc_jobsThatAre ∈ lw_w := mw_ (List.mem_of_getElem? (i := 518) (by decide +kernel)) rfl
abbrev b_Md_init : ByteArray := prog_8_method_1_code
def y_Md_init : MethodName := ⟨"GreatMachineModel", "<init>", "()V"⟩
theorem mc_Md_init : Cond.code y_Md_init b_Md_init 1 none ∈ lw_w := mw_ (List.mem_of_getElem? (i := 524) (by decide +kernel)) rfl
theorem mi_Md_init : Cond.initialized "GreatMachineModel" ∈ lw_w := mw_ (List.mem_of_getElem? (i := 24) (by decide +kernel)) rfl
theorem mn_Md_init : Cond.instanceMethod y_Md_init ∈ lw_w := mw_ (List.mem_of_getElem? (i := 523) (by decide +kernel)) rfl
abbrev b_Md_rack : ByteArray := prog_8_method_5_code
def y_Md_rack : MethodName := ⟨"GreatMachineModel", "rack", "(I)I"⟩
theorem mc_Md_rack : Cond.code y_Md_rack b_Md_rack 2 (some .int) ∈ lw_w := mw_ (List.mem_of_getElem? (i := 663) (by decide +kernel)) rfl
theorem mi_Md_rack : Cond.initialized "GreatMachineModel" ∈ lw_w := mw_ (List.mem_of_getElem? (i := 24) (by decide +kernel)) rfl
theorem mn_Md_rack : Cond.instanceMethod y_Md_rack ∈ lw_w := mw_ (List.mem_of_getElem? (i := 661) (by decide +kernel)) rfl
theorem ms_Md_rack : Cond.selects "GreatMachineModel" y_Md_rack y_Md_rack ∈ lw_w := mw_ (List.mem_of_getElem? (i := 662) (by decide +kernel)) rfl
abbrev b_Md_in : ByteArray := prog_8_method_2_code
def y_Md_in : MethodName := ⟨"GreatMachineModel", "in", "(III)Z"⟩
theorem mc_Md_in : Cond.code y_Md_in b_Md_in 3 (some .boolean) ∈ lw_w := mw_ (List.mem_of_getElem? (i := 666) (by decide +kernel)) rfl
theorem mi_Md_in : Cond.initialized "GreatMachineModel" ∈ lw_w := mw_ (List.mem_of_getElem? (i := 24) (by decide +kernel)) rfl
theorem mt_Md_in : Cond.static y_Md_in ∈ lw_w := mw_ (List.mem_of_getElem? (i := 665) (by decide +kernel)) rfl
abbrev b_Md_drain : ByteArray := prog_8_method_6_code
def y_Md_drain : MethodName := ⟨"GreatMachineModel", "drain", "(IZ)I"⟩
theorem mc_Md_drain : Cond.code y_Md_drain b_Md_drain 4 (some .int) ∈ lw_w := mw_ (List.mem_of_getElem? (i := 670) (by decide +kernel)) rfl
theorem mi_Md_drain : Cond.initialized "GreatMachineModel" ∈ lw_w := mw_ (List.mem_of_getElem? (i := 24) (by decide +kernel)) rfl
theorem mn_Md_drain : Cond.instanceMethod y_Md_drain ∈ lw_w := mw_ (List.mem_of_getElem? (i := 668) (by decide +kernel)) rfl
theorem ms_Md_drain : Cond.selects "GreatMachineModel" y_Md_drain y_Md_drain ∈ lw_w := mw_ (List.mem_of_getElem? (i := 669) (by decide +kernel)) rfl
abbrev b_Md_isRack : ByteArray := prog_8_method_3_code
def y_Md_isRack : MethodName := ⟨"GreatMachineModel", "isRack", "(I)Z"⟩
theorem mc_Md_isRack : Cond.code y_Md_isRack b_Md_isRack 2 (some .boolean) ∈ lw_w := mw_ (List.mem_of_getElem? (i := 674) (by decide +kernel)) rfl
theorem mi_Md_isRack : Cond.initialized "GreatMachineModel" ∈ lw_w := mw_ (List.mem_of_getElem? (i := 24) (by decide +kernel)) rfl
theorem mn_Md_isRack : Cond.instanceMethod y_Md_isRack ∈ lw_w := mw_ (List.mem_of_getElem? (i := 673) (by decide +kernel)) rfl
theorem ms_Md_isRack : Cond.selects "GreatMachineModel" y_Md_isRack y_Md_isRack ∈ lw_w := mw_ (List.mem_of_getElem? (i := 0) (by decide +kernel)) rfl
abbrev b_Md_fail : ByteArray := prog_8_method_8_code
def y_Md_fail : MethodName := ⟨"GreatMachineModel", "fail", "(I)I"⟩
theorem mc_Md_fail : Cond.code y_Md_fail b_Md_fail 5 (some .int) ∈ lw_w := mw_ (List.mem_of_getElem? (i := 678) (by decide +kernel)) rfl
theorem mi_Md_fail : Cond.initialized "GreatMachineModel" ∈ lw_w := mw_ (List.mem_of_getElem? (i := 24) (by decide +kernel)) rfl
theorem mn_Md_fail : Cond.instanceMethod y_Md_fail ∈ lw_w := mw_ (List.mem_of_getElem? (i := 676) (by decide +kernel)) rfl
theorem ms_Md_fail : Cond.selects "GreatMachineModel" y_Md_fail y_Md_fail ∈ lw_w := mw_ (List.mem_of_getElem? (i := 677) (by decide +kernel)) rfl
abbrev b_Md_leave : ByteArray := prog_8_method_7_code
def y_Md_leave : MethodName := ⟨"GreatMachineModel", "leave", "(I)V"⟩
theorem mc_Md_leave : Cond.code y_Md_leave b_Md_leave 3 none ∈ lw_w := mw_ (List.mem_of_getElem? (i := 682) (by decide +kernel)) rfl
theorem mi_Md_leave : Cond.initialized "GreatMachineModel" ∈ lw_w := mw_ (List.mem_of_getElem? (i := 24) (by decide +kernel)) rfl
theorem mn_Md_leave : Cond.instanceMethod y_Md_leave ∈ lw_w := mw_ (List.mem_of_getElem? (i := 681) (by decide +kernel)) rfl
theorem ms_Md_leave : Cond.selects "GreatMachineModel" y_Md_leave y_Md_leave ∈ lw_w := mw_ (List.mem_of_getElem? (i := 1) (by decide +kernel)) rfl
abbrev b_Md_licences : ByteArray := prog_8_method_9_code
def y_Md_licences : MethodName := ⟨"GreatMachineModel", "licences", "(I)I"⟩
theorem mc_Md_licences : Cond.code y_Md_licences b_Md_licences 3 (some .int) ∈ lw_w := mw_ (List.mem_of_getElem? (i := 686) (by decide +kernel)) rfl
theorem mi_Md_licences : Cond.initialized "GreatMachineModel" ∈ lw_w := mw_ (List.mem_of_getElem? (i := 24) (by decide +kernel)) rfl
theorem mn_Md_licences : Cond.instanceMethod y_Md_licences ∈ lw_w := mw_ (List.mem_of_getElem? (i := 684) (by decide +kernel)) rfl
theorem ms_Md_licences : Cond.selects "GreatMachineModel" y_Md_licences y_Md_licences ∈ lw_w := mw_ (List.mem_of_getElem? (i := 685) (by decide +kernel)) rfl
abbrev b_Md_half : ByteArray := prog_8_method_10_code
def y_Md_half : MethodName := ⟨"GreatMachineModel", "half", "(I)I"⟩
theorem mc_Md_half : Cond.code y_Md_half b_Md_half 3 (some .int) ∈ lw_w := mw_ (List.mem_of_getElem? (i := 690) (by decide +kernel)) rfl
theorem mi_Md_half : Cond.initialized "GreatMachineModel" ∈ lw_w := mw_ (List.mem_of_getElem? (i := 24) (by decide +kernel)) rfl
theorem mn_Md_half : Cond.instanceMethod y_Md_half ∈ lw_w := mw_ (List.mem_of_getElem? (i := 688) (by decide +kernel)) rfl
theorem ms_Md_half : Cond.selects "GreatMachineModel" y_Md_half y_Md_half ∈ lw_w := mw_ (List.mem_of_getElem? (i := 689) (by decide +kernel)) rfl
abbrev b_Md_account : ByteArray := prog_8_method_11_code
def y_Md_account : MethodName := ⟨"GreatMachineModel", "account", "(I)I"⟩
theorem mc_Md_account : Cond.code y_Md_account b_Md_account 2 (some .int) ∈ lw_w := mw_ (List.mem_of_getElem? (i := 694) (by decide +kernel)) rfl
theorem mi_Md_account : Cond.initialized "GreatMachineModel" ∈ lw_w := mw_ (List.mem_of_getElem? (i := 24) (by decide +kernel)) rfl
theorem mn_Md_account : Cond.instanceMethod y_Md_account ∈ lw_w := mw_ (List.mem_of_getElem? (i := 692) (by decide +kernel)) rfl
theorem ms_Md_account : Cond.selects "GreatMachineModel" y_Md_account y_Md_account ∈ lw_w := mw_ (List.mem_of_getElem? (i := 693) (by decide +kernel)) rfl
abbrev b_Md_job : ByteArray := prog_8_method_12_code
def y_Md_job : MethodName := ⟨"GreatMachineModel", "job", "(IIIIII)I"⟩
theorem mc_Md_job : Cond.code y_Md_job b_Md_job 7 (some .int) ∈ lw_w := mw_ (List.mem_of_getElem? (i := 698) (by decide +kernel)) rfl
theorem mi_Md_job : Cond.initialized "GreatMachineModel" ∈ lw_w := mw_ (List.mem_of_getElem? (i := 24) (by decide +kernel)) rfl
theorem mn_Md_job : Cond.instanceMethod y_Md_job ∈ lw_w := mw_ (List.mem_of_getElem? (i := 696) (by decide +kernel)) rfl
theorem ms_Md_job : Cond.selects "GreatMachineModel" y_Md_job y_Md_job ∈ lw_w := mw_ (List.mem_of_getElem? (i := 697) (by decide +kernel)) rfl
abbrev b_Md_behind : ByteArray := prog_8_method_13_code
def y_Md_behind : MethodName := ⟨"GreatMachineModel", "behind", "(II)I"⟩
theorem mc_Md_behind : Cond.code y_Md_behind b_Md_behind 3 (some .int) ∈ lw_w := mw_ (List.mem_of_getElem? (i := 702) (by decide +kernel)) rfl
theorem mi_Md_behind : Cond.initialized "GreatMachineModel" ∈ lw_w := mw_ (List.mem_of_getElem? (i := 24) (by decide +kernel)) rfl
theorem mn_Md_behind : Cond.instanceMethod y_Md_behind ∈ lw_w := mw_ (List.mem_of_getElem? (i := 700) (by decide +kernel)) rfl
theorem ms_Md_behind : Cond.selects "GreatMachineModel" y_Md_behind y_Md_behind ∈ lw_w := mw_ (List.mem_of_getElem? (i := 701) (by decide +kernel)) rfl
abbrev b_Md_isJob : ByteArray := prog_8_method_4_code
def y_Md_isJob : MethodName := ⟨"GreatMachineModel", "isJob", "(I)Z"⟩
theorem mc_Md_isJob : Cond.code y_Md_isJob b_Md_isJob 2 (some .boolean) ∈ lw_w := mw_ (List.mem_of_getElem? (i := 706) (by decide +kernel)) rfl
theorem mi_Md_isJob : Cond.initialized "GreatMachineModel" ∈ lw_w := mw_ (List.mem_of_getElem? (i := 24) (by decide +kernel)) rfl
theorem mn_Md_isJob : Cond.instanceMethod y_Md_isJob ∈ lw_w := mw_ (List.mem_of_getElem? (i := 705) (by decide +kernel)) rfl
theorem ms_Md_isJob : Cond.selects "GreatMachineModel" y_Md_isJob y_Md_isJob ∈ lw_w := mw_ (List.mem_of_getElem? (i := 2) (by decide +kernel)) rfl
abbrev b_Md_cancel : ByteArray := prog_8_method_14_code
def y_Md_cancel : MethodName := ⟨"GreatMachineModel", "cancel", "(I)I"⟩
theorem mc_Md_cancel : Cond.code y_Md_cancel b_Md_cancel 2 (some .int) ∈ lw_w := mw_ (List.mem_of_getElem? (i := 710) (by decide +kernel)) rfl
theorem mi_Md_cancel : Cond.initialized "GreatMachineModel" ∈ lw_w := mw_ (List.mem_of_getElem? (i := 24) (by decide +kernel)) rfl
theorem mn_Md_cancel : Cond.instanceMethod y_Md_cancel ∈ lw_w := mw_ (List.mem_of_getElem? (i := 708) (by decide +kernel)) rfl
theorem ms_Md_cancel : Cond.selects "GreatMachineModel" y_Md_cancel y_Md_cancel ∈ lw_w := mw_ (List.mem_of_getElem? (i := 709) (by decide +kernel)) rfl
abbrev b_Md_book : ByteArray := prog_8_method_19_code
def y_Md_book : MethodName := ⟨"GreatMachineModel", "book", "(III)I"⟩
theorem mc_Md_book : Cond.code y_Md_book b_Md_book 6 (some .int) ∈ lw_w := mw_ (List.mem_of_getElem? (i := 714) (by decide +kernel)) rfl
theorem mi_Md_book : Cond.initialized "GreatMachineModel" ∈ lw_w := mw_ (List.mem_of_getElem? (i := 24) (by decide +kernel)) rfl
theorem mn_Md_book : Cond.instanceMethod y_Md_book ∈ lw_w := mw_ (List.mem_of_getElem? (i := 712) (by decide +kernel)) rfl
theorem ms_Md_book : Cond.selects "GreatMachineModel" y_Md_book y_Md_book ∈ lw_w := mw_ (List.mem_of_getElem? (i := 713) (by decide +kernel)) rfl
abbrev b_Md_room : ByteArray := prog_8_method_15_code
def y_Md_room : MethodName := ⟨"GreatMachineModel", "room", "()I"⟩
theorem mc_Md_room : Cond.code y_Md_room b_Md_room 3 (some .int) ∈ lw_w := mw_ (List.mem_of_getElem? (i := 718) (by decide +kernel)) rfl
theorem mi_Md_room : Cond.initialized "GreatMachineModel" ∈ lw_w := mw_ (List.mem_of_getElem? (i := 24) (by decide +kernel)) rfl
theorem mn_Md_room : Cond.instanceMethod y_Md_room ∈ lw_w := mw_ (List.mem_of_getElem? (i := 717) (by decide +kernel)) rfl
theorem ms_Md_room : Cond.selects "GreatMachineModel" y_Md_room y_Md_room ∈ lw_w := mw_ (List.mem_of_getElem? (i := 3) (by decide +kernel)) rfl
abbrev b_Md_takenNodes : ByteArray := prog_8_method_17_code
def y_Md_takenNodes : MethodName := ⟨"GreatMachineModel", "takenNodes", "(I)I"⟩
theorem mc_Md_takenNodes : Cond.code y_Md_takenNodes b_Md_takenNodes 5 (some .int) ∈ lw_w := mw_ (List.mem_of_getElem? (i := 722) (by decide +kernel)) rfl
theorem mi_Md_takenNodes : Cond.initialized "GreatMachineModel" ∈ lw_w := mw_ (List.mem_of_getElem? (i := 24) (by decide +kernel)) rfl
theorem mn_Md_takenNodes : Cond.instanceMethod y_Md_takenNodes ∈ lw_w := mw_ (List.mem_of_getElem? (i := 721) (by decide +kernel)) rfl
theorem ms_Md_takenNodes : Cond.selects "GreatMachineModel" y_Md_takenNodes y_Md_takenNodes ∈ lw_w := mw_ (List.mem_of_getElem? (i := 4) (by decide +kernel)) rfl
abbrev b_Md_runsAt : ByteArray := prog_8_method_16_code
def y_Md_runsAt : MethodName := ⟨"GreatMachineModel", "runsAt", "(II)Z"⟩
theorem mc_Md_runsAt : Cond.code y_Md_runsAt b_Md_runsAt 3 (some .boolean) ∈ lw_w := mw_ (List.mem_of_getElem? (i := 726) (by decide +kernel)) rfl
theorem mi_Md_runsAt : Cond.initialized "GreatMachineModel" ∈ lw_w := mw_ (List.mem_of_getElem? (i := 24) (by decide +kernel)) rfl
theorem mn_Md_runsAt : Cond.instanceMethod y_Md_runsAt ∈ lw_w := mw_ (List.mem_of_getElem? (i := 725) (by decide +kernel)) rfl
theorem ms_Md_runsAt : Cond.selects "GreatMachineModel" y_Md_runsAt y_Md_runsAt ∈ lw_w := mw_ (List.mem_of_getElem? (i := 5) (by decide +kernel)) rfl
abbrev b_Md_unbook : ByteArray := prog_8_method_20_code
def y_Md_unbook : MethodName := ⟨"GreatMachineModel", "unbook", "(I)I"⟩
theorem mc_Md_unbook : Cond.code y_Md_unbook b_Md_unbook 3 (some .int) ∈ lw_w := mw_ (List.mem_of_getElem? (i := 730) (by decide +kernel)) rfl
theorem mi_Md_unbook : Cond.initialized "GreatMachineModel" ∈ lw_w := mw_ (List.mem_of_getElem? (i := 24) (by decide +kernel)) rfl
theorem mn_Md_unbook : Cond.instanceMethod y_Md_unbook ∈ lw_w := mw_ (List.mem_of_getElem? (i := 728) (by decide +kernel)) rfl
theorem ms_Md_unbook : Cond.selects "GreatMachineModel" y_Md_unbook y_Md_unbook ∈ lw_w := mw_ (List.mem_of_getElem? (i := 729) (by decide +kernel)) rfl
abbrev b_Md_ticks : ByteArray := prog_8_method_29_code
def y_Md_ticks : MethodName := ⟨"GreatMachineModel", "ticks", "(I)I"⟩
theorem mc_Md_ticks : Cond.code y_Md_ticks b_Md_ticks 3 (some .int) ∈ lw_w := mw_ (List.mem_of_getElem? (i := 734) (by decide +kernel)) rfl
theorem mi_Md_ticks : Cond.initialized "GreatMachineModel" ∈ lw_w := mw_ (List.mem_of_getElem? (i := 24) (by decide +kernel)) rfl
theorem mn_Md_ticks : Cond.instanceMethod y_Md_ticks ∈ lw_w := mw_ (List.mem_of_getElem? (i := 732) (by decide +kernel)) rfl
theorem ms_Md_ticks : Cond.selects "GreatMachineModel" y_Md_ticks y_Md_ticks ∈ lw_w := mw_ (List.mem_of_getElem? (i := 733) (by decide +kernel)) rfl
abbrev b_Md_tick : ByteArray := prog_8_method_28_code
def y_Md_tick : MethodName := ⟨"GreatMachineModel", "tick", "()V"⟩
theorem mc_Md_tick : Cond.code y_Md_tick b_Md_tick 4 none ∈ lw_w := mw_ (List.mem_of_getElem? (i := 738) (by decide +kernel)) rfl
theorem mi_Md_tick : Cond.initialized "GreatMachineModel" ∈ lw_w := mw_ (List.mem_of_getElem? (i := 24) (by decide +kernel)) rfl
theorem mn_Md_tick : Cond.instanceMethod y_Md_tick ∈ lw_w := mw_ (List.mem_of_getElem? (i := 737) (by decide +kernel)) rfl
theorem ms_Md_tick : Cond.selects "GreatMachineModel" y_Md_tick y_Md_tick ∈ lw_w := mw_ (List.mem_of_getElem? (i := 6) (by decide +kernel)) rfl
abbrev b_Md_findQueue : ByteArray := prog_8_method_27_code
def y_Md_findQueue : MethodName := ⟨"GreatMachineModel", "findQueue", "()V"⟩
theorem mc_Md_findQueue : Cond.code y_Md_findQueue b_Md_findQueue 3 none ∈ lw_w := mw_ (List.mem_of_getElem? (i := 742) (by decide +kernel)) rfl
theorem mi_Md_findQueue : Cond.initialized "GreatMachineModel" ∈ lw_w := mw_ (List.mem_of_getElem? (i := 24) (by decide +kernel)) rfl
theorem mn_Md_findQueue : Cond.instanceMethod y_Md_findQueue ∈ lw_w := mw_ (List.mem_of_getElem? (i := 741) (by decide +kernel)) rfl
theorem ms_Md_findQueue : Cond.selects "GreatMachineModel" y_Md_findQueue y_Md_findQueue ∈ lw_w := mw_ (List.mem_of_getElem? (i := 7) (by decide +kernel)) rfl
abbrev b_Md_isAhead : ByteArray := prog_8_method_26_code
def y_Md_isAhead : MethodName := ⟨"GreatMachineModel", "isAhead", "(II)Z"⟩
theorem mc_Md_isAhead : Cond.code y_Md_isAhead b_Md_isAhead 7 (some .boolean) ∈ lw_w := mw_ (List.mem_of_getElem? (i := 746) (by decide +kernel)) rfl
theorem mi_Md_isAhead : Cond.initialized "GreatMachineModel" ∈ lw_w := mw_ (List.mem_of_getElem? (i := 24) (by decide +kernel)) rfl
theorem mn_Md_isAhead : Cond.instanceMethod y_Md_isAhead ∈ lw_w := mw_ (List.mem_of_getElem? (i := 745) (by decide +kernel)) rfl
theorem ms_Md_isAhead : Cond.selects "GreatMachineModel" y_Md_isAhead y_Md_isAhead ∈ lw_w := mw_ (List.mem_of_getElem? (i := 8) (by decide +kernel)) rfl
abbrev b_Md_findTaken : ByteArray := prog_8_method_25_code
def y_Md_findTaken : MethodName := ⟨"GreatMachineModel", "findTaken", "()V"⟩
theorem mc_Md_findTaken : Cond.code y_Md_findTaken b_Md_findTaken 4 none ∈ lw_w := mw_ (List.mem_of_getElem? (i := 750) (by decide +kernel)) rfl
theorem mi_Md_findTaken : Cond.initialized "GreatMachineModel" ∈ lw_w := mw_ (List.mem_of_getElem? (i := 24) (by decide +kernel)) rfl
theorem mn_Md_findTaken : Cond.instanceMethod y_Md_findTaken ∈ lw_w := mw_ (List.mem_of_getElem? (i := 749) (by decide +kernel)) rfl
theorem ms_Md_findTaken : Cond.selects "GreatMachineModel" y_Md_findTaken y_Md_findTaken ∈ lw_w := mw_ (List.mem_of_getElem? (i := 9) (by decide +kernel)) rfl
abbrev b_Md_fits : ByteArray := prog_8_method_22_code
def y_Md_fits : MethodName := ⟨"GreatMachineModel", "fits", "(IIZ)Z"⟩
theorem mc_Md_fits : Cond.code y_Md_fits b_Md_fits 9 (some .boolean) ∈ lw_w := mw_ (List.mem_of_getElem? (i := 754) (by decide +kernel)) rfl
theorem mi_Md_fits : Cond.initialized "GreatMachineModel" ∈ lw_w := mw_ (List.mem_of_getElem? (i := 24) (by decide +kernel)) rfl
theorem mn_Md_fits : Cond.instanceMethod y_Md_fits ∈ lw_w := mw_ (List.mem_of_getElem? (i := 753) (by decide +kernel)) rfl
theorem ms_Md_fits : Cond.selects "GreatMachineModel" y_Md_fits y_Md_fits ∈ lw_w := mw_ (List.mem_of_getElem? (i := 10) (by decide +kernel)) rfl
abbrev b_Md_leftOf : ByteArray := prog_8_method_21_code
def y_Md_leftOf : MethodName := ⟨"GreatMachineModel", "leftOf", "(I)I"⟩
theorem mc_Md_leftOf : Cond.code y_Md_leftOf b_Md_leftOf 2 (some .int) ∈ lw_w := mw_ (List.mem_of_getElem? (i := 758) (by decide +kernel)) rfl
theorem mi_Md_leftOf : Cond.initialized "GreatMachineModel" ∈ lw_w := mw_ (List.mem_of_getElem? (i := 24) (by decide +kernel)) rfl
theorem mn_Md_leftOf : Cond.instanceMethod y_Md_leftOf ∈ lw_w := mw_ (List.mem_of_getElem? (i := 757) (by decide +kernel)) rfl
theorem ms_Md_leftOf : Cond.selects "GreatMachineModel" y_Md_leftOf y_Md_leftOf ∈ lw_w := mw_ (List.mem_of_getElem? (i := 11) (by decide +kernel)) rfl
abbrev b_Md_begin : ByteArray := prog_8_method_24_code
def y_Md_begin : MethodName := ⟨"GreatMachineModel", "begin", "(I)V"⟩
theorem mc_Md_begin : Cond.code y_Md_begin b_Md_begin 9 none ∈ lw_w := mw_ (List.mem_of_getElem? (i := 762) (by decide +kernel)) rfl
theorem mi_Md_begin : Cond.initialized "GreatMachineModel" ∈ lw_w := mw_ (List.mem_of_getElem? (i := 24) (by decide +kernel)) rfl
theorem mn_Md_begin : Cond.instanceMethod y_Md_begin ∈ lw_w := mw_ (List.mem_of_getElem? (i := 761) (by decide +kernel)) rfl
theorem ms_Md_begin : Cond.selects "GreatMachineModel" y_Md_begin y_Md_begin ∈ lw_w := mw_ (List.mem_of_getElem? (i := 12) (by decide +kernel)) rfl
abbrev b_Md_freeOn : ByteArray := prog_8_method_23_code
def y_Md_freeOn : MethodName := ⟨"GreatMachineModel", "freeOn", "(I)I"⟩
theorem mc_Md_freeOn : Cond.code y_Md_freeOn b_Md_freeOn 4 (some .int) ∈ lw_w := mw_ (List.mem_of_getElem? (i := 766) (by decide +kernel)) rfl
theorem mi_Md_freeOn : Cond.initialized "GreatMachineModel" ∈ lw_w := mw_ (List.mem_of_getElem? (i := 24) (by decide +kernel)) rfl
theorem mn_Md_freeOn : Cond.instanceMethod y_Md_freeOn ∈ lw_w := mw_ (List.mem_of_getElem? (i := 765) (by decide +kernel)) rfl
theorem ms_Md_freeOn : Cond.selects "GreatMachineModel" y_Md_freeOn y_Md_freeOn ∈ lw_w := mw_ (List.mem_of_getElem? (i := 13) (by decide +kernel)) rfl
abbrev b_Md_told : ByteArray := prog_8_method_30_code
def y_Md_told : MethodName := ⟨"GreatMachineModel", "told", "(II)I"⟩
theorem mc_Md_told : Cond.code y_Md_told b_Md_told 5 (some .int) ∈ lw_w := mw_ (List.mem_of_getElem? (i := 770) (by decide +kernel)) rfl
theorem mi_Md_told : Cond.initialized "GreatMachineModel" ∈ lw_w := mw_ (List.mem_of_getElem? (i := 24) (by decide +kernel)) rfl
theorem mn_Md_told : Cond.instanceMethod y_Md_told ∈ lw_w := mw_ (List.mem_of_getElem? (i := 768) (by decide +kernel)) rfl
theorem ms_Md_told : Cond.selects "GreatMachineModel" y_Md_told y_Md_told ∈ lw_w := mw_ (List.mem_of_getElem? (i := 769) (by decide +kernel)) rfl
abbrev b_Md_on : ByteArray := prog_8_method_31_code
def y_Md_on : MethodName := ⟨"GreatMachineModel", "on", "(II)I"⟩
theorem mc_Md_on : Cond.code y_Md_on b_Md_on 3 (some .int) ∈ lw_w := mw_ (List.mem_of_getElem? (i := 774) (by decide +kernel)) rfl
theorem mi_Md_on : Cond.initialized "GreatMachineModel" ∈ lw_w := mw_ (List.mem_of_getElem? (i := 24) (by decide +kernel)) rfl
theorem mn_Md_on : Cond.instanceMethod y_Md_on ∈ lw_w := mw_ (List.mem_of_getElem? (i := 772) (by decide +kernel)) rfl
theorem ms_Md_on : Cond.selects "GreatMachineModel" y_Md_on y_Md_on ∈ lw_w := mw_ (List.mem_of_getElem? (i := 773) (by decide +kernel)) rfl
abbrev b_Md_free : ByteArray := prog_8_method_32_code
def y_Md_free : MethodName := ⟨"GreatMachineModel", "free", "(I)I"⟩
theorem mc_Md_free : Cond.code y_Md_free b_Md_free 2 (some .int) ∈ lw_w := mw_ (List.mem_of_getElem? (i := 778) (by decide +kernel)) rfl
theorem mi_Md_free : Cond.initialized "GreatMachineModel" ∈ lw_w := mw_ (List.mem_of_getElem? (i := 24) (by decide +kernel)) rfl
theorem mn_Md_free : Cond.instanceMethod y_Md_free ∈ lw_w := mw_ (List.mem_of_getElem? (i := 776) (by decide +kernel)) rfl
theorem ms_Md_free : Cond.selects "GreatMachineModel" y_Md_free y_Md_free ∈ lw_w := mw_ (List.mem_of_getElem? (i := 777) (by decide +kernel)) rfl
abbrev b_Md_used : ByteArray := prog_8_method_33_code
def y_Md_used : MethodName := ⟨"GreatMachineModel", "used", "(I)I"⟩
theorem mc_Md_used : Cond.code y_Md_used b_Md_used 2 (some .int) ∈ lw_w := mw_ (List.mem_of_getElem? (i := 782) (by decide +kernel)) rfl
theorem mi_Md_used : Cond.initialized "GreatMachineModel" ∈ lw_w := mw_ (List.mem_of_getElem? (i := 24) (by decide +kernel)) rfl
theorem mn_Md_used : Cond.instanceMethod y_Md_used ∈ lw_w := mw_ (List.mem_of_getElem? (i := 780) (by decide +kernel)) rfl
theorem ms_Md_used : Cond.selects "GreatMachineModel" y_Md_used y_Md_used ∈ lw_w := mw_ (List.mem_of_getElem? (i := 781) (by decide +kernel)) rfl
abbrev b_Md_blocked : ByteArray := prog_8_method_34_code
def y_Md_blocked : MethodName := ⟨"GreatMachineModel", "blocked", "(I)I"⟩
theorem mc_Md_blocked : Cond.code y_Md_blocked b_Md_blocked 2 (some .int) ∈ lw_w := mw_ (List.mem_of_getElem? (i := 786) (by decide +kernel)) rfl
theorem mi_Md_blocked : Cond.initialized "GreatMachineModel" ∈ lw_w := mw_ (List.mem_of_getElem? (i := 24) (by decide +kernel)) rfl
theorem mn_Md_blocked : Cond.instanceMethod y_Md_blocked ∈ lw_w := mw_ (List.mem_of_getElem? (i := 784) (by decide +kernel)) rfl
theorem ms_Md_blocked : Cond.selects "GreatMachineModel" y_Md_blocked y_Md_blocked ∈ lw_w := mw_ (List.mem_of_getElem? (i := 785) (by decide +kernel)) rfl
abbrev b_Md_taken : ByteArray := prog_8_method_35_code
def y_Md_taken : MethodName := ⟨"GreatMachineModel", "taken", "(II)I"⟩
theorem mc_Md_taken : Cond.code y_Md_taken b_Md_taken 3 (some .int) ∈ lw_w := mw_ (List.mem_of_getElem? (i := 790) (by decide +kernel)) rfl
theorem mi_Md_taken : Cond.initialized "GreatMachineModel" ∈ lw_w := mw_ (List.mem_of_getElem? (i := 24) (by decide +kernel)) rfl
theorem mn_Md_taken : Cond.instanceMethod y_Md_taken ∈ lw_w := mw_ (List.mem_of_getElem? (i := 788) (by decide +kernel)) rfl
theorem ms_Md_taken : Cond.selects "GreatMachineModel" y_Md_taken y_Md_taken ∈ lw_w := mw_ (List.mem_of_getElem? (i := 789) (by decide +kernel)) rfl
abbrev b_Md_takenLicences : ByteArray := prog_8_method_18_code
def y_Md_takenLicences : MethodName := ⟨"GreatMachineModel", "takenLicences", "(I)I"⟩
theorem mc_Md_takenLicences : Cond.code y_Md_takenLicences b_Md_takenLicences 4 (some .int) ∈ lw_w := mw_ (List.mem_of_getElem? (i := 794) (by decide +kernel)) rfl
theorem mi_Md_takenLicences : Cond.initialized "GreatMachineModel" ∈ lw_w := mw_ (List.mem_of_getElem? (i := 24) (by decide +kernel)) rfl
theorem mn_Md_takenLicences : Cond.instanceMethod y_Md_takenLicences ∈ lw_w := mw_ (List.mem_of_getElem? (i := 793) (by decide +kernel)) rfl
theorem ms_Md_takenLicences : Cond.selects "GreatMachineModel" y_Md_takenLicences y_Md_takenLicences ∈ lw_w := mw_ (List.mem_of_getElem? (i := 14) (by decide +kernel)) rfl
abbrev b_Md_foreseen : ByteArray := prog_8_method_38_code
def y_Md_foreseen : MethodName := ⟨"GreatMachineModel", "foreseen", "(I)I"⟩
theorem mc_Md_foreseen : Cond.code y_Md_foreseen b_Md_foreseen 8 (some .int) ∈ lw_w := mw_ (List.mem_of_getElem? (i := 798) (by decide +kernel)) rfl
theorem mi_Md_foreseen : Cond.initialized "GreatMachineModel" ∈ lw_w := mw_ (List.mem_of_getElem? (i := 24) (by decide +kernel)) rfl
theorem mn_Md_foreseen : Cond.instanceMethod y_Md_foreseen ∈ lw_w := mw_ (List.mem_of_getElem? (i := 796) (by decide +kernel)) rfl
theorem ms_Md_foreseen : Cond.selects "GreatMachineModel" y_Md_foreseen y_Md_foreseen ∈ lw_w := mw_ (List.mem_of_getElem? (i := 797) (by decide +kernel)) rfl
abbrev b_Md_keep : ByteArray := prog_8_method_36_code
def y_Md_keep : MethodName := ⟨"GreatMachineModel", "keep", "()V"⟩
theorem mc_Md_keep : Cond.code y_Md_keep b_Md_keep 2 none ∈ lw_w := mw_ (List.mem_of_getElem? (i := 802) (by decide +kernel)) rfl
theorem mi_Md_keep : Cond.initialized "GreatMachineModel" ∈ lw_w := mw_ (List.mem_of_getElem? (i := 24) (by decide +kernel)) rfl
theorem mn_Md_keep : Cond.instanceMethod y_Md_keep ∈ lw_w := mw_ (List.mem_of_getElem? (i := 801) (by decide +kernel)) rfl
theorem ms_Md_keep : Cond.selects "GreatMachineModel" y_Md_keep y_Md_keep ∈ lw_w := mw_ (List.mem_of_getElem? (i := 15) (by decide +kernel)) rfl
abbrev b_Md_putBack : ByteArray := prog_8_method_37_code
def y_Md_putBack : MethodName := ⟨"GreatMachineModel", "putBack", "()V"⟩
theorem mc_Md_putBack : Cond.code y_Md_putBack b_Md_putBack 2 none ∈ lw_w := mw_ (List.mem_of_getElem? (i := 806) (by decide +kernel)) rfl
theorem mi_Md_putBack : Cond.initialized "GreatMachineModel" ∈ lw_w := mw_ (List.mem_of_getElem? (i := 24) (by decide +kernel)) rfl
theorem mn_Md_putBack : Cond.instanceMethod y_Md_putBack ∈ lw_w := mw_ (List.mem_of_getElem? (i := 805) (by decide +kernel)) rfl
theorem ms_Md_putBack : Cond.selects "GreatMachineModel" y_Md_putBack y_Md_putBack ∈ lw_w := mw_ (List.mem_of_getElem? (i := 16) (by decide +kernel)) rfl
abbrev b_Md_count : ByteArray := prog_8_method_39_code
def y_Md_count : MethodName := ⟨"GreatMachineModel", "count", "(I)I"⟩
theorem mc_Md_count : Cond.code y_Md_count b_Md_count 4 (some .int) ∈ lw_w := mw_ (List.mem_of_getElem? (i := 810) (by decide +kernel)) rfl
theorem mi_Md_count : Cond.initialized "GreatMachineModel" ∈ lw_w := mw_ (List.mem_of_getElem? (i := 24) (by decide +kernel)) rfl
theorem mn_Md_count : Cond.instanceMethod y_Md_count ∈ lw_w := mw_ (List.mem_of_getElem? (i := 808) (by decide +kernel)) rfl
theorem ms_Md_count : Cond.selects "GreatMachineModel" y_Md_count y_Md_count ∈ lw_w := mw_ (List.mem_of_getElem? (i := 809) (by decide +kernel)) rfl
theorem cl_La_7 : Cond.classLink "GreatMachineLaw" 7 "GreatMachine" ∈ lw_w := mw_ (List.mem_of_getElem? (i := 28) (by decide +kernel)) rfl
theorem ins_Gm : Cond.instantiable "GreatMachine" 2 ∈ lw_w := mw_ (List.mem_of_getElem? (i := 29) (by decide +kernel)) rfl
theorem ml_La_9 : Cond.methodLink "GreatMachineLaw" 9 y_Gm_init ∈ lw_w := mw_ (List.mem_of_getElem? (i := 30) (by decide +kernel)) rfl
theorem ml_Gm_1 : Cond.methodLink "GreatMachine" 1 ⟨"java/lang/Object", "<init>", "()V"⟩ ∈ lw_w := mw_ (List.mem_of_getElem? (i := 33) (by decide +kernel)) rfl
theorem cl_Gm_7 : Cond.classLink "GreatMachine" 7 "GreatMachine$Machine" ∈ lw_w := mw_ (List.mem_of_getElem? (i := 36) (by decide +kernel)) rfl
theorem ins_Mc : Cond.instantiable "GreatMachine$Machine" 16 ∈ lw_w := mw_ (List.mem_of_getElem? (i := 37) (by decide +kernel)) rfl
theorem ml_Gm_9 : Cond.methodLink "GreatMachine" 9 y_Mc_init ∈ lw_w := mw_ (List.mem_of_getElem? (i := 38) (by decide +kernel)) rfl
theorem ml_Mc_3 : Cond.methodLink "GreatMachine$Machine" 3 ⟨"java/lang/Object", "<init>", "()V"⟩ ∈ lw_w := mw_ (List.mem_of_getElem? (i := 41) (by decide +kernel)) rfl
theorem cl_Mc_9 : Cond.classLink "GreatMachine$Machine" 9 "GreatMachine$Rack" ∈ lw_w := mw_ (List.mem_of_getElem? (i := 42) (by decide +kernel)) rfl
theorem ao_Rk : Cond.arrayOver (.object "GreatMachine$Rack") ∈ lw_tbl := List.mem_of_getElem? (i := 43) (by decide +kernel)
theorem cl_Mc_17 : Cond.classLink "GreatMachine$Machine" 17 "GreatMachine$Account" ∈ lw_w := mw_ (List.mem_of_getElem? (i := 44) (by decide +kernel)) rfl
theorem ao_Ac : Cond.arrayOver (.object "GreatMachine$Account") ∈ lw_tbl := List.mem_of_getElem? (i := 45) (by decide +kernel)
theorem cl_Mc_23 : Cond.classLink "GreatMachine$Machine" 23 "GreatMachine$Job" ∈ lw_w := mw_ (List.mem_of_getElem? (i := 46) (by decide +kernel)) rfl
theorem ao_Jb : Cond.arrayOver (.object "GreatMachine$Job") ∈ lw_tbl := List.mem_of_getElem? (i := 47) (by decide +kernel)
theorem cl_Mc_29 : Cond.classLink "GreatMachine$Machine" 29 "GreatMachine$Hold" ∈ lw_w := mw_ (List.mem_of_getElem? (i := 48) (by decide +kernel)) rfl
theorem ao_Hd : Cond.arrayOver (.object "GreatMachine$Hold") ∈ lw_tbl := List.mem_of_getElem? (i := 49) (by decide +kernel)
theorem ins_Rk : Cond.instantiable "GreatMachine$Rack" 3 ∈ lw_w := mw_ (List.mem_of_getElem? (i := 50) (by decide +kernel)) rfl
theorem mln_Mc_52 : Cond.methodLinkNest "GreatMachine$Machine" 52 y_Rk_init "GreatMachine" ∈ lw_tbl := List.mem_of_getElem? (i := 51) (by decide +kernel)
theorem ml_Rk_1 : Cond.methodLink "GreatMachine$Rack" 1 ⟨"java/lang/Object", "<init>", "()V"⟩ ∈ lw_w := mw_ (List.mem_of_getElem? (i := 54) (by decide +kernel)) rfl
theorem lk_Rk_7 : Cond.fieldLink "GreatMachine$Rack" 7 "GreatMachine$Rack" "nodes" "I" ∈ lw_w := mw_ (List.mem_of_getElem? (i := 55) (by decide +kernel)) rfl
theorem lk_Mc_87 : Cond.fieldLink "GreatMachine$Machine" 87 "GreatMachine$Rack" "nodes" "I" ∈ lw_w := mw_ (List.mem_of_getElem? (i := 56) (by decide +kernel)) rfl
theorem lk_Rk_13 : Cond.fieldLink "GreatMachine$Rack" 13 "GreatMachine$Rack" "unused" "I" ∈ lw_w := mw_ (List.mem_of_getElem? (i := 57) (by decide +kernel)) rfl
theorem lk_Mc_90 : Cond.fieldLink "GreatMachine$Machine" 90 "GreatMachine$Rack" "unused" "I" ∈ lw_w := mw_ (List.mem_of_getElem? (i := 58) (by decide +kernel)) rfl
theorem lk_Gm_139 : Cond.fieldLink "GreatMachine" 139 "GreatMachine$Rack" "unused" "I" ∈ lw_w := mw_ (List.mem_of_getElem? (i := 59) (by decide +kernel)) rfl
theorem lk_Rk_16 : Cond.fieldLink "GreatMachine$Rack" 16 "GreatMachine$Rack" "drained" "Z" ∈ lw_w := mw_ (List.mem_of_getElem? (i := 60) (by decide +kernel)) rfl
theorem lk_Gm_39 : Cond.fieldLink "GreatMachine" 39 "GreatMachine$Rack" "drained" "Z" ∈ lw_w := mw_ (List.mem_of_getElem? (i := 61) (by decide +kernel)) rfl
theorem lk_Mc_102 : Cond.fieldLink "GreatMachine$Machine" 102 "GreatMachine$Rack" "drained" "Z" ∈ lw_w := mw_ (List.mem_of_getElem? (i := 62) (by decide +kernel)) rfl
theorem ac_int : Cond.arrayClass .int ∈ lw_w := mw_ (List.mem_of_getElem? (i := 70) (by decide +kernel)) rfl
theorem ins_Ac : Cond.instantiable "GreatMachine$Account" 2 ∈ lw_w := mw_ (List.mem_of_getElem? (i := 71) (by decide +kernel)) rfl
theorem mln_Mc_53 : Cond.methodLinkNest "GreatMachine$Machine" 53 y_Ac_init "GreatMachine" ∈ lw_tbl := List.mem_of_getElem? (i := 72) (by decide +kernel)
theorem ml_Ac_1 : Cond.methodLink "GreatMachine$Account" 1 ⟨"java/lang/Object", "<init>", "()V"⟩ ∈ lw_w := mw_ (List.mem_of_getElem? (i := 75) (by decide +kernel)) rfl
theorem lk_Ac_7 : Cond.fieldLink "GreatMachine$Account" 7 "GreatMachine$Account" "shares" "I" ∈ lw_w := mw_ (List.mem_of_getElem? (i := 76) (by decide +kernel)) rfl
theorem lk_Mc_96 : Cond.fieldLink "GreatMachine$Machine" 96 "GreatMachine$Account" "shares" "I" ∈ lw_w := mw_ (List.mem_of_getElem? (i := 77) (by decide +kernel)) rfl
theorem lk_Ac_13 : Cond.fieldLink "GreatMachine$Account" 13 "GreatMachine$Account" "use" "I" ∈ lw_w := mw_ (List.mem_of_getElem? (i := 78) (by decide +kernel)) rfl
theorem lk_Gm_146 : Cond.fieldLink "GreatMachine" 146 "GreatMachine$Account" "use" "I" ∈ lw_w := mw_ (List.mem_of_getElem? (i := 79) (by decide +kernel)) rfl
theorem lk_Mc_242 : Cond.fieldLink "GreatMachine$Machine" 242 "GreatMachine$Account" "use" "I" ∈ lw_w := mw_ (List.mem_of_getElem? (i := 80) (by decide +kernel)) rfl
theorem ins_Jb : Cond.instantiable "GreatMachine$Job" 14 ∈ lw_w := mw_ (List.mem_of_getElem? (i := 86) (by decide +kernel)) rfl
theorem mln_Mc_54 : Cond.methodLinkNest "GreatMachine$Machine" 54 y_Jb_init "GreatMachine" ∈ lw_tbl := List.mem_of_getElem? (i := 87) (by decide +kernel)
theorem ml_Jb_3 : Cond.methodLink "GreatMachine$Job" 3 ⟨"java/lang/Object", "<init>", "()V"⟩ ∈ lw_w := mw_ (List.mem_of_getElem? (i := 90) (by decide +kernel)) rfl
theorem lk_Jb_15 : Cond.fieldLink "GreatMachine$Job" 15 "GreatMachine$Job" "account" "I" ∈ lw_w := mw_ (List.mem_of_getElem? (i := 91) (by decide +kernel)) rfl
theorem lk_Mc_190 : Cond.fieldLink "GreatMachine$Machine" 190 "GreatMachine$Job" "account" "I" ∈ lw_w := mw_ (List.mem_of_getElem? (i := 92) (by decide +kernel)) rfl
theorem lk_Jb_19 : Cond.fieldLink "GreatMachine$Job" 19 "GreatMachine$Job" "nodes" "I" ∈ lw_w := mw_ (List.mem_of_getElem? (i := 93) (by decide +kernel)) rfl
theorem lk_Mc_152 : Cond.fieldLink "GreatMachine$Machine" 152 "GreatMachine$Job" "nodes" "I" ∈ lw_w := mw_ (List.mem_of_getElem? (i := 94) (by decide +kernel)) rfl
theorem lk_Jb_22 : Cond.fieldLink "GreatMachine$Job" 22 "GreatMachine$Job" "licences" "I" ∈ lw_w := mw_ (List.mem_of_getElem? (i := 95) (by decide +kernel)) rfl
theorem lk_Mc_133 : Cond.fieldLink "GreatMachine$Machine" 133 "GreatMachine$Job" "licences" "I" ∈ lw_w := mw_ (List.mem_of_getElem? (i := 96) (by decide +kernel)) rfl
theorem lk_Jb_25 : Cond.fieldLink "GreatMachine$Job" 25 "GreatMachine$Job" "limit" "I" ∈ lw_w := mw_ (List.mem_of_getElem? (i := 97) (by decide +kernel)) rfl
theorem lk_Jb_28 : Cond.fieldLink "GreatMachine$Job" 28 "GreatMachine$Job" "truly" "I" ∈ lw_w := mw_ (List.mem_of_getElem? (i := 98) (by decide +kernel)) rfl
theorem lk_Mc_245 : Cond.fieldLink "GreatMachine$Machine" 245 "GreatMachine$Job" "truly" "I" ∈ lw_w := mw_ (List.mem_of_getElem? (i := 99) (by decide +kernel)) rfl
theorem lk_Jb_31 : Cond.fieldLink "GreatMachine$Job" 31 "GreatMachine$Job" "save" "I" ∈ lw_w := mw_ (List.mem_of_getElem? (i := 100) (by decide +kernel)) rfl
theorem lk_Jb_34 : Cond.fieldLink "GreatMachine$Job" 34 "GreatMachine$Job" "ahead" "I" ∈ lw_w := mw_ (List.mem_of_getElem? (i := 101) (by decide +kernel)) rfl
theorem lk_Gm_85 : Cond.fieldLink "GreatMachine" 85 "GreatMachine$Job" "ahead" "I" ∈ lw_w := mw_ (List.mem_of_getElem? (i := 102) (by decide +kernel)) rfl
theorem lk_Mc_183 : Cond.fieldLink "GreatMachine$Machine" 183 "GreatMachine$Job" "ahead" "I" ∈ lw_w := mw_ (List.mem_of_getElem? (i := 103) (by decide +kernel)) rfl
theorem lk_Jb_37 : Cond.fieldLink "GreatMachine$Job" 37 "GreatMachine$Job" "state" "I" ∈ lw_w := mw_ (List.mem_of_getElem? (i := 104) (by decide +kernel)) rfl
theorem lk_Mc_99 : Cond.fieldLink "GreatMachine$Machine" 99 "GreatMachine$Job" "state" "I" ∈ lw_w := mw_ (List.mem_of_getElem? (i := 105) (by decide +kernel)) rfl
theorem lk_Gm_82 : Cond.fieldLink "GreatMachine" 82 "GreatMachine$Job" "state" "I" ∈ lw_w := mw_ (List.mem_of_getElem? (i := 106) (by decide +kernel)) rfl
theorem lk_Jb_40 : Cond.fieldLink "GreatMachine$Job" 40 "GreatMachine$Job" "begun" "I" ∈ lw_w := mw_ (List.mem_of_getElem? (i := 107) (by decide +kernel)) rfl
theorem lk_Gm_119 : Cond.fieldLink "GreatMachine" 119 "GreatMachine$Job" "begun" "I" ∈ lw_w := mw_ (List.mem_of_getElem? (i := 108) (by decide +kernel)) rfl
theorem lk_Mc_227 : Cond.fieldLink "GreatMachine$Machine" 227 "GreatMachine$Job" "begun" "I" ∈ lw_w := mw_ (List.mem_of_getElem? (i := 109) (by decide +kernel)) rfl
theorem lk_Jb_43 : Cond.fieldLink "GreatMachine$Job" 43 "GreatMachine$Job" "ended" "I" ∈ lw_w := mw_ (List.mem_of_getElem? (i := 110) (by decide +kernel)) rfl
theorem lk_Gm_122 : Cond.fieldLink "GreatMachine" 122 "GreatMachine$Job" "ended" "I" ∈ lw_w := mw_ (List.mem_of_getElem? (i := 111) (by decide +kernel)) rfl
theorem lk_Mc_254 : Cond.fieldLink "GreatMachine$Machine" 254 "GreatMachine$Job" "ended" "I" ∈ lw_w := mw_ (List.mem_of_getElem? (i := 112) (by decide +kernel)) rfl
theorem lk_Jb_46 : Cond.fieldLink "GreatMachine$Job" 46 "GreatMachine$Job" "saved" "I" ∈ lw_w := mw_ (List.mem_of_getElem? (i := 113) (by decide +kernel)) rfl
theorem lk_Gm_125 : Cond.fieldLink "GreatMachine" 125 "GreatMachine$Job" "saved" "I" ∈ lw_w := mw_ (List.mem_of_getElem? (i := 114) (by decide +kernel)) rfl
theorem lk_Mc_248 : Cond.fieldLink "GreatMachine$Machine" 248 "GreatMachine$Job" "saved" "I" ∈ lw_w := mw_ (List.mem_of_getElem? (i := 115) (by decide +kernel)) rfl
theorem lk_Jb_49 : Cond.fieldLink "GreatMachine$Job" 49 "GreatMachine$Job" "counted" "I" ∈ lw_w := mw_ (List.mem_of_getElem? (i := 116) (by decide +kernel)) rfl
theorem lk_Mc_110 : Cond.fieldLink "GreatMachine$Machine" 110 "GreatMachine$Job" "counted" "I" ∈ lw_w := mw_ (List.mem_of_getElem? (i := 117) (by decide +kernel)) rfl
theorem lk_Jb_52 : Cond.fieldLink "GreatMachine$Job" 52 "GreatMachine$Job" "takesUntil" "I" ∈ lw_w := mw_ (List.mem_of_getElem? (i := 118) (by decide +kernel)) rfl
theorem lk_Mc_123 : Cond.fieldLink "GreatMachine$Machine" 123 "GreatMachine$Job" "takesUntil" "I" ∈ lw_w := mw_ (List.mem_of_getElem? (i := 119) (by decide +kernel)) rfl
theorem lk_Jb_9 : Cond.fieldLink "GreatMachine$Job" 9 "GreatMachine$Job" "nodesOn" "[I" ∈ lw_w := mw_ (List.mem_of_getElem? (i := 120) (by decide +kernel)) rfl
theorem lk_Mc_113 : Cond.fieldLink "GreatMachine$Machine" 113 "GreatMachine$Job" "nodesOn" "[I" ∈ lw_w := mw_ (List.mem_of_getElem? (i := 121) (by decide +kernel)) rfl
theorem lk_Gm_135 : Cond.fieldLink "GreatMachine" 135 "GreatMachine$Job" "nodesOn" "[I" ∈ lw_w := mw_ (List.mem_of_getElem? (i := 122) (by decide +kernel)) rfl
theorem ins_Hd : Cond.instantiable "GreatMachine$Hold" 4 ∈ lw_w := mw_ (List.mem_of_getElem? (i := 152) (by decide +kernel)) rfl
theorem mln_Mc_55 : Cond.methodLinkNest "GreatMachine$Machine" 55 y_Hd_init "GreatMachine" ∈ lw_tbl := List.mem_of_getElem? (i := 153) (by decide +kernel)
theorem ml_Hd_1 : Cond.methodLink "GreatMachine$Hold" 1 ⟨"java/lang/Object", "<init>", "()V"⟩ ∈ lw_w := mw_ (List.mem_of_getElem? (i := 156) (by decide +kernel)) rfl
theorem lk_Hd_7 : Cond.fieldLink "GreatMachine$Hold" 7 "GreatMachine$Hold" "nodes" "I" ∈ lw_w := mw_ (List.mem_of_getElem? (i := 157) (by decide +kernel)) rfl
theorem lk_Mc_132 : Cond.fieldLink "GreatMachine$Machine" 132 "GreatMachine$Hold" "nodes" "I" ∈ lw_w := mw_ (List.mem_of_getElem? (i := 158) (by decide +kernel)) rfl
theorem lk_Hd_13 : Cond.fieldLink "GreatMachine$Hold" 13 "GreatMachine$Hold" "licences" "I" ∈ lw_w := mw_ (List.mem_of_getElem? (i := 159) (by decide +kernel)) rfl
theorem lk_Mc_136 : Cond.fieldLink "GreatMachine$Machine" 136 "GreatMachine$Hold" "licences" "I" ∈ lw_w := mw_ (List.mem_of_getElem? (i := 160) (by decide +kernel)) rfl
theorem lk_Hd_16 : Cond.fieldLink "GreatMachine$Hold" 16 "GreatMachine$Hold" "from" "I" ∈ lw_w := mw_ (List.mem_of_getElem? (i := 161) (by decide +kernel)) rfl
theorem lk_Mc_126 : Cond.fieldLink "GreatMachine$Machine" 126 "GreatMachine$Hold" "from" "I" ∈ lw_w := mw_ (List.mem_of_getElem? (i := 162) (by decide +kernel)) rfl
theorem lk_Hd_19 : Cond.fieldLink "GreatMachine$Hold" 19 "GreatMachine$Hold" "to" "I" ∈ lw_w := mw_ (List.mem_of_getElem? (i := 163) (by decide +kernel)) rfl
theorem lk_Mc_129 : Cond.fieldLink "GreatMachine$Machine" 129 "GreatMachine$Hold" "to" "I" ∈ lw_w := mw_ (List.mem_of_getElem? (i := 164) (by decide +kernel)) rfl
theorem lk_Mc_11 : Cond.fieldLink "GreatMachine$Machine" 11 "GreatMachine$Machine" "racks" "[LGreatMachine$Rack;" ∈ lw_w := mw_ (List.mem_of_getElem? (i := 174) (by decide +kernel)) rfl
theorem lk_Gm_35 : Cond.fieldLink "GreatMachine" 35 "GreatMachine$Machine" "racks" "[LGreatMachine$Rack;" ∈ lw_w := mw_ (List.mem_of_getElem? (i := 175) (by decide +kernel)) rfl
theorem lk_Mc_19 : Cond.fieldLink "GreatMachine$Machine" 19 "GreatMachine$Machine" "accounts" "[LGreatMachine$Account;" ∈ lw_w := mw_ (List.mem_of_getElem? (i := 176) (by decide +kernel)) rfl
theorem lk_Gm_142 : Cond.fieldLink "GreatMachine" 142 "GreatMachine$Machine" "accounts" "[LGreatMachine$Account;" ∈ lw_w := mw_ (List.mem_of_getElem? (i := 177) (by decide +kernel)) rfl
theorem lk_Mc_25 : Cond.fieldLink "GreatMachine$Machine" 25 "GreatMachine$Machine" "jobs" "[LGreatMachine$Job;" ∈ lw_w := mw_ (List.mem_of_getElem? (i := 178) (by decide +kernel)) rfl
theorem lk_Gm_69 : Cond.fieldLink "GreatMachine" 69 "GreatMachine$Machine" "jobs" "[LGreatMachine$Job;" ∈ lw_w := mw_ (List.mem_of_getElem? (i := 179) (by decide +kernel)) rfl
theorem lk_Mc_31 : Cond.fieldLink "GreatMachine$Machine" 31 "GreatMachine$Machine" "holds" "[LGreatMachine$Hold;" ∈ lw_w := mw_ (List.mem_of_getElem? (i := 180) (by decide +kernel)) rfl
theorem lk_Gm_101 : Cond.fieldLink "GreatMachine" 101 "GreatMachine$Machine" "holds" "[LGreatMachine$Hold;" ∈ lw_w := mw_ (List.mem_of_getElem? (i := 181) (by decide +kernel)) rfl
theorem lk_Mc_56 : Cond.fieldLink "GreatMachine$Machine" 56 "GreatMachine$Machine" "rackCount" "I" ∈ lw_w := mw_ (List.mem_of_getElem? (i := 182) (by decide +kernel)) rfl
theorem lk_Gm_23 : Cond.fieldLink "GreatMachine" 23 "GreatMachine$Machine" "rackCount" "I" ∈ lw_w := mw_ (List.mem_of_getElem? (i := 183) (by decide +kernel)) rfl
theorem lk_Mc_59 : Cond.fieldLink "GreatMachine$Machine" 59 "GreatMachine$Machine" "accountCount" "I" ∈ lw_w := mw_ (List.mem_of_getElem? (i := 184) (by decide +kernel)) rfl
theorem lk_Gm_57 : Cond.fieldLink "GreatMachine" 57 "GreatMachine$Machine" "accountCount" "I" ∈ lw_w := mw_ (List.mem_of_getElem? (i := 185) (by decide +kernel)) rfl
theorem lk_Mc_62 : Cond.fieldLink "GreatMachine$Machine" 62 "GreatMachine$Machine" "jobCount" "I" ∈ lw_w := mw_ (List.mem_of_getElem? (i := 186) (by decide +kernel)) rfl
theorem lk_Gm_66 : Cond.fieldLink "GreatMachine" 66 "GreatMachine$Machine" "jobCount" "I" ∈ lw_w := mw_ (List.mem_of_getElem? (i := 187) (by decide +kernel)) rfl
theorem lk_Mc_65 : Cond.fieldLink "GreatMachine$Machine" 65 "GreatMachine$Machine" "holdCount" "I" ∈ lw_w := mw_ (List.mem_of_getElem? (i := 188) (by decide +kernel)) rfl
theorem lk_Gm_98 : Cond.fieldLink "GreatMachine" 98 "GreatMachine$Machine" "holdCount" "I" ∈ lw_w := mw_ (List.mem_of_getElem? (i := 189) (by decide +kernel)) rfl
theorem lk_Mc_68 : Cond.fieldLink "GreatMachine$Machine" 68 "GreatMachine$Machine" "now" "I" ∈ lw_w := mw_ (List.mem_of_getElem? (i := 190) (by decide +kernel)) rfl
theorem lk_Gm_92 : Cond.fieldLink "GreatMachine" 92 "GreatMachine$Machine" "now" "I" ∈ lw_w := mw_ (List.mem_of_getElem? (i := 191) (by decide +kernel)) rfl
theorem lk_Mc_35 : Cond.fieldLink "GreatMachine$Machine" 35 "GreatMachine$Machine" "halving" "I" ∈ lw_w := mw_ (List.mem_of_getElem? (i := 192) (by decide +kernel)) rfl
theorem lk_Gm_54 : Cond.fieldLink "GreatMachine" 54 "GreatMachine$Machine" "halving" "I" ∈ lw_w := mw_ (List.mem_of_getElem? (i := 193) (by decide +kernel)) rfl
theorem lk_Mc_39 : Cond.fieldLink "GreatMachine$Machine" 39 "GreatMachine$Machine" "licencesInAll" "I" ∈ lw_w := mw_ (List.mem_of_getElem? (i := 194) (by decide +kernel)) rfl
theorem lk_Gm_51 : Cond.fieldLink "GreatMachine" 51 "GreatMachine$Machine" "licencesInAll" "I" ∈ lw_w := mw_ (List.mem_of_getElem? (i := 195) (by decide +kernel)) rfl
theorem lk_Mc_71 : Cond.fieldLink "GreatMachine$Machine" 71 "GreatMachine$Machine" "room" "I" ∈ lw_w := mw_ (List.mem_of_getElem? (i := 196) (by decide +kernel)) rfl
theorem lk_Gm_170 : Cond.fieldLink "GreatMachine" 170 "GreatMachine$Machine" "room" "I" ∈ lw_w := mw_ (List.mem_of_getElem? (i := 197) (by decide +kernel)) rfl
theorem lk_Mc_42 : Cond.fieldLink "GreatMachine$Machine" 42 "GreatMachine$Machine" "blockedJob" "I" ∈ lw_w := mw_ (List.mem_of_getElem? (i := 198) (by decide +kernel)) rfl
theorem lk_Gm_151 : Cond.fieldLink "GreatMachine" 151 "GreatMachine$Machine" "blockedJob" "I" ∈ lw_w := mw_ (List.mem_of_getElem? (i := 199) (by decide +kernel)) rfl
theorem lk_Mc_45 : Cond.fieldLink "GreatMachine$Machine" 45 "GreatMachine$Machine" "keptFrom" "I" ∈ lw_w := mw_ (List.mem_of_getElem? (i := 200) (by decide +kernel)) rfl
theorem lk_Gm_154 : Cond.fieldLink "GreatMachine" 154 "GreatMachine$Machine" "keptFrom" "I" ∈ lw_w := mw_ (List.mem_of_getElem? (i := 201) (by decide +kernel)) rfl
theorem lk_Mc_48 : Cond.fieldLink "GreatMachine$Machine" 48 "GreatMachine$Machine" "queue" "[I" ∈ lw_w := mw_ (List.mem_of_getElem? (i := 202) (by decide +kernel)) rfl
theorem lk_Mc_173 : Cond.fieldLink "GreatMachine$Machine" 173 "GreatMachine$Machine" "queueLength" "I" ∈ lw_w := mw_ (List.mem_of_getElem? (i := 203) (by decide +kernel)) rfl
theorem lk_Gm_10 : Cond.fieldLink "GreatMachine" 10 "GreatMachine" "machine" "LGreatMachine$Machine;" ∈ lw_w := mw_ (List.mem_of_getElem? (i := 237) (by decide +kernel)) rfl
theorem lk_Gm_16 : Cond.fieldLink "GreatMachine" 16 "GreatMachine" "foresight" "LGreatMachine$Machine;" ∈ lw_w := mw_ (List.mem_of_getElem? (i := 238) (by decide +kernel)) rfl
theorem ml_La_13 : Cond.methodLink "GreatMachineLaw" 13 y_Gm_rack ∈ lw_w := mw_ (List.mem_of_getElem? (i := 244) (by decide +kernel)) rfl
theorem ml_Gm_19 : Cond.methodLink "GreatMachine" 19 y_Gm_isOutside ∈ lw_w := mw_ (List.mem_of_getElem? (i := 248) (by decide +kernel)) rfl
theorem ml_Gm_27 : Cond.methodLink "GreatMachine" 27 y_Mc_addRack ∈ lw_w := mw_ (List.mem_of_getElem? (i := 251) (by decide +kernel)) rfl
theorem ml_Mc_93 : Cond.methodLink "GreatMachine$Machine" 93 y_Mc_recount ∈ lw_w := mw_ (List.mem_of_getElem? (i := 255) (by decide +kernel)) rfl
theorem ml_Mc_106 : Cond.methodLink "GreatMachine$Machine" 106 y_Mc_countedOf ∈ lw_w := mw_ (List.mem_of_getElem? (i := 259) (by decide +kernel)) rfl
theorem ml_La_18 : Cond.methodLink "GreatMachineLaw" 18 y_Gm_drain ∈ lw_w := mw_ (List.mem_of_getElem? (i := 263) (by decide +kernel)) rfl
theorem ml_Gm_31 : Cond.methodLink "GreatMachine" 31 y_Mc_hasRack ∈ lw_w := mw_ (List.mem_of_getElem? (i := 267) (by decide +kernel)) rfl
theorem ml_Gm_45 : Cond.methodLink "GreatMachine" 45 y_Mc_recount ∈ lw_w := mw_ (List.mem_of_getElem? (i := 271) (by decide +kernel)) rfl
theorem ml_La_23 : Cond.methodLink "GreatMachineLaw" 23 y_Gm_fail ∈ lw_w := mw_ (List.mem_of_getElem? (i := 272) (by decide +kernel)) rfl
theorem ml_Gm_48 : Cond.methodLink "GreatMachine" 48 y_Mc_breakRack ∈ lw_w := mw_ (List.mem_of_getElem? (i := 276) (by decide +kernel)) rfl
theorem ml_Mc_116 : Cond.methodLink "GreatMachine$Machine" 116 y_Jb_keepWhatWasSaved ∈ lw_w := mw_ (List.mem_of_getElem? (i := 280) (by decide +kernel)) rfl
theorem ml_Jb_61 : Cond.methodLink "GreatMachine$Job" 61 y_Jb_ranUntil ∈ lw_w := mw_ (List.mem_of_getElem? (i := 284) (by decide +kernel)) rfl
theorem ml_Mc_120 : Cond.methodLink "GreatMachine$Machine" 120 y_Mc_leaveNodes ∈ lw_w := mw_ (List.mem_of_getElem? (i := 288) (by decide +kernel)) rfl
theorem ml_La_27 : Cond.methodLink "GreatMachineLaw" 27 y_Gm_licences ∈ lw_w := mw_ (List.mem_of_getElem? (i := 292) (by decide +kernel)) rfl
theorem ml_La_31 : Cond.methodLink "GreatMachineLaw" 31 y_Gm_half ∈ lw_w := mw_ (List.mem_of_getElem? (i := 296) (by decide +kernel)) rfl
theorem ml_La_35 : Cond.methodLink "GreatMachineLaw" 35 y_Gm_account ∈ lw_w := mw_ (List.mem_of_getElem? (i := 300) (by decide +kernel)) rfl
theorem ml_Gm_60 : Cond.methodLink "GreatMachine" 60 y_Mc_addAccount ∈ lw_w := mw_ (List.mem_of_getElem? (i := 304) (by decide +kernel)) rfl
theorem ml_La_39 : Cond.methodLink "GreatMachineLaw" 39 y_Gm_job ∈ lw_w := mw_ (List.mem_of_getElem? (i := 308) (by decide +kernel)) rfl
theorem ml_Gm_63 : Cond.methodLink "GreatMachine" 63 y_Mc_hasAccount ∈ lw_w := mw_ (List.mem_of_getElem? (i := 312) (by decide +kernel)) rfl
theorem ml_Gm_73 : Cond.methodLink "GreatMachine" 73 y_Jb_want ∈ lw_w := mw_ (List.mem_of_getElem? (i := 316) (by decide +kernel)) rfl
theorem ml_La_44 : Cond.methodLink "GreatMachineLaw" 44 y_Gm_behind ∈ lw_w := mw_ (List.mem_of_getElem? (i := 320) (by decide +kernel)) rfl
theorem ml_Gm_79 : Cond.methodLink "GreatMachine" 79 y_Mc_hasJob ∈ lw_w := mw_ (List.mem_of_getElem? (i := 324) (by decide +kernel)) rfl
theorem ml_La_49 : Cond.methodLink "GreatMachineLaw" 49 y_Gm_cancel ∈ lw_w := mw_ (List.mem_of_getElem? (i := 328) (by decide +kernel)) rfl
theorem ml_Gm_88 : Cond.methodLink "GreatMachine" 88 y_Mc_leaveNodes ∈ lw_w := mw_ (List.mem_of_getElem? (i := 332) (by decide +kernel)) rfl
theorem ml_La_53 : Cond.methodLink "GreatMachineLaw" 53 y_Gm_book ∈ lw_w := mw_ (List.mem_of_getElem? (i := 333) (by decide +kernel)) rfl
theorem ml_Gm_95 : Cond.methodLink "GreatMachine" 95 y_Mc_nodesFit ∈ lw_w := mw_ (List.mem_of_getElem? (i := 337) (by decide +kernel)) rfl
theorem ml_Mc_137 : Cond.methodLink "GreatMachine$Machine" 137 y_Mc_nodesTaken ∈ lw_w := mw_ (List.mem_of_getElem? (i := 341) (by decide +kernel)) rfl
theorem ml_Mc_141 : Cond.methodLink "GreatMachine$Machine" 141 y_Hd_beginsWithin ∈ lw_w := mw_ (List.mem_of_getElem? (i := 345) (by decide +kernel)) rfl
theorem ml_Gm_105 : Cond.methodLink "GreatMachine" 105 y_Hd_set ∈ lw_w := mw_ (List.mem_of_getElem? (i := 349) (by decide +kernel)) rfl
theorem ml_La_58 : Cond.methodLink "GreatMachineLaw" 58 y_Gm_unbook ∈ lw_w := mw_ (List.mem_of_getElem? (i := 353) (by decide +kernel)) rfl
theorem ml_Gm_111 : Cond.methodLink "GreatMachine" 111 y_Mc_dropBooking ∈ lw_w := mw_ (List.mem_of_getElem? (i := 357) (by decide +kernel)) rfl
theorem ml_Mc_84 : Cond.methodLink "GreatMachine$Machine" 84 y_Hd_become ∈ lw_w := mw_ (List.mem_of_getElem? (i := 361) (by decide +kernel)) rfl
theorem ml_Hd_22 : Cond.methodLink "GreatMachine$Hold" 22 y_Hd_set ∈ lw_w := mw_ (List.mem_of_getElem? (i := 365) (by decide +kernel)) rfl
theorem ml_La_62 : Cond.methodLink "GreatMachineLaw" 62 y_Gm_ticks ∈ lw_w := mw_ (List.mem_of_getElem? (i := 366) (by decide +kernel)) rfl
theorem ml_Gm_115 : Cond.methodLink "GreatMachine" 115 y_Mc_passTick ∈ lw_w := mw_ (List.mem_of_getElem? (i := 370) (by decide +kernel)) rfl
theorem ml_Mc_160 : Cond.methodLink "GreatMachine$Machine" 160 y_Mc_lineUp ∈ lw_w := mw_ (List.mem_of_getElem? (i := 374) (by decide +kernel)) rfl
theorem ml_Mc_176 : Cond.methodLink "GreatMachine$Machine" 176 y_Mc_mayBegin ∈ lw_w := mw_ (List.mem_of_getElem? (i := 378) (by decide +kernel)) rfl
theorem ml_Mc_186 : Cond.methodLink "GreatMachine$Machine" 186 y_Mc_hasJob ∈ lw_w := mw_ (List.mem_of_getElem? (i := 382) (by decide +kernel)) rfl
theorem ml_Mc_180 : Cond.methodLink "GreatMachine$Machine" 180 y_Mc_putInQueue ∈ lw_w := mw_ (List.mem_of_getElem? (i := 383) (by decide +kernel)) rfl
theorem ml_Mc_193 : Cond.methodLink "GreatMachine$Machine" 193 y_Ac_usedLessThan ∈ lw_w := mw_ (List.mem_of_getElem? (i := 387) (by decide +kernel)) rfl
theorem ml_Mc_163 : Cond.methodLink "GreatMachine$Machine" 163 y_Mc_serveQueue ∈ lw_w := mw_ (List.mem_of_getElem? (i := 391) (by decide +kernel)) rfl
theorem ml_Mc_197 : Cond.methodLink "GreatMachine$Machine" 197 y_Mc_fits ∈ lw_w := mw_ (List.mem_of_getElem? (i := 395) (by decide +kernel)) rfl
theorem ml_Mc_148 : Cond.methodLink "GreatMachine$Machine" 148 y_Jb_left ∈ lw_w := mw_ (List.mem_of_getElem? (i := 399) (by decide +kernel)) rfl
theorem ml_Mc_153 : Cond.methodLink "GreatMachine$Machine" 153 y_Mc_nodesFit ∈ lw_w := mw_ (List.mem_of_getElem? (i := 403) (by decide +kernel)) rfl
theorem ml_Mc_157 : Cond.methodLink "GreatMachine$Machine" 157 y_Mc_licencesFit ∈ lw_w := mw_ (List.mem_of_getElem? (i := 404) (by decide +kernel)) rfl
theorem ml_Mc_145 : Cond.methodLink "GreatMachine$Machine" 145 y_Mc_licencesTaken ∈ lw_w := mw_ (List.mem_of_getElem? (i := 408) (by decide +kernel)) rfl
theorem ml_Mc_201 : Cond.methodLink "GreatMachine$Machine" 201 y_Mc_begin ∈ lw_w := mw_ (List.mem_of_getElem? (i := 412) (by decide +kernel)) rfl
theorem ml_Mc_224 : Cond.methodLink "GreatMachine$Machine" 224 y_Mc_fewestRacks ∈ lw_w := mw_ (List.mem_of_getElem? (i := 416) (by decide +kernel)) rfl
theorem ml_Mc_230 : Cond.methodLink "GreatMachine$Machine" 230 y_In_bitCount ∈ lw_w := mw_ (List.mem_of_getElem? (i := 420) (by decide +kernel)) rfl
theorem kc_In_265 : Cond.constant "java/lang/Integer" 265 1431655765 ∈ lw_w := mw_ (List.mem_of_getElem? (i := 423) (by decide +kernel)) rfl
theorem kc_In_266 : Cond.constant "java/lang/Integer" 266 858993459 ∈ lw_w := mw_ (List.mem_of_getElem? (i := 424) (by decide +kernel)) rfl
theorem kc_In_267 : Cond.constant "java/lang/Integer" 267 252645135 ∈ lw_w := mw_ (List.mem_of_getElem? (i := 425) (by decide +kernel)) rfl
theorem ml_Mc_235 : Cond.methodLink "GreatMachine$Machine" 235 y_Mc_unusedOn ∈ lw_w := mw_ (List.mem_of_getElem? (i := 426) (by decide +kernel)) rfl
theorem ml_Mc_218 : Cond.methodLink "GreatMachine$Machine" 218 ⟨"java/lang/Math", "min", "(II)I"⟩ ∈ lw_w := mw_ (List.mem_of_getElem? (i := 430) (by decide +kernel)) rfl
theorem ml_Mc_204 : Cond.methodLink "GreatMachine$Machine" 204 y_Mc_firstFit ∈ lw_w := mw_ (List.mem_of_getElem? (i := 433) (by decide +kernel)) rfl
theorem ml_Mc_211 : Cond.methodLink "GreatMachine$Machine" 211 y_Mc_nextEnd ∈ lw_w := mw_ (List.mem_of_getElem? (i := 437) (by decide +kernel)) rfl
theorem ml_Mc_214 : Cond.methodLink "GreatMachine$Machine" 214 y_Mc_nearer ∈ lw_w := mw_ (List.mem_of_getElem? (i := 441) (by decide +kernel)) rfl
theorem ml_Mc_207 : Cond.methodLink "GreatMachine$Machine" 207 y_Hd_set ∈ lw_w := mw_ (List.mem_of_getElem? (i := 444) (by decide +kernel)) rfl
theorem ml_Mc_166 : Cond.methodLink "GreatMachine$Machine" 166 y_Mc_runJobs ∈ lw_w := mw_ (List.mem_of_getElem? (i := 445) (by decide +kernel)) rfl
theorem ml_Mc_238 : Cond.methodLink "GreatMachine$Machine" 238 y_Mc_runOne ∈ lw_w := mw_ (List.mem_of_getElem? (i := 449) (by decide +kernel)) rfl
theorem ml_Mc_251 : Cond.methodLink "GreatMachine$Machine" 251 y_Jb_ranUntil ∈ lw_w := mw_ (List.mem_of_getElem? (i := 453) (by decide +kernel)) rfl
theorem ml_Mc_170 : Cond.methodLink "GreatMachine$Machine" 170 y_Mc_halveUse ∈ lw_w := mw_ (List.mem_of_getElem? (i := 454) (by decide +kernel)) rfl
theorem ml_La_66 : Cond.methodLink "GreatMachineLaw" 66 y_Gm_told ∈ lw_w := mw_ (List.mem_of_getElem? (i := 458) (by decide +kernel)) rfl
theorem ml_Gm_128 : Cond.methodLink "GreatMachine" 128 y_Jb_ranUntil ∈ lw_w := mw_ (List.mem_of_getElem? (i := 462) (by decide +kernel)) rfl
theorem ml_Gm_131 : Cond.methodLink "GreatMachine" 131 y_Jb_racksHeld ∈ lw_w := mw_ (List.mem_of_getElem? (i := 463) (by decide +kernel)) rfl
theorem ml_La_70 : Cond.methodLink "GreatMachineLaw" 70 y_Gm_on ∈ lw_w := mw_ (List.mem_of_getElem? (i := 467) (by decide +kernel)) rfl
theorem ml_La_74 : Cond.methodLink "GreatMachineLaw" 74 y_Gm_free ∈ lw_w := mw_ (List.mem_of_getElem? (i := 471) (by decide +kernel)) rfl
theorem ml_La_78 : Cond.methodLink "GreatMachineLaw" 78 y_Gm_used ∈ lw_w := mw_ (List.mem_of_getElem? (i := 475) (by decide +kernel)) rfl
theorem ml_La_82 : Cond.methodLink "GreatMachineLaw" 82 y_Gm_blocked ∈ lw_w := mw_ (List.mem_of_getElem? (i := 479) (by decide +kernel)) rfl
theorem ml_La_86 : Cond.methodLink "GreatMachineLaw" 86 y_Gm_taken ∈ lw_w := mw_ (List.mem_of_getElem? (i := 483) (by decide +kernel)) rfl
theorem ml_Gm_157 : Cond.methodLink "GreatMachine" 157 y_Mc_nodesTaken ∈ lw_w := mw_ (List.mem_of_getElem? (i := 487) (by decide +kernel)) rfl
theorem ml_Gm_160 : Cond.methodLink "GreatMachine" 160 y_Mc_licencesTaken ∈ lw_w := mw_ (List.mem_of_getElem? (i := 488) (by decide +kernel)) rfl
theorem ml_La_90 : Cond.methodLink "GreatMachineLaw" 90 y_Gm_foreseen ∈ lw_w := mw_ (List.mem_of_getElem? (i := 489) (by decide +kernel)) rfl
theorem ml_Gm_163 : Cond.methodLink "GreatMachine" 163 y_Mc_become ∈ lw_w := mw_ (List.mem_of_getElem? (i := 493) (by decide +kernel)) rfl
theorem ml_Mc_74 : Cond.methodLink "GreatMachine$Machine" 74 y_Rk_become ∈ lw_w := mw_ (List.mem_of_getElem? (i := 497) (by decide +kernel)) rfl
theorem ml_Mc_78 : Cond.methodLink "GreatMachine$Machine" 78 y_Ac_become ∈ lw_w := mw_ (List.mem_of_getElem? (i := 501) (by decide +kernel)) rfl
theorem ml_Mc_81 : Cond.methodLink "GreatMachine$Machine" 81 y_Jb_become ∈ lw_w := mw_ (List.mem_of_getElem? (i := 505) (by decide +kernel)) rfl
theorem ml_Jb_55 : Cond.methodLink "GreatMachine$Job" 55 ⟨"java/lang/System", "arraycopy", "(Ljava/lang/Object;ILjava/lang/Object;II)V"⟩ ∈ lw_w := mw_ (List.mem_of_getElem? (i := 509) (by decide +kernel)) rfl
theorem ml_La_94 : Cond.methodLink "GreatMachineLaw" 94 y_Gm_count ∈ lw_w := mw_ (List.mem_of_getElem? (i := 512) (by decide +kernel)) rfl
theorem ml_Gm_167 : Cond.methodLink "GreatMachine" 167 y_Mc_jobsThatAre ∈ lw_w := mw_ (List.mem_of_getElem? (i := 516) (by decide +kernel)) rfl
theorem cl_La_10 : Cond.classLink "GreatMachineLaw" 10 "GreatMachineModel" ∈ lw_w := mw_ (List.mem_of_getElem? (i := 520) (by decide +kernel)) rfl
theorem ins_Md : Cond.instantiable "GreatMachineModel" 44 ∈ lw_w := mw_ (List.mem_of_getElem? (i := 521) (by decide +kernel)) rfl
theorem ml_La_12 : Cond.methodLink "GreatMachineLaw" 12 y_Md_init ∈ lw_w := mw_ (List.mem_of_getElem? (i := 522) (by decide +kernel)) rfl
theorem ml_Md_1 : Cond.methodLink "GreatMachineModel" 1 ⟨"java/lang/Object", "<init>", "()V"⟩ ∈ lw_w := mw_ (List.mem_of_getElem? (i := 525) (by decide +kernel)) rfl
theorem lk_Md_148 : Cond.fieldLink "GreatMachineModel" 148 "GreatMachineModel" "time" "I" ∈ lw_w := mw_ (List.mem_of_getElem? (i := 526) (by decide +kernel)) rfl
theorem lk_Md_7 : Cond.fieldLink "GreatMachineModel" 7 "GreatMachineModel" "half" "I" ∈ lw_w := mw_ (List.mem_of_getElem? (i := 527) (by decide +kernel)) rfl
theorem lk_Md_13 : Cond.fieldLink "GreatMachineModel" 13 "GreatMachineModel" "allLicences" "I" ∈ lw_w := mw_ (List.mem_of_getElem? (i := 528) (by decide +kernel)) rfl
theorem lk_Md_117 : Cond.fieldLink "GreatMachineModel" 117 "GreatMachineModel" "racks" "I" ∈ lw_w := mw_ (List.mem_of_getElem? (i := 529) (by decide +kernel)) rfl
theorem lk_Md_16 : Cond.fieldLink "GreatMachineModel" 16 "GreatMachineModel" "nodes" "[I" ∈ lw_w := mw_ (List.mem_of_getElem? (i := 530) (by decide +kernel)) rfl
theorem lk_Md_20 : Cond.fieldLink "GreatMachineModel" 20 "GreatMachineModel" "isDrained" "[Z" ∈ lw_w := mw_ (List.mem_of_getElem? (i := 531) (by decide +kernel)) rfl
theorem lk_Md_135 : Cond.fieldLink "GreatMachineModel" 135 "GreatMachineModel" "accounts" "I" ∈ lw_w := mw_ (List.mem_of_getElem? (i := 532) (by decide +kernel)) rfl
theorem lk_Md_24 : Cond.fieldLink "GreatMachineModel" 24 "GreatMachineModel" "shares" "[I" ∈ lw_w := mw_ (List.mem_of_getElem? (i := 533) (by decide +kernel)) rfl
theorem lk_Md_27 : Cond.fieldLink "GreatMachineModel" 27 "GreatMachineModel" "used" "[I" ∈ lw_w := mw_ (List.mem_of_getElem? (i := 534) (by decide +kernel)) rfl
theorem lk_Md_124 : Cond.fieldLink "GreatMachineModel" 124 "GreatMachineModel" "jobs" "I" ∈ lw_w := mw_ (List.mem_of_getElem? (i := 535) (by decide +kernel)) rfl
theorem lk_Md_30 : Cond.fieldLink "GreatMachineModel" 30 "GreatMachineModel" "account" "[I" ∈ lw_w := mw_ (List.mem_of_getElem? (i := 536) (by decide +kernel)) rfl
theorem lk_Md_33 : Cond.fieldLink "GreatMachineModel" 33 "GreatMachineModel" "wants" "[I" ∈ lw_w := mw_ (List.mem_of_getElem? (i := 537) (by decide +kernel)) rfl
theorem lk_Md_36 : Cond.fieldLink "GreatMachineModel" 36 "GreatMachineModel" "needs" "[I" ∈ lw_w := mw_ (List.mem_of_getElem? (i := 538) (by decide +kernel)) rfl
theorem lk_Md_39 : Cond.fieldLink "GreatMachineModel" 39 "GreatMachineModel" "limit" "[I" ∈ lw_w := mw_ (List.mem_of_getElem? (i := 539) (by decide +kernel)) rfl
theorem lk_Md_42 : Cond.fieldLink "GreatMachineModel" 42 "GreatMachineModel" "truly" "[I" ∈ lw_w := mw_ (List.mem_of_getElem? (i := 540) (by decide +kernel)) rfl
theorem lk_Md_45 : Cond.fieldLink "GreatMachineModel" 45 "GreatMachineModel" "save" "[I" ∈ lw_w := mw_ (List.mem_of_getElem? (i := 541) (by decide +kernel)) rfl
theorem lk_Md_48 : Cond.fieldLink "GreatMachineModel" 48 "GreatMachineModel" "ahead" "[I" ∈ lw_w := mw_ (List.mem_of_getElem? (i := 542) (by decide +kernel)) rfl
theorem lk_Md_51 : Cond.fieldLink "GreatMachineModel" 51 "GreatMachineModel" "state" "[I" ∈ lw_w := mw_ (List.mem_of_getElem? (i := 543) (by decide +kernel)) rfl
theorem lk_Md_54 : Cond.fieldLink "GreatMachineModel" 54 "GreatMachineModel" "began" "[I" ∈ lw_w := mw_ (List.mem_of_getElem? (i := 544) (by decide +kernel)) rfl
theorem lk_Md_57 : Cond.fieldLink "GreatMachineModel" 57 "GreatMachineModel" "ended" "[I" ∈ lw_w := mw_ (List.mem_of_getElem? (i := 545) (by decide +kernel)) rfl
theorem lk_Md_60 : Cond.fieldLink "GreatMachineModel" 60 "GreatMachineModel" "saved" "[I" ∈ lw_w := mw_ (List.mem_of_getElem? (i := 546) (by decide +kernel)) rfl
theorem lk_Md_63 : Cond.fieldLink "GreatMachineModel" 63 "GreatMachineModel" "ran" "[I" ∈ lw_w := mw_ (List.mem_of_getElem? (i := 547) (by decide +kernel)) rfl
theorem lk_Md_66 : Cond.fieldLink "GreatMachineModel" 66 "GreatMachineModel" "leftAt" "[I" ∈ lw_w := mw_ (List.mem_of_getElem? (i := 548) (by decide +kernel)) rfl
theorem lk_Md_69 : Cond.fieldLink "GreatMachineModel" 69 "GreatMachineModel" "on" "[I" ∈ lw_w := mw_ (List.mem_of_getElem? (i := 549) (by decide +kernel)) rfl
theorem lk_Md_145 : Cond.fieldLink "GreatMachineModel" 145 "GreatMachineModel" "bookings" "I" ∈ lw_w := mw_ (List.mem_of_getElem? (i := 550) (by decide +kernel)) rfl
theorem lk_Md_72 : Cond.fieldLink "GreatMachineModel" 72 "GreatMachineModel" "bookNodes" "[I" ∈ lw_w := mw_ (List.mem_of_getElem? (i := 551) (by decide +kernel)) rfl
theorem lk_Md_75 : Cond.fieldLink "GreatMachineModel" 75 "GreatMachineModel" "bookFrom" "[I" ∈ lw_w := mw_ (List.mem_of_getElem? (i := 552) (by decide +kernel)) rfl
theorem lk_Md_78 : Cond.fieldLink "GreatMachineModel" 78 "GreatMachineModel" "bookTo" "[I" ∈ lw_w := mw_ (List.mem_of_getElem? (i := 553) (by decide +kernel)) rfl
theorem lk_Md_81 : Cond.fieldLink "GreatMachineModel" 81 "GreatMachineModel" "blocked" "I" ∈ lw_w := mw_ (List.mem_of_getElem? (i := 554) (by decide +kernel)) rfl
theorem lk_Md_84 : Cond.fieldLink "GreatMachineModel" 84 "GreatMachineModel" "kept" "I" ∈ lw_w := mw_ (List.mem_of_getElem? (i := 555) (by decide +kernel)) rfl
theorem lk_Md_162 : Cond.fieldLink "GreatMachineModel" 162 "GreatMachineModel" "keptLeft" "I" ∈ lw_w := mw_ (List.mem_of_getElem? (i := 556) (by decide +kernel)) rfl
theorem lk_Md_190 : Cond.fieldLink "GreatMachineModel" 190 "GreatMachineModel" "isForeseen" "Z" ∈ lw_w := mw_ (List.mem_of_getElem? (i := 557) (by decide +kernel)) rfl
theorem lk_Md_165 : Cond.fieldLink "GreatMachineModel" 165 "GreatMachineModel" "roomNow" "I" ∈ lw_w := mw_ (List.mem_of_getElem? (i := 558) (by decide +kernel)) rfl
theorem lk_Md_87 : Cond.fieldLink "GreatMachineModel" 87 "GreatMachineModel" "nodesAt" "[I" ∈ lw_w := mw_ (List.mem_of_getElem? (i := 559) (by decide +kernel)) rfl
theorem lk_Md_90 : Cond.fieldLink "GreatMachineModel" 90 "GreatMachineModel" "licencesAt" "[I" ∈ lw_w := mw_ (List.mem_of_getElem? (i := 560) (by decide +kernel)) rfl
theorem lk_Md_93 : Cond.fieldLink "GreatMachineModel" 93 "GreatMachineModel" "queue" "[I" ∈ lw_w := mw_ (List.mem_of_getElem? (i := 561) (by decide +kernel)) rfl
theorem lk_Md_171 : Cond.fieldLink "GreatMachineModel" 171 "GreatMachineModel" "queued" "I" ∈ lw_w := mw_ (List.mem_of_getElem? (i := 562) (by decide +kernel)) rfl
theorem lk_Md_96 : Cond.fieldLink "GreatMachineModel" 96 "GreatMachineModel" "wasState" "[I" ∈ lw_w := mw_ (List.mem_of_getElem? (i := 563) (by decide +kernel)) rfl
theorem lk_Md_99 : Cond.fieldLink "GreatMachineModel" 99 "GreatMachineModel" "wasBegan" "[I" ∈ lw_w := mw_ (List.mem_of_getElem? (i := 564) (by decide +kernel)) rfl
theorem lk_Md_102 : Cond.fieldLink "GreatMachineModel" 102 "GreatMachineModel" "wasEnded" "[I" ∈ lw_w := mw_ (List.mem_of_getElem? (i := 565) (by decide +kernel)) rfl
theorem lk_Md_105 : Cond.fieldLink "GreatMachineModel" 105 "GreatMachineModel" "wasRan" "[I" ∈ lw_w := mw_ (List.mem_of_getElem? (i := 566) (by decide +kernel)) rfl
theorem lk_Md_108 : Cond.fieldLink "GreatMachineModel" 108 "GreatMachineModel" "wasLeft" "[I" ∈ lw_w := mw_ (List.mem_of_getElem? (i := 567) (by decide +kernel)) rfl
theorem lk_Md_111 : Cond.fieldLink "GreatMachineModel" 111 "GreatMachineModel" "wasOn" "[I" ∈ lw_w := mw_ (List.mem_of_getElem? (i := 568) (by decide +kernel)) rfl
theorem lk_Md_114 : Cond.fieldLink "GreatMachineModel" 114 "GreatMachineModel" "wasUsed" "[I" ∈ lw_w := mw_ (List.mem_of_getElem? (i := 569) (by decide +kernel)) rfl
theorem ac_boolean : Cond.arrayClass .boolean ∈ lw_w := mw_ (List.mem_of_getElem? (i := 659) (by decide +kernel)) rfl
theorem ml_La_17 : Cond.methodLink "GreatMachineLaw" 17 y_Md_rack ∈ lw_w := mw_ (List.mem_of_getElem? (i := 660) (by decide +kernel)) rfl
theorem ml_Md_120 : Cond.methodLink "GreatMachineModel" 120 y_Md_in ∈ lw_w := mw_ (List.mem_of_getElem? (i := 664) (by decide +kernel)) rfl
theorem ml_La_22 : Cond.methodLink "GreatMachineLaw" 22 y_Md_drain ∈ lw_w := mw_ (List.mem_of_getElem? (i := 667) (by decide +kernel)) rfl
theorem ml_Md_127 : Cond.methodLink "GreatMachineModel" 127 y_Md_isRack ∈ lw_w := mw_ (List.mem_of_getElem? (i := 671) (by decide +kernel)) rfl
theorem ml_La_26 : Cond.methodLink "GreatMachineLaw" 26 y_Md_fail ∈ lw_w := mw_ (List.mem_of_getElem? (i := 675) (by decide +kernel)) rfl
theorem ml_Md_131 : Cond.methodLink "GreatMachineModel" 131 y_Md_leave ∈ lw_w := mw_ (List.mem_of_getElem? (i := 679) (by decide +kernel)) rfl
theorem ml_La_30 : Cond.methodLink "GreatMachineLaw" 30 y_Md_licences ∈ lw_w := mw_ (List.mem_of_getElem? (i := 683) (by decide +kernel)) rfl
theorem ml_La_34 : Cond.methodLink "GreatMachineLaw" 34 y_Md_half ∈ lw_w := mw_ (List.mem_of_getElem? (i := 687) (by decide +kernel)) rfl
theorem ml_La_38 : Cond.methodLink "GreatMachineLaw" 38 y_Md_account ∈ lw_w := mw_ (List.mem_of_getElem? (i := 691) (by decide +kernel)) rfl
theorem ml_La_43 : Cond.methodLink "GreatMachineLaw" 43 y_Md_job ∈ lw_w := mw_ (List.mem_of_getElem? (i := 695) (by decide +kernel)) rfl
theorem ml_La_48 : Cond.methodLink "GreatMachineLaw" 48 y_Md_behind ∈ lw_w := mw_ (List.mem_of_getElem? (i := 699) (by decide +kernel)) rfl
theorem ml_Md_138 : Cond.methodLink "GreatMachineModel" 138 y_Md_isJob ∈ lw_w := mw_ (List.mem_of_getElem? (i := 703) (by decide +kernel)) rfl
theorem ml_La_52 : Cond.methodLink "GreatMachineLaw" 52 y_Md_cancel ∈ lw_w := mw_ (List.mem_of_getElem? (i := 707) (by decide +kernel)) rfl
theorem ml_La_57 : Cond.methodLink "GreatMachineLaw" 57 y_Md_book ∈ lw_w := mw_ (List.mem_of_getElem? (i := 711) (by decide +kernel)) rfl
theorem ml_Md_151 : Cond.methodLink "GreatMachineModel" 151 y_Md_room ∈ lw_w := mw_ (List.mem_of_getElem? (i := 715) (by decide +kernel)) rfl
theorem ml_Md_155 : Cond.methodLink "GreatMachineModel" 155 y_Md_takenNodes ∈ lw_w := mw_ (List.mem_of_getElem? (i := 719) (by decide +kernel)) rfl
theorem ml_Md_141 : Cond.methodLink "GreatMachineModel" 141 y_Md_runsAt ∈ lw_w := mw_ (List.mem_of_getElem? (i := 723) (by decide +kernel)) rfl
theorem ml_La_61 : Cond.methodLink "GreatMachineLaw" 61 y_Md_unbook ∈ lw_w := mw_ (List.mem_of_getElem? (i := 727) (by decide +kernel)) rfl
theorem ml_La_65 : Cond.methodLink "GreatMachineLaw" 65 y_Md_ticks ∈ lw_w := mw_ (List.mem_of_getElem? (i := 731) (by decide +kernel)) rfl
theorem ml_Md_194 : Cond.methodLink "GreatMachineModel" 194 y_Md_tick ∈ lw_w := mw_ (List.mem_of_getElem? (i := 735) (by decide +kernel)) rfl
theorem ml_Md_177 : Cond.methodLink "GreatMachineModel" 177 y_Md_findQueue ∈ lw_w := mw_ (List.mem_of_getElem? (i := 739) (by decide +kernel)) rfl
theorem ml_Md_174 : Cond.methodLink "GreatMachineModel" 174 y_Md_isAhead ∈ lw_w := mw_ (List.mem_of_getElem? (i := 743) (by decide +kernel)) rfl
theorem ml_Md_180 : Cond.methodLink "GreatMachineModel" 180 y_Md_findTaken ∈ lw_w := mw_ (List.mem_of_getElem? (i := 747) (by decide +kernel)) rfl
theorem ml_Md_183 : Cond.methodLink "GreatMachineModel" 183 y_Md_fits ∈ lw_w := mw_ (List.mem_of_getElem? (i := 751) (by decide +kernel)) rfl
theorem ml_Md_159 : Cond.methodLink "GreatMachineModel" 159 y_Md_leftOf ∈ lw_w := mw_ (List.mem_of_getElem? (i := 755) (by decide +kernel)) rfl
theorem ml_Md_187 : Cond.methodLink "GreatMachineModel" 187 y_Md_begin ∈ lw_w := mw_ (List.mem_of_getElem? (i := 759) (by decide +kernel)) rfl
theorem ml_Md_168 : Cond.methodLink "GreatMachineModel" 168 y_Md_freeOn ∈ lw_w := mw_ (List.mem_of_getElem? (i := 763) (by decide +kernel)) rfl
theorem ml_La_69 : Cond.methodLink "GreatMachineLaw" 69 y_Md_told ∈ lw_w := mw_ (List.mem_of_getElem? (i := 767) (by decide +kernel)) rfl
theorem ml_La_73 : Cond.methodLink "GreatMachineLaw" 73 y_Md_on ∈ lw_w := mw_ (List.mem_of_getElem? (i := 771) (by decide +kernel)) rfl
theorem ml_La_77 : Cond.methodLink "GreatMachineLaw" 77 y_Md_free ∈ lw_w := mw_ (List.mem_of_getElem? (i := 775) (by decide +kernel)) rfl
theorem ml_La_81 : Cond.methodLink "GreatMachineLaw" 81 y_Md_used ∈ lw_w := mw_ (List.mem_of_getElem? (i := 779) (by decide +kernel)) rfl
theorem ml_La_85 : Cond.methodLink "GreatMachineLaw" 85 y_Md_blocked ∈ lw_w := mw_ (List.mem_of_getElem? (i := 783) (by decide +kernel)) rfl
theorem ml_La_89 : Cond.methodLink "GreatMachineLaw" 89 y_Md_taken ∈ lw_w := mw_ (List.mem_of_getElem? (i := 787) (by decide +kernel)) rfl
theorem ml_Md_197 : Cond.methodLink "GreatMachineModel" 197 y_Md_takenLicences ∈ lw_w := mw_ (List.mem_of_getElem? (i := 791) (by decide +kernel)) rfl
theorem ml_La_93 : Cond.methodLink "GreatMachineLaw" 93 y_Md_foreseen ∈ lw_w := mw_ (List.mem_of_getElem? (i := 795) (by decide +kernel)) rfl
theorem ml_Md_200 : Cond.methodLink "GreatMachineModel" 200 y_Md_keep ∈ lw_w := mw_ (List.mem_of_getElem? (i := 799) (by decide +kernel)) rfl
theorem ml_Md_203 : Cond.methodLink "GreatMachineModel" 203 y_Md_putBack ∈ lw_w := mw_ (List.mem_of_getElem? (i := 803) (by decide +kernel)) rfl
theorem ml_La_97 : Cond.methodLink "GreatMachineLaw" 97 y_Md_count ∈ lw_w := mw_ (List.mem_of_getElem? (i := 807) (by decide +kernel)) rfl
end
section
theorem d_Gm_init_0 : decode b_Gm_init 0 = .ok (.aload_n 0, 1) := by decide +kernel
theorem d_Gm_init_1 : decode b_Gm_init 1 = .ok (.invokespecial 1, 3) := by decide +kernel
theorem d_Gm_init_4 : decode b_Gm_init 4 = .ok (.aload_n 0, 1) := by decide +kernel
theorem d_Gm_init_5 : decode b_Gm_init 5 = .ok (.new 7, 3) := by decide +kernel
theorem d_Gm_init_8 : decode b_Gm_init 8 = .ok (.dup, 1) := by decide +kernel
theorem d_Gm_init_9 : decode b_Gm_init 9 = .ok (.invokespecial 9, 3) := by decide +kernel
theorem d_Gm_init_12 : decode b_Gm_init 12 = .ok (.putfield 10, 3) := by decide +kernel
theorem d_Gm_init_15 : decode b_Gm_init 15 = .ok (.aload_n 0, 1) := by decide +kernel
theorem d_Gm_init_16 : decode b_Gm_init 16 = .ok (.new 7, 3) := by decide +kernel
theorem d_Gm_init_19 : decode b_Gm_init 19 = .ok (.dup, 1) := by decide +kernel
theorem d_Gm_init_20 : decode b_Gm_init 20 = .ok (.invokespecial 9, 3) := by decide +kernel
theorem d_Gm_init_23 : decode b_Gm_init 23 = .ok (.putfield 16, 3) := by decide +kernel
theorem d_Gm_init_26 : decode b_Gm_init 26 = .ok (.return_, 1) := by decide +kernel
theorem d_Gm_rack_0 : decode b_Gm_rack 0 = .ok (.iload_n 1, 1) := by decide +kernel
theorem d_Gm_rack_1 : decode b_Gm_rack 1 = .ok (.iconst 1, 1) := by decide +kernel
theorem d_Gm_rack_2 : decode b_Gm_rack 2 = .ok (.bipush (16), 2) := by decide +kernel
theorem d_Gm_rack_4 : decode b_Gm_rack 4 = .ok (.invokestatic 19, 3) := by decide +kernel
theorem d_Gm_rack_7 : decode b_Gm_rack 7 = .ok (.ifCond .eq (6), 3) := by decide +kernel
theorem d_Gm_rack_10 : decode b_Gm_rack 10 = .ok (.bipush (-3), 2) := by decide +kernel
theorem d_Gm_rack_12 : decode b_Gm_rack 12 = .ok (.ireturn, 1) := by decide +kernel
theorem d_Gm_rack_13 : decode b_Gm_rack 13 = .ok (.aload_n 0, 1) := by decide +kernel
theorem d_Gm_rack_14 : decode b_Gm_rack 14 = .ok (.getfield 10, 3) := by decide +kernel
theorem d_Gm_rack_17 : decode b_Gm_rack 17 = .ok (.getfield 23, 3) := by decide +kernel
theorem d_Gm_rack_20 : decode b_Gm_rack 20 = .ok (.iconst 4, 1) := by decide +kernel
theorem d_Gm_rack_21 : decode b_Gm_rack 21 = .ok (.if_icmp .lt (6), 3) := by decide +kernel
theorem d_Gm_rack_24 : decode b_Gm_rack 24 = .ok (.bipush (-5), 2) := by decide +kernel
theorem d_Gm_rack_26 : decode b_Gm_rack 26 = .ok (.ireturn, 1) := by decide +kernel
theorem d_Gm_rack_27 : decode b_Gm_rack 27 = .ok (.aload_n 0, 1) := by decide +kernel
theorem d_Gm_rack_28 : decode b_Gm_rack 28 = .ok (.getfield 10, 3) := by decide +kernel
theorem d_Gm_rack_31 : decode b_Gm_rack 31 = .ok (.iload_n 1, 1) := by decide +kernel
theorem d_Gm_rack_32 : decode b_Gm_rack 32 = .ok (.invokevirtual 27, 3) := by decide +kernel
theorem d_Gm_rack_35 : decode b_Gm_rack 35 = .ok (.ireturn, 1) := by decide +kernel
theorem d_Gm_drain_0 : decode b_Gm_drain 0 = .ok (.aload_n 0, 1) := by decide +kernel
theorem d_Gm_drain_1 : decode b_Gm_drain 1 = .ok (.getfield 10, 3) := by decide +kernel
theorem d_Gm_drain_4 : decode b_Gm_drain 4 = .ok (.iload_n 1, 1) := by decide +kernel
theorem d_Gm_drain_5 : decode b_Gm_drain 5 = .ok (.invokevirtual 31, 3) := by decide +kernel
theorem d_Gm_drain_8 : decode b_Gm_drain 8 = .ok (.ifCond .ne (6), 3) := by decide +kernel
theorem d_Gm_drain_11 : decode b_Gm_drain 11 = .ok (.bipush (-2), 2) := by decide +kernel
theorem d_Gm_drain_13 : decode b_Gm_drain 13 = .ok (.ireturn, 1) := by decide +kernel
theorem d_Gm_drain_14 : decode b_Gm_drain 14 = .ok (.aload_n 0, 1) := by decide +kernel
theorem d_Gm_drain_15 : decode b_Gm_drain 15 = .ok (.getfield 10, 3) := by decide +kernel
theorem d_Gm_drain_18 : decode b_Gm_drain 18 = .ok (.getfield 35, 3) := by decide +kernel
theorem d_Gm_drain_21 : decode b_Gm_drain 21 = .ok (.iload_n 1, 1) := by decide +kernel
theorem d_Gm_drain_22 : decode b_Gm_drain 22 = .ok (.aaload, 1) := by decide +kernel
theorem d_Gm_drain_23 : decode b_Gm_drain 23 = .ok (.getfield 39, 3) := by decide +kernel
theorem d_Gm_drain_26 : decode b_Gm_drain 26 = .ok (.ifCond .eq (7), 3) := by decide +kernel
theorem d_Gm_drain_29 : decode b_Gm_drain 29 = .ok (.iconst 1, 1) := by decide +kernel
theorem d_Gm_drain_30 : decode b_Gm_drain 30 = .ok (.goto (4), 3) := by decide +kernel
theorem d_Gm_drain_33 : decode b_Gm_drain 33 = .ok (.iconst 0, 1) := by decide +kernel
theorem d_Gm_drain_34 : decode b_Gm_drain 34 = .ok (.istore_n 3, 1) := by decide +kernel
theorem d_Gm_drain_35 : decode b_Gm_drain 35 = .ok (.aload_n 0, 1) := by decide +kernel
theorem d_Gm_drain_36 : decode b_Gm_drain 36 = .ok (.getfield 10, 3) := by decide +kernel
theorem d_Gm_drain_39 : decode b_Gm_drain 39 = .ok (.getfield 35, 3) := by decide +kernel
theorem d_Gm_drain_42 : decode b_Gm_drain 42 = .ok (.iload_n 1, 1) := by decide +kernel
theorem d_Gm_drain_43 : decode b_Gm_drain 43 = .ok (.aaload, 1) := by decide +kernel
theorem d_Gm_drain_44 : decode b_Gm_drain 44 = .ok (.iload_n 2, 1) := by decide +kernel
theorem d_Gm_drain_45 : decode b_Gm_drain 45 = .ok (.putfield 39, 3) := by decide +kernel
theorem d_Gm_drain_48 : decode b_Gm_drain 48 = .ok (.aload_n 0, 1) := by decide +kernel
theorem d_Gm_drain_49 : decode b_Gm_drain 49 = .ok (.getfield 10, 3) := by decide +kernel
theorem d_Gm_drain_52 : decode b_Gm_drain 52 = .ok (.invokevirtual 45, 3) := by decide +kernel
theorem d_Gm_drain_55 : decode b_Gm_drain 55 = .ok (.iload_n 3, 1) := by decide +kernel
theorem d_Gm_drain_56 : decode b_Gm_drain 56 = .ok (.ireturn, 1) := by decide +kernel
theorem d_Gm_fail_0 : decode b_Gm_fail 0 = .ok (.aload_n 0, 1) := by decide +kernel
theorem d_Gm_fail_1 : decode b_Gm_fail 1 = .ok (.getfield 10, 3) := by decide +kernel
theorem d_Gm_fail_4 : decode b_Gm_fail 4 = .ok (.iload_n 1, 1) := by decide +kernel
theorem d_Gm_fail_5 : decode b_Gm_fail 5 = .ok (.invokevirtual 31, 3) := by decide +kernel
theorem d_Gm_fail_8 : decode b_Gm_fail 8 = .ok (.ifCond .ne (6), 3) := by decide +kernel
theorem d_Gm_fail_11 : decode b_Gm_fail 11 = .ok (.bipush (-2), 2) := by decide +kernel
theorem d_Gm_fail_13 : decode b_Gm_fail 13 = .ok (.ireturn, 1) := by decide +kernel
theorem d_Gm_fail_14 : decode b_Gm_fail 14 = .ok (.aload_n 0, 1) := by decide +kernel
theorem d_Gm_fail_15 : decode b_Gm_fail 15 = .ok (.getfield 10, 3) := by decide +kernel
theorem d_Gm_fail_18 : decode b_Gm_fail 18 = .ok (.iload_n 1, 1) := by decide +kernel
theorem d_Gm_fail_19 : decode b_Gm_fail 19 = .ok (.invokevirtual 48, 3) := by decide +kernel
theorem d_Gm_fail_22 : decode b_Gm_fail 22 = .ok (.ireturn, 1) := by decide +kernel
theorem d_Gm_licences_0 : decode b_Gm_licences 0 = .ok (.iload_n 1, 1) := by decide +kernel
theorem d_Gm_licences_1 : decode b_Gm_licences 1 = .ok (.iconst 0, 1) := by decide +kernel
theorem d_Gm_licences_2 : decode b_Gm_licences 2 = .ok (.bipush (100), 2) := by decide +kernel
theorem d_Gm_licences_4 : decode b_Gm_licences 4 = .ok (.invokestatic 19, 3) := by decide +kernel
theorem d_Gm_licences_7 : decode b_Gm_licences 7 = .ok (.ifCond .eq (6), 3) := by decide +kernel
theorem d_Gm_licences_10 : decode b_Gm_licences 10 = .ok (.bipush (-3), 2) := by decide +kernel
theorem d_Gm_licences_12 : decode b_Gm_licences 12 = .ok (.ireturn, 1) := by decide +kernel
theorem d_Gm_licences_13 : decode b_Gm_licences 13 = .ok (.aload_n 0, 1) := by decide +kernel
theorem d_Gm_licences_14 : decode b_Gm_licences 14 = .ok (.getfield 10, 3) := by decide +kernel
theorem d_Gm_licences_17 : decode b_Gm_licences 17 = .ok (.getfield 51, 3) := by decide +kernel
theorem d_Gm_licences_20 : decode b_Gm_licences 20 = .ok (.istore_n 2, 1) := by decide +kernel
theorem d_Gm_licences_21 : decode b_Gm_licences 21 = .ok (.aload_n 0, 1) := by decide +kernel
theorem d_Gm_licences_22 : decode b_Gm_licences 22 = .ok (.getfield 10, 3) := by decide +kernel
theorem d_Gm_licences_25 : decode b_Gm_licences 25 = .ok (.iload_n 1, 1) := by decide +kernel
theorem d_Gm_licences_26 : decode b_Gm_licences 26 = .ok (.putfield 51, 3) := by decide +kernel
theorem d_Gm_licences_29 : decode b_Gm_licences 29 = .ok (.iload_n 2, 1) := by decide +kernel
theorem d_Gm_licences_30 : decode b_Gm_licences 30 = .ok (.ireturn, 1) := by decide +kernel
theorem d_Gm_half_0 : decode b_Gm_half 0 = .ok (.iload_n 1, 1) := by decide +kernel
theorem d_Gm_half_1 : decode b_Gm_half 1 = .ok (.iconst 1, 1) := by decide +kernel
theorem d_Gm_half_2 : decode b_Gm_half 2 = .ok (.sipush (1000), 3) := by decide +kernel
theorem d_Gm_half_5 : decode b_Gm_half 5 = .ok (.invokestatic 19, 3) := by decide +kernel
theorem d_Gm_half_8 : decode b_Gm_half 8 = .ok (.ifCond .eq (6), 3) := by decide +kernel
theorem d_Gm_half_11 : decode b_Gm_half 11 = .ok (.bipush (-3), 2) := by decide +kernel
theorem d_Gm_half_13 : decode b_Gm_half 13 = .ok (.ireturn, 1) := by decide +kernel
theorem d_Gm_half_14 : decode b_Gm_half 14 = .ok (.aload_n 0, 1) := by decide +kernel
theorem d_Gm_half_15 : decode b_Gm_half 15 = .ok (.getfield 10, 3) := by decide +kernel
theorem d_Gm_half_18 : decode b_Gm_half 18 = .ok (.getfield 54, 3) := by decide +kernel
theorem d_Gm_half_21 : decode b_Gm_half 21 = .ok (.istore_n 2, 1) := by decide +kernel
theorem d_Gm_half_22 : decode b_Gm_half 22 = .ok (.aload_n 0, 1) := by decide +kernel
theorem d_Gm_half_23 : decode b_Gm_half 23 = .ok (.getfield 10, 3) := by decide +kernel
theorem d_Gm_half_26 : decode b_Gm_half 26 = .ok (.iload_n 1, 1) := by decide +kernel
theorem d_Gm_half_27 : decode b_Gm_half 27 = .ok (.putfield 54, 3) := by decide +kernel
theorem d_Gm_half_30 : decode b_Gm_half 30 = .ok (.iload_n 2, 1) := by decide +kernel
theorem d_Gm_half_31 : decode b_Gm_half 31 = .ok (.ireturn, 1) := by decide +kernel
theorem d_Gm_account_0 : decode b_Gm_account 0 = .ok (.iload_n 1, 1) := by decide +kernel
theorem d_Gm_account_1 : decode b_Gm_account 1 = .ok (.iconst 1, 1) := by decide +kernel
theorem d_Gm_account_2 : decode b_Gm_account 2 = .ok (.bipush (100), 2) := by decide +kernel
theorem d_Gm_account_4 : decode b_Gm_account 4 = .ok (.invokestatic 19, 3) := by decide +kernel
theorem d_Gm_account_7 : decode b_Gm_account 7 = .ok (.ifCond .eq (6), 3) := by decide +kernel
theorem d_Gm_account_10 : decode b_Gm_account 10 = .ok (.bipush (-3), 2) := by decide +kernel
theorem d_Gm_account_12 : decode b_Gm_account 12 = .ok (.ireturn, 1) := by decide +kernel
theorem d_Gm_account_13 : decode b_Gm_account 13 = .ok (.aload_n 0, 1) := by decide +kernel
theorem d_Gm_account_14 : decode b_Gm_account 14 = .ok (.getfield 10, 3) := by decide +kernel
theorem d_Gm_account_17 : decode b_Gm_account 17 = .ok (.getfield 57, 3) := by decide +kernel
theorem d_Gm_account_20 : decode b_Gm_account 20 = .ok (.bipush (6), 2) := by decide +kernel
theorem d_Gm_account_22 : decode b_Gm_account 22 = .ok (.if_icmp .lt (6), 3) := by decide +kernel
theorem d_Gm_account_25 : decode b_Gm_account 25 = .ok (.bipush (-5), 2) := by decide +kernel
theorem d_Gm_account_27 : decode b_Gm_account 27 = .ok (.ireturn, 1) := by decide +kernel
theorem d_Gm_account_28 : decode b_Gm_account 28 = .ok (.aload_n 0, 1) := by decide +kernel
theorem d_Gm_account_29 : decode b_Gm_account 29 = .ok (.getfield 10, 3) := by decide +kernel
theorem d_Gm_account_32 : decode b_Gm_account 32 = .ok (.iload_n 1, 1) := by decide +kernel
theorem d_Gm_account_33 : decode b_Gm_account 33 = .ok (.invokevirtual 60, 3) := by decide +kernel
theorem d_Gm_account_36 : decode b_Gm_account 36 = .ok (.ireturn, 1) := by decide +kernel
theorem d_Gm_job_0 : decode b_Gm_job 0 = .ok (.aload_n 0, 1) := by decide +kernel
theorem d_Gm_job_1 : decode b_Gm_job 1 = .ok (.getfield 10, 3) := by decide +kernel
theorem d_Gm_job_4 : decode b_Gm_job 4 = .ok (.iload_n 1, 1) := by decide +kernel
theorem d_Gm_job_5 : decode b_Gm_job 5 = .ok (.invokevirtual 63, 3) := by decide +kernel
theorem d_Gm_job_8 : decode b_Gm_job 8 = .ok (.ifCond .ne (6), 3) := by decide +kernel
theorem d_Gm_job_11 : decode b_Gm_job 11 = .ok (.bipush (-2), 2) := by decide +kernel
theorem d_Gm_job_13 : decode b_Gm_job 13 = .ok (.ireturn, 1) := by decide +kernel
theorem d_Gm_job_14 : decode b_Gm_job 14 = .ok (.iload_n 2, 1) := by decide +kernel
theorem d_Gm_job_15 : decode b_Gm_job 15 = .ok (.iconst 1, 1) := by decide +kernel
theorem d_Gm_job_16 : decode b_Gm_job 16 = .ok (.bipush (64), 2) := by decide +kernel
theorem d_Gm_job_18 : decode b_Gm_job 18 = .ok (.invokestatic 19, 3) := by decide +kernel
theorem d_Gm_job_21 : decode b_Gm_job 21 = .ok (.ifCond .ne (46), 3) := by decide +kernel
theorem d_Gm_job_24 : decode b_Gm_job 24 = .ok (.iload_n 3, 1) := by decide +kernel
theorem d_Gm_job_25 : decode b_Gm_job 25 = .ok (.iconst 0, 1) := by decide +kernel
theorem d_Gm_job_26 : decode b_Gm_job 26 = .ok (.bipush (100), 2) := by decide +kernel
theorem d_Gm_job_28 : decode b_Gm_job 28 = .ok (.invokestatic 19, 3) := by decide +kernel
theorem d_Gm_job_31 : decode b_Gm_job 31 = .ok (.ifCond .ne (36), 3) := by decide +kernel
theorem d_Gm_job_34 : decode b_Gm_job 34 = .ok (.iload 4, 2) := by decide +kernel
theorem d_Gm_job_36 : decode b_Gm_job 36 = .ok (.iconst 1, 1) := by decide +kernel
theorem d_Gm_job_37 : decode b_Gm_job 37 = .ok (.bipush (50), 2) := by decide +kernel
theorem d_Gm_job_39 : decode b_Gm_job 39 = .ok (.invokestatic 19, 3) := by decide +kernel
theorem d_Gm_job_42 : decode b_Gm_job 42 = .ok (.ifCond .ne (25), 3) := by decide +kernel
theorem d_Gm_job_45 : decode b_Gm_job 45 = .ok (.iload 5, 2) := by decide +kernel
theorem d_Gm_job_47 : decode b_Gm_job 47 = .ok (.iconst 1, 1) := by decide +kernel
theorem d_Gm_job_48 : decode b_Gm_job 48 = .ok (.iload 4, 2) := by decide +kernel
theorem d_Gm_job_50 : decode b_Gm_job 50 = .ok (.invokestatic 19, 3) := by decide +kernel
theorem d_Gm_job_53 : decode b_Gm_job 53 = .ok (.ifCond .ne (14), 3) := by decide +kernel
theorem d_Gm_job_56 : decode b_Gm_job 56 = .ok (.iload 6, 2) := by decide +kernel
theorem d_Gm_job_58 : decode b_Gm_job 58 = .ok (.iconst 0, 1) := by decide +kernel
theorem d_Gm_job_59 : decode b_Gm_job 59 = .ok (.bipush (50), 2) := by decide +kernel
theorem d_Gm_job_61 : decode b_Gm_job 61 = .ok (.invokestatic 19, 3) := by decide +kernel
theorem d_Gm_job_64 : decode b_Gm_job 64 = .ok (.ifCond .eq (6), 3) := by decide +kernel
theorem d_Gm_job_67 : decode b_Gm_job 67 = .ok (.bipush (-3), 2) := by decide +kernel
theorem d_Gm_job_69 : decode b_Gm_job 69 = .ok (.ireturn, 1) := by decide +kernel
theorem d_Gm_job_70 : decode b_Gm_job 70 = .ok (.aload_n 0, 1) := by decide +kernel
theorem d_Gm_job_71 : decode b_Gm_job 71 = .ok (.getfield 10, 3) := by decide +kernel
theorem d_Gm_job_74 : decode b_Gm_job 74 = .ok (.getfield 66, 3) := by decide +kernel
theorem d_Gm_job_77 : decode b_Gm_job 77 = .ok (.bipush (30), 2) := by decide +kernel
theorem d_Gm_job_79 : decode b_Gm_job 79 = .ok (.if_icmp .lt (6), 3) := by decide +kernel
theorem d_Gm_job_82 : decode b_Gm_job 82 = .ok (.bipush (-5), 2) := by decide +kernel
theorem d_Gm_job_84 : decode b_Gm_job 84 = .ok (.ireturn, 1) := by decide +kernel
theorem d_Gm_job_85 : decode b_Gm_job 85 = .ok (.aload_n 0, 1) := by decide +kernel
theorem d_Gm_job_86 : decode b_Gm_job 86 = .ok (.getfield 10, 3) := by decide +kernel
theorem d_Gm_job_89 : decode b_Gm_job 89 = .ok (.getfield 66, 3) := by decide +kernel
theorem d_Gm_job_92 : decode b_Gm_job 92 = .ok (.istore 7, 2) := by decide +kernel
theorem d_Gm_job_94 : decode b_Gm_job 94 = .ok (.aload_n 0, 1) := by decide +kernel
theorem d_Gm_job_95 : decode b_Gm_job 95 = .ok (.getfield 10, 3) := by decide +kernel
theorem d_Gm_job_98 : decode b_Gm_job 98 = .ok (.getfield 69, 3) := by decide +kernel
theorem d_Gm_job_101 : decode b_Gm_job 101 = .ok (.iload 7, 2) := by decide +kernel
theorem d_Gm_job_103 : decode b_Gm_job 103 = .ok (.aaload, 1) := by decide +kernel
theorem d_Gm_job_104 : decode b_Gm_job 104 = .ok (.iload_n 1, 1) := by decide +kernel
theorem d_Gm_job_105 : decode b_Gm_job 105 = .ok (.iload_n 2, 1) := by decide +kernel
theorem d_Gm_job_106 : decode b_Gm_job 106 = .ok (.iload_n 3, 1) := by decide +kernel
theorem d_Gm_job_107 : decode b_Gm_job 107 = .ok (.iload 4, 2) := by decide +kernel
theorem d_Gm_job_109 : decode b_Gm_job 109 = .ok (.iload 5, 2) := by decide +kernel
theorem d_Gm_job_111 : decode b_Gm_job 111 = .ok (.iload 6, 2) := by decide +kernel
theorem d_Gm_job_113 : decode b_Gm_job 113 = .ok (.invokevirtual 73, 3) := by decide +kernel
theorem d_Gm_job_116 : decode b_Gm_job 116 = .ok (.aload_n 0, 1) := by decide +kernel
theorem d_Gm_job_117 : decode b_Gm_job 117 = .ok (.getfield 10, 3) := by decide +kernel
theorem d_Gm_job_120 : decode b_Gm_job 120 = .ok (.dup, 1) := by decide +kernel
theorem d_Gm_job_121 : decode b_Gm_job 121 = .ok (.getfield 66, 3) := by decide +kernel
theorem d_Gm_job_124 : decode b_Gm_job 124 = .ok (.iconst 1, 1) := by decide +kernel
theorem d_Gm_job_125 : decode b_Gm_job 125 = .ok (.iadd, 1) := by decide +kernel
theorem d_Gm_job_126 : decode b_Gm_job 126 = .ok (.putfield 66, 3) := by decide +kernel
theorem d_Gm_job_129 : decode b_Gm_job 129 = .ok (.iload 7, 2) := by decide +kernel
theorem d_Gm_job_131 : decode b_Gm_job 131 = .ok (.ireturn, 1) := by decide +kernel
theorem d_Gm_behind_0 : decode b_Gm_behind 0 = .ok (.aload_n 0, 1) := by decide +kernel
theorem d_Gm_behind_1 : decode b_Gm_behind 1 = .ok (.getfield 10, 3) := by decide +kernel
theorem d_Gm_behind_4 : decode b_Gm_behind 4 = .ok (.iload_n 1, 1) := by decide +kernel
theorem d_Gm_behind_5 : decode b_Gm_behind 5 = .ok (.invokevirtual 79, 3) := by decide +kernel
theorem d_Gm_behind_8 : decode b_Gm_behind 8 = .ok (.ifCond .eq (19), 3) := by decide +kernel
theorem d_Gm_behind_11 : decode b_Gm_behind 11 = .ok (.iload_n 2, 1) := by decide +kernel
theorem d_Gm_behind_12 : decode b_Gm_behind 12 = .ok (.iconst (-1), 1) := by decide +kernel
theorem d_Gm_behind_13 : decode b_Gm_behind 13 = .ok (.if_icmp .eq (17), 3) := by decide +kernel
theorem d_Gm_behind_16 : decode b_Gm_behind 16 = .ok (.aload_n 0, 1) := by decide +kernel
theorem d_Gm_behind_17 : decode b_Gm_behind 17 = .ok (.getfield 10, 3) := by decide +kernel
theorem d_Gm_behind_20 : decode b_Gm_behind 20 = .ok (.iload_n 2, 1) := by decide +kernel
theorem d_Gm_behind_21 : decode b_Gm_behind 21 = .ok (.invokevirtual 79, 3) := by decide +kernel
theorem d_Gm_behind_24 : decode b_Gm_behind 24 = .ok (.ifCond .ne (6), 3) := by decide +kernel
theorem d_Gm_behind_27 : decode b_Gm_behind 27 = .ok (.bipush (-2), 2) := by decide +kernel
theorem d_Gm_behind_29 : decode b_Gm_behind 29 = .ok (.ireturn, 1) := by decide +kernel
theorem d_Gm_behind_30 : decode b_Gm_behind 30 = .ok (.iload_n 2, 1) := by decide +kernel
theorem d_Gm_behind_31 : decode b_Gm_behind 31 = .ok (.iload_n 1, 1) := by decide +kernel
theorem d_Gm_behind_32 : decode b_Gm_behind 32 = .ok (.if_icmp .lt (6), 3) := by decide +kernel
theorem d_Gm_behind_35 : decode b_Gm_behind 35 = .ok (.bipush (-3), 2) := by decide +kernel
theorem d_Gm_behind_37 : decode b_Gm_behind 37 = .ok (.ireturn, 1) := by decide +kernel
theorem d_Gm_behind_38 : decode b_Gm_behind 38 = .ok (.aload_n 0, 1) := by decide +kernel
theorem d_Gm_behind_39 : decode b_Gm_behind 39 = .ok (.getfield 10, 3) := by decide +kernel
theorem d_Gm_behind_42 : decode b_Gm_behind 42 = .ok (.getfield 69, 3) := by decide +kernel
theorem d_Gm_behind_45 : decode b_Gm_behind 45 = .ok (.iload_n 1, 1) := by decide +kernel
theorem d_Gm_behind_46 : decode b_Gm_behind 46 = .ok (.aaload, 1) := by decide +kernel
theorem d_Gm_behind_47 : decode b_Gm_behind 47 = .ok (.getfield 82, 3) := by decide +kernel
theorem d_Gm_behind_50 : decode b_Gm_behind 50 = .ok (.ifCond .eq (6), 3) := by decide +kernel
theorem d_Gm_behind_53 : decode b_Gm_behind 53 = .ok (.bipush (-4), 2) := by decide +kernel
theorem d_Gm_behind_55 : decode b_Gm_behind 55 = .ok (.ireturn, 1) := by decide +kernel
theorem d_Gm_behind_56 : decode b_Gm_behind 56 = .ok (.aload_n 0, 1) := by decide +kernel
theorem d_Gm_behind_57 : decode b_Gm_behind 57 = .ok (.getfield 10, 3) := by decide +kernel
theorem d_Gm_behind_60 : decode b_Gm_behind 60 = .ok (.getfield 69, 3) := by decide +kernel
theorem d_Gm_behind_63 : decode b_Gm_behind 63 = .ok (.iload_n 1, 1) := by decide +kernel
theorem d_Gm_behind_64 : decode b_Gm_behind 64 = .ok (.aaload, 1) := by decide +kernel
theorem d_Gm_behind_65 : decode b_Gm_behind 65 = .ok (.iload_n 2, 1) := by decide +kernel
theorem d_Gm_behind_66 : decode b_Gm_behind 66 = .ok (.putfield 85, 3) := by decide +kernel
theorem d_Gm_behind_69 : decode b_Gm_behind 69 = .ok (.iconst 1, 1) := by decide +kernel
theorem d_Gm_behind_70 : decode b_Gm_behind 70 = .ok (.ireturn, 1) := by decide +kernel
theorem d_Gm_cancel_0 : decode b_Gm_cancel 0 = .ok (.aload_n 0, 1) := by decide +kernel
theorem d_Gm_cancel_1 : decode b_Gm_cancel 1 = .ok (.getfield 10, 3) := by decide +kernel
theorem d_Gm_cancel_4 : decode b_Gm_cancel 4 = .ok (.iload_n 1, 1) := by decide +kernel
theorem d_Gm_cancel_5 : decode b_Gm_cancel 5 = .ok (.invokevirtual 79, 3) := by decide +kernel
theorem d_Gm_cancel_8 : decode b_Gm_cancel 8 = .ok (.ifCond .ne (6), 3) := by decide +kernel
theorem d_Gm_cancel_11 : decode b_Gm_cancel 11 = .ok (.bipush (-2), 2) := by decide +kernel
theorem d_Gm_cancel_13 : decode b_Gm_cancel 13 = .ok (.ireturn, 1) := by decide +kernel
theorem d_Gm_cancel_14 : decode b_Gm_cancel 14 = .ok (.aload_n 0, 1) := by decide +kernel
theorem d_Gm_cancel_15 : decode b_Gm_cancel 15 = .ok (.getfield 10, 3) := by decide +kernel
theorem d_Gm_cancel_18 : decode b_Gm_cancel 18 = .ok (.getfield 69, 3) := by decide +kernel
theorem d_Gm_cancel_21 : decode b_Gm_cancel 21 = .ok (.iload_n 1, 1) := by decide +kernel
theorem d_Gm_cancel_22 : decode b_Gm_cancel 22 = .ok (.aaload, 1) := by decide +kernel
theorem d_Gm_cancel_23 : decode b_Gm_cancel 23 = .ok (.astore_n 2, 1) := by decide +kernel
theorem d_Gm_cancel_24 : decode b_Gm_cancel 24 = .ok (.aload_n 2, 1) := by decide +kernel
theorem d_Gm_cancel_25 : decode b_Gm_cancel 25 = .ok (.getfield 82, 3) := by decide +kernel
theorem d_Gm_cancel_28 : decode b_Gm_cancel 28 = .ok (.ifCond .eq (14), 3) := by decide +kernel
theorem d_Gm_cancel_31 : decode b_Gm_cancel 31 = .ok (.aload_n 2, 1) := by decide +kernel
theorem d_Gm_cancel_32 : decode b_Gm_cancel 32 = .ok (.getfield 82, 3) := by decide +kernel
theorem d_Gm_cancel_35 : decode b_Gm_cancel 35 = .ok (.iconst 1, 1) := by decide +kernel
theorem d_Gm_cancel_36 : decode b_Gm_cancel 36 = .ok (.if_icmp .eq (6), 3) := by decide +kernel
theorem d_Gm_cancel_39 : decode b_Gm_cancel 39 = .ok (.bipush (-4), 2) := by decide +kernel
theorem d_Gm_cancel_41 : decode b_Gm_cancel 41 = .ok (.ireturn, 1) := by decide +kernel
theorem d_Gm_cancel_42 : decode b_Gm_cancel 42 = .ok (.aload_n 0, 1) := by decide +kernel
theorem d_Gm_cancel_43 : decode b_Gm_cancel 43 = .ok (.getfield 10, 3) := by decide +kernel
theorem d_Gm_cancel_46 : decode b_Gm_cancel 46 = .ok (.aload_n 2, 1) := by decide +kernel
theorem d_Gm_cancel_47 : decode b_Gm_cancel 47 = .ok (.invokevirtual 88, 3) := by decide +kernel
theorem d_Gm_cancel_50 : decode b_Gm_cancel 50 = .ok (.aload_n 2, 1) := by decide +kernel
theorem d_Gm_cancel_51 : decode b_Gm_cancel 51 = .ok (.iconst 3, 1) := by decide +kernel
theorem d_Gm_cancel_52 : decode b_Gm_cancel 52 = .ok (.putfield 82, 3) := by decide +kernel
theorem d_Gm_cancel_55 : decode b_Gm_cancel 55 = .ok (.iconst 1, 1) := by decide +kernel
theorem d_Gm_cancel_56 : decode b_Gm_cancel 56 = .ok (.ireturn, 1) := by decide +kernel
theorem d_Gm_book_0 : decode b_Gm_book 0 = .ok (.iload_n 1, 1) := by decide +kernel
theorem d_Gm_book_1 : decode b_Gm_book 1 = .ok (.iconst 1, 1) := by decide +kernel
theorem d_Gm_book_2 : decode b_Gm_book 2 = .ok (.bipush (64), 2) := by decide +kernel
theorem d_Gm_book_4 : decode b_Gm_book 4 = .ok (.invokestatic 19, 3) := by decide +kernel
theorem d_Gm_book_7 : decode b_Gm_book 7 = .ok (.ifCond .ne (26), 3) := by decide +kernel
theorem d_Gm_book_10 : decode b_Gm_book 10 = .ok (.iload_n 2, 1) := by decide +kernel
theorem d_Gm_book_11 : decode b_Gm_book 11 = .ok (.aload_n 0, 1) := by decide +kernel
theorem d_Gm_book_12 : decode b_Gm_book 12 = .ok (.getfield 10, 3) := by decide +kernel
theorem d_Gm_book_15 : decode b_Gm_book 15 = .ok (.getfield 92, 3) := by decide +kernel
theorem d_Gm_book_18 : decode b_Gm_book 18 = .ok (.if_icmp .lt (15), 3) := by decide +kernel
theorem d_Gm_book_21 : decode b_Gm_book 21 = .ok (.iload_n 3, 1) := by decide +kernel
theorem d_Gm_book_22 : decode b_Gm_book 22 = .ok (.iload_n 2, 1) := by decide +kernel
theorem d_Gm_book_23 : decode b_Gm_book 23 = .ok (.if_icmp .le (10), 3) := by decide +kernel
theorem d_Gm_book_26 : decode b_Gm_book 26 = .ok (.iload_n 3, 1) := by decide +kernel
theorem d_Gm_book_27 : decode b_Gm_book 27 = .ok (.sipush (3000), 3) := by decide +kernel
theorem d_Gm_book_30 : decode b_Gm_book 30 = .ok (.if_icmp .le (6), 3) := by decide +kernel
theorem d_Gm_book_33 : decode b_Gm_book 33 = .ok (.bipush (-3), 2) := by decide +kernel
theorem d_Gm_book_35 : decode b_Gm_book 35 = .ok (.ireturn, 1) := by decide +kernel
theorem d_Gm_book_36 : decode b_Gm_book 36 = .ok (.aload_n 0, 1) := by decide +kernel
theorem d_Gm_book_37 : decode b_Gm_book 37 = .ok (.getfield 10, 3) := by decide +kernel
theorem d_Gm_book_40 : decode b_Gm_book 40 = .ok (.iload_n 1, 1) := by decide +kernel
theorem d_Gm_book_41 : decode b_Gm_book 41 = .ok (.iload_n 2, 1) := by decide +kernel
theorem d_Gm_book_42 : decode b_Gm_book 42 = .ok (.iload_n 3, 1) := by decide +kernel
theorem d_Gm_book_43 : decode b_Gm_book 43 = .ok (.invokevirtual 95, 3) := by decide +kernel
theorem d_Gm_book_46 : decode b_Gm_book 46 = .ok (.ifCond .ne (6), 3) := by decide +kernel
theorem d_Gm_book_49 : decode b_Gm_book 49 = .ok (.bipush (-4), 2) := by decide +kernel
theorem d_Gm_book_51 : decode b_Gm_book 51 = .ok (.ireturn, 1) := by decide +kernel
theorem d_Gm_book_52 : decode b_Gm_book 52 = .ok (.aload_n 0, 1) := by decide +kernel
theorem d_Gm_book_53 : decode b_Gm_book 53 = .ok (.getfield 10, 3) := by decide +kernel
theorem d_Gm_book_56 : decode b_Gm_book 56 = .ok (.getfield 98, 3) := by decide +kernel
theorem d_Gm_book_59 : decode b_Gm_book 59 = .ok (.bipush (8), 2) := by decide +kernel
theorem d_Gm_book_61 : decode b_Gm_book 61 = .ok (.if_icmp .lt (6), 3) := by decide +kernel
theorem d_Gm_book_64 : decode b_Gm_book 64 = .ok (.bipush (-5), 2) := by decide +kernel
theorem d_Gm_book_66 : decode b_Gm_book 66 = .ok (.ireturn, 1) := by decide +kernel
theorem d_Gm_book_67 : decode b_Gm_book 67 = .ok (.aload_n 0, 1) := by decide +kernel
theorem d_Gm_book_68 : decode b_Gm_book 68 = .ok (.getfield 10, 3) := by decide +kernel
theorem d_Gm_book_71 : decode b_Gm_book 71 = .ok (.getfield 98, 3) := by decide +kernel
theorem d_Gm_book_74 : decode b_Gm_book 74 = .ok (.istore 4, 2) := by decide +kernel
theorem d_Gm_book_76 : decode b_Gm_book 76 = .ok (.aload_n 0, 1) := by decide +kernel
theorem d_Gm_book_77 : decode b_Gm_book 77 = .ok (.getfield 10, 3) := by decide +kernel
theorem d_Gm_book_80 : decode b_Gm_book 80 = .ok (.getfield 101, 3) := by decide +kernel
theorem d_Gm_book_83 : decode b_Gm_book 83 = .ok (.iload 4, 2) := by decide +kernel
theorem d_Gm_book_85 : decode b_Gm_book 85 = .ok (.aaload, 1) := by decide +kernel
theorem d_Gm_book_86 : decode b_Gm_book 86 = .ok (.iload_n 1, 1) := by decide +kernel
theorem d_Gm_book_87 : decode b_Gm_book 87 = .ok (.iconst 0, 1) := by decide +kernel
theorem d_Gm_book_88 : decode b_Gm_book 88 = .ok (.iload_n 2, 1) := by decide +kernel
theorem d_Gm_book_89 : decode b_Gm_book 89 = .ok (.iload_n 3, 1) := by decide +kernel
theorem d_Gm_book_90 : decode b_Gm_book 90 = .ok (.invokevirtual 105, 3) := by decide +kernel
theorem d_Gm_book_93 : decode b_Gm_book 93 = .ok (.aload_n 0, 1) := by decide +kernel
theorem d_Gm_book_94 : decode b_Gm_book 94 = .ok (.getfield 10, 3) := by decide +kernel
theorem d_Gm_book_97 : decode b_Gm_book 97 = .ok (.dup, 1) := by decide +kernel
theorem d_Gm_book_98 : decode b_Gm_book 98 = .ok (.getfield 98, 3) := by decide +kernel
theorem d_Gm_book_101 : decode b_Gm_book 101 = .ok (.iconst 1, 1) := by decide +kernel
theorem d_Gm_book_102 : decode b_Gm_book 102 = .ok (.iadd, 1) := by decide +kernel
theorem d_Gm_book_103 : decode b_Gm_book 103 = .ok (.putfield 98, 3) := by decide +kernel
theorem d_Gm_book_106 : decode b_Gm_book 106 = .ok (.iload 4, 2) := by decide +kernel
theorem d_Gm_book_108 : decode b_Gm_book 108 = .ok (.ireturn, 1) := by decide +kernel
theorem d_Gm_unbook_0 : decode b_Gm_unbook 0 = .ok (.iload_n 1, 1) := by decide +kernel
theorem d_Gm_unbook_1 : decode b_Gm_unbook 1 = .ok (.ifCond .lt (14), 3) := by decide +kernel
theorem d_Gm_unbook_4 : decode b_Gm_unbook 4 = .ok (.iload_n 1, 1) := by decide +kernel
theorem d_Gm_unbook_5 : decode b_Gm_unbook 5 = .ok (.aload_n 0, 1) := by decide +kernel
theorem d_Gm_unbook_6 : decode b_Gm_unbook 6 = .ok (.getfield 10, 3) := by decide +kernel
theorem d_Gm_unbook_9 : decode b_Gm_unbook 9 = .ok (.getfield 98, 3) := by decide +kernel
theorem d_Gm_unbook_12 : decode b_Gm_unbook 12 = .ok (.if_icmp .lt (6), 3) := by decide +kernel
theorem d_Gm_unbook_15 : decode b_Gm_unbook 15 = .ok (.bipush (-2), 2) := by decide +kernel
theorem d_Gm_unbook_17 : decode b_Gm_unbook 17 = .ok (.ireturn, 1) := by decide +kernel
theorem d_Gm_unbook_18 : decode b_Gm_unbook 18 = .ok (.aload_n 0, 1) := by decide +kernel
theorem d_Gm_unbook_19 : decode b_Gm_unbook 19 = .ok (.getfield 10, 3) := by decide +kernel
theorem d_Gm_unbook_22 : decode b_Gm_unbook 22 = .ok (.iload_n 1, 1) := by decide +kernel
theorem d_Gm_unbook_23 : decode b_Gm_unbook 23 = .ok (.invokevirtual 111, 3) := by decide +kernel
theorem d_Gm_unbook_26 : decode b_Gm_unbook 26 = .ok (.iconst 1, 1) := by decide +kernel
theorem d_Gm_unbook_27 : decode b_Gm_unbook 27 = .ok (.ireturn, 1) := by decide +kernel
theorem d_Gm_ticks_0 : decode b_Gm_ticks 0 = .ok (.iload_n 1, 1) := by decide +kernel
theorem d_Gm_ticks_1 : decode b_Gm_ticks 1 = .ok (.iconst 1, 1) := by decide +kernel
theorem d_Gm_ticks_2 : decode b_Gm_ticks 2 = .ok (.bipush (100), 2) := by decide +kernel
theorem d_Gm_ticks_4 : decode b_Gm_ticks 4 = .ok (.invokestatic 19, 3) := by decide +kernel
theorem d_Gm_ticks_7 : decode b_Gm_ticks 7 = .ok (.ifCond .ne (18), 3) := by decide +kernel
theorem d_Gm_ticks_10 : decode b_Gm_ticks 10 = .ok (.aload_n 0, 1) := by decide +kernel
theorem d_Gm_ticks_11 : decode b_Gm_ticks 11 = .ok (.getfield 10, 3) := by decide +kernel
theorem d_Gm_ticks_14 : decode b_Gm_ticks 14 = .ok (.getfield 92, 3) := by decide +kernel
theorem d_Gm_ticks_17 : decode b_Gm_ticks 17 = .ok (.iload_n 1, 1) := by decide +kernel
theorem d_Gm_ticks_18 : decode b_Gm_ticks 18 = .ok (.iadd, 1) := by decide +kernel
theorem d_Gm_ticks_19 : decode b_Gm_ticks 19 = .ok (.sipush (2000), 3) := by decide +kernel
theorem d_Gm_ticks_22 : decode b_Gm_ticks 22 = .ok (.if_icmp .le (6), 3) := by decide +kernel
theorem d_Gm_ticks_25 : decode b_Gm_ticks 25 = .ok (.bipush (-3), 2) := by decide +kernel
theorem d_Gm_ticks_27 : decode b_Gm_ticks 27 = .ok (.ireturn, 1) := by decide +kernel
theorem d_Gm_ticks_28 : decode b_Gm_ticks 28 = .ok (.iconst 0, 1) := by decide +kernel
theorem d_Gm_ticks_29 : decode b_Gm_ticks 29 = .ok (.istore_n 2, 1) := by decide +kernel
theorem d_Gm_ticks_30 : decode b_Gm_ticks 30 = .ok (.iload_n 2, 1) := by decide +kernel
theorem d_Gm_ticks_31 : decode b_Gm_ticks 31 = .ok (.iload_n 1, 1) := by decide +kernel
theorem d_Gm_ticks_32 : decode b_Gm_ticks 32 = .ok (.if_icmp .ge (17), 3) := by decide +kernel
theorem d_Gm_ticks_35 : decode b_Gm_ticks 35 = .ok (.aload_n 0, 1) := by decide +kernel
theorem d_Gm_ticks_36 : decode b_Gm_ticks 36 = .ok (.getfield 10, 3) := by decide +kernel
theorem d_Gm_ticks_39 : decode b_Gm_ticks 39 = .ok (.iconst 0, 1) := by decide +kernel
theorem d_Gm_ticks_40 : decode b_Gm_ticks 40 = .ok (.invokevirtual 115, 3) := by decide +kernel
theorem d_Gm_ticks_43 : decode b_Gm_ticks 43 = .ok (.iinc 2 (1), 3) := by decide +kernel
theorem d_Gm_ticks_46 : decode b_Gm_ticks 46 = .ok (.goto (-16), 3) := by decide +kernel
theorem d_Gm_ticks_49 : decode b_Gm_ticks 49 = .ok (.aload_n 0, 1) := by decide +kernel
theorem d_Gm_ticks_50 : decode b_Gm_ticks 50 = .ok (.getfield 10, 3) := by decide +kernel
theorem d_Gm_ticks_53 : decode b_Gm_ticks 53 = .ok (.getfield 92, 3) := by decide +kernel
theorem d_Gm_ticks_56 : decode b_Gm_ticks 56 = .ok (.ireturn, 1) := by decide +kernel
theorem d_Gm_told_0 : decode b_Gm_told 0 = .ok (.aload_n 0, 1) := by decide +kernel
theorem d_Gm_told_1 : decode b_Gm_told 1 = .ok (.getfield 10, 3) := by decide +kernel
theorem d_Gm_told_4 : decode b_Gm_told 4 = .ok (.iload_n 1, 1) := by decide +kernel
theorem d_Gm_told_5 : decode b_Gm_told 5 = .ok (.invokevirtual 79, 3) := by decide +kernel
theorem d_Gm_told_8 : decode b_Gm_told 8 = .ok (.ifCond .ne (6), 3) := by decide +kernel
theorem d_Gm_told_11 : decode b_Gm_told 11 = .ok (.bipush (-2), 2) := by decide +kernel
theorem d_Gm_told_13 : decode b_Gm_told 13 = .ok (.ireturn, 1) := by decide +kernel
theorem d_Gm_told_14 : decode b_Gm_told 14 = .ok (.aload_n 0, 1) := by decide +kernel
theorem d_Gm_told_15 : decode b_Gm_told 15 = .ok (.getfield 10, 3) := by decide +kernel
theorem d_Gm_told_18 : decode b_Gm_told 18 = .ok (.getfield 69, 3) := by decide +kernel
theorem d_Gm_told_21 : decode b_Gm_told 21 = .ok (.iload_n 1, 1) := by decide +kernel
theorem d_Gm_told_22 : decode b_Gm_told 22 = .ok (.aaload, 1) := by decide +kernel
theorem d_Gm_told_23 : decode b_Gm_told 23 = .ok (.astore_n 3, 1) := by decide +kernel
theorem d_Gm_told_24 : decode b_Gm_told 24 = .ok (.iload_n 2, 1) := by decide +kernel
theorem d_Gm_told_25 : decode b_Gm_told 25 = .ok (.tableswitch (76) 0 5 #[39, 44, 49, 54, 59, 71], 39) := by decide +kernel
theorem d_Gm_told_64 : decode b_Gm_told 64 = .ok (.aload_n 3, 1) := by decide +kernel
theorem d_Gm_told_65 : decode b_Gm_told 65 = .ok (.getfield 82, 3) := by decide +kernel
theorem d_Gm_told_68 : decode b_Gm_told 68 = .ok (.ireturn, 1) := by decide +kernel
theorem d_Gm_told_69 : decode b_Gm_told 69 = .ok (.aload_n 3, 1) := by decide +kernel
theorem d_Gm_told_70 : decode b_Gm_told 70 = .ok (.getfield 119, 3) := by decide +kernel
theorem d_Gm_told_73 : decode b_Gm_told 73 = .ok (.ireturn, 1) := by decide +kernel
theorem d_Gm_told_74 : decode b_Gm_told 74 = .ok (.aload_n 3, 1) := by decide +kernel
theorem d_Gm_told_75 : decode b_Gm_told 75 = .ok (.getfield 122, 3) := by decide +kernel
theorem d_Gm_told_78 : decode b_Gm_told 78 = .ok (.ireturn, 1) := by decide +kernel
theorem d_Gm_told_79 : decode b_Gm_told 79 = .ok (.aload_n 3, 1) := by decide +kernel
theorem d_Gm_told_80 : decode b_Gm_told 80 = .ok (.getfield 125, 3) := by decide +kernel
theorem d_Gm_told_83 : decode b_Gm_told 83 = .ok (.ireturn, 1) := by decide +kernel
theorem d_Gm_told_84 : decode b_Gm_told 84 = .ok (.aload_n 3, 1) := by decide +kernel
theorem d_Gm_told_85 : decode b_Gm_told 85 = .ok (.aload_n 0, 1) := by decide +kernel
theorem d_Gm_told_86 : decode b_Gm_told 86 = .ok (.getfield 10, 3) := by decide +kernel
theorem d_Gm_told_89 : decode b_Gm_told 89 = .ok (.getfield 92, 3) := by decide +kernel
theorem d_Gm_told_92 : decode b_Gm_told 92 = .ok (.invokevirtual 128, 3) := by decide +kernel
theorem d_Gm_told_95 : decode b_Gm_told 95 = .ok (.ireturn, 1) := by decide +kernel
theorem d_Gm_told_96 : decode b_Gm_told 96 = .ok (.aload_n 3, 1) := by decide +kernel
theorem d_Gm_told_97 : decode b_Gm_told 97 = .ok (.invokevirtual 131, 3) := by decide +kernel
theorem d_Gm_told_100 : decode b_Gm_told 100 = .ok (.ireturn, 1) := by decide +kernel
theorem d_Gm_told_101 : decode b_Gm_told 101 = .ok (.bipush (-3), 2) := by decide +kernel
theorem d_Gm_told_103 : decode b_Gm_told 103 = .ok (.ireturn, 1) := by decide +kernel
theorem d_Gm_on_0 : decode b_Gm_on 0 = .ok (.aload_n 0, 1) := by decide +kernel
theorem d_Gm_on_1 : decode b_Gm_on 1 = .ok (.getfield 10, 3) := by decide +kernel
theorem d_Gm_on_4 : decode b_Gm_on 4 = .ok (.iload_n 1, 1) := by decide +kernel
theorem d_Gm_on_5 : decode b_Gm_on 5 = .ok (.invokevirtual 79, 3) := by decide +kernel
theorem d_Gm_on_8 : decode b_Gm_on 8 = .ok (.ifCond .eq (14), 3) := by decide +kernel
theorem d_Gm_on_11 : decode b_Gm_on 11 = .ok (.aload_n 0, 1) := by decide +kernel
theorem d_Gm_on_12 : decode b_Gm_on 12 = .ok (.getfield 10, 3) := by decide +kernel
theorem d_Gm_on_15 : decode b_Gm_on 15 = .ok (.iload_n 2, 1) := by decide +kernel
theorem d_Gm_on_16 : decode b_Gm_on 16 = .ok (.invokevirtual 31, 3) := by decide +kernel
theorem d_Gm_on_19 : decode b_Gm_on 19 = .ok (.ifCond .ne (6), 3) := by decide +kernel
theorem d_Gm_on_22 : decode b_Gm_on 22 = .ok (.bipush (-2), 2) := by decide +kernel
theorem d_Gm_on_24 : decode b_Gm_on 24 = .ok (.ireturn, 1) := by decide +kernel
theorem d_Gm_on_25 : decode b_Gm_on 25 = .ok (.aload_n 0, 1) := by decide +kernel
theorem d_Gm_on_26 : decode b_Gm_on 26 = .ok (.getfield 10, 3) := by decide +kernel
theorem d_Gm_on_29 : decode b_Gm_on 29 = .ok (.getfield 69, 3) := by decide +kernel
theorem d_Gm_on_32 : decode b_Gm_on 32 = .ok (.iload_n 1, 1) := by decide +kernel
theorem d_Gm_on_33 : decode b_Gm_on 33 = .ok (.aaload, 1) := by decide +kernel
theorem d_Gm_on_34 : decode b_Gm_on 34 = .ok (.getfield 135, 3) := by decide +kernel
theorem d_Gm_on_37 : decode b_Gm_on 37 = .ok (.iload_n 2, 1) := by decide +kernel
theorem d_Gm_on_38 : decode b_Gm_on 38 = .ok (.iaload, 1) := by decide +kernel
theorem d_Gm_on_39 : decode b_Gm_on 39 = .ok (.ireturn, 1) := by decide +kernel
theorem d_Gm_free_0 : decode b_Gm_free 0 = .ok (.aload_n 0, 1) := by decide +kernel
theorem d_Gm_free_1 : decode b_Gm_free 1 = .ok (.getfield 10, 3) := by decide +kernel
theorem d_Gm_free_4 : decode b_Gm_free 4 = .ok (.iload_n 1, 1) := by decide +kernel
theorem d_Gm_free_5 : decode b_Gm_free 5 = .ok (.invokevirtual 31, 3) := by decide +kernel
theorem d_Gm_free_8 : decode b_Gm_free 8 = .ok (.ifCond .eq (18), 3) := by decide +kernel
theorem d_Gm_free_11 : decode b_Gm_free 11 = .ok (.aload_n 0, 1) := by decide +kernel
theorem d_Gm_free_12 : decode b_Gm_free 12 = .ok (.getfield 10, 3) := by decide +kernel
theorem d_Gm_free_15 : decode b_Gm_free 15 = .ok (.getfield 35, 3) := by decide +kernel
theorem d_Gm_free_18 : decode b_Gm_free 18 = .ok (.iload_n 1, 1) := by decide +kernel
theorem d_Gm_free_19 : decode b_Gm_free 19 = .ok (.aaload, 1) := by decide +kernel
theorem d_Gm_free_20 : decode b_Gm_free 20 = .ok (.getfield 139, 3) := by decide +kernel
theorem d_Gm_free_23 : decode b_Gm_free 23 = .ok (.goto (5), 3) := by decide +kernel
theorem d_Gm_free_26 : decode b_Gm_free 26 = .ok (.bipush (-2), 2) := by decide +kernel
theorem d_Gm_free_28 : decode b_Gm_free 28 = .ok (.ireturn, 1) := by decide +kernel
theorem d_Gm_used_0 : decode b_Gm_used 0 = .ok (.aload_n 0, 1) := by decide +kernel
theorem d_Gm_used_1 : decode b_Gm_used 1 = .ok (.getfield 10, 3) := by decide +kernel
theorem d_Gm_used_4 : decode b_Gm_used 4 = .ok (.iload_n 1, 1) := by decide +kernel
theorem d_Gm_used_5 : decode b_Gm_used 5 = .ok (.invokevirtual 63, 3) := by decide +kernel
theorem d_Gm_used_8 : decode b_Gm_used 8 = .ok (.ifCond .eq (18), 3) := by decide +kernel
theorem d_Gm_used_11 : decode b_Gm_used 11 = .ok (.aload_n 0, 1) := by decide +kernel
theorem d_Gm_used_12 : decode b_Gm_used 12 = .ok (.getfield 10, 3) := by decide +kernel
theorem d_Gm_used_15 : decode b_Gm_used 15 = .ok (.getfield 142, 3) := by decide +kernel
theorem d_Gm_used_18 : decode b_Gm_used 18 = .ok (.iload_n 1, 1) := by decide +kernel
theorem d_Gm_used_19 : decode b_Gm_used 19 = .ok (.aaload, 1) := by decide +kernel
theorem d_Gm_used_20 : decode b_Gm_used 20 = .ok (.getfield 146, 3) := by decide +kernel
theorem d_Gm_used_23 : decode b_Gm_used 23 = .ok (.goto (5), 3) := by decide +kernel
theorem d_Gm_used_26 : decode b_Gm_used 26 = .ok (.bipush (-2), 2) := by decide +kernel
theorem d_Gm_used_28 : decode b_Gm_used 28 = .ok (.ireturn, 1) := by decide +kernel
theorem d_Gm_blocked_0 : decode b_Gm_blocked 0 = .ok (.iload_n 1, 1) := by decide +kernel
theorem d_Gm_blocked_1 : decode b_Gm_blocked 1 = .ok (.lookupswitch (43) #[(0, 27), (1, 35)], 27) := by decide +kernel
theorem d_Gm_blocked_28 : decode b_Gm_blocked 28 = .ok (.aload_n 0, 1) := by decide +kernel
theorem d_Gm_blocked_29 : decode b_Gm_blocked 29 = .ok (.getfield 10, 3) := by decide +kernel
theorem d_Gm_blocked_32 : decode b_Gm_blocked 32 = .ok (.getfield 151, 3) := by decide +kernel
theorem d_Gm_blocked_35 : decode b_Gm_blocked 35 = .ok (.ireturn, 1) := by decide +kernel
theorem d_Gm_blocked_36 : decode b_Gm_blocked 36 = .ok (.aload_n 0, 1) := by decide +kernel
theorem d_Gm_blocked_37 : decode b_Gm_blocked 37 = .ok (.getfield 10, 3) := by decide +kernel
theorem d_Gm_blocked_40 : decode b_Gm_blocked 40 = .ok (.getfield 154, 3) := by decide +kernel
theorem d_Gm_blocked_43 : decode b_Gm_blocked 43 = .ok (.ireturn, 1) := by decide +kernel
theorem d_Gm_blocked_44 : decode b_Gm_blocked 44 = .ok (.bipush (-3), 2) := by decide +kernel
theorem d_Gm_blocked_46 : decode b_Gm_blocked 46 = .ok (.ireturn, 1) := by decide +kernel
theorem d_Gm_taken_0 : decode b_Gm_taken 0 = .ok (.iload_n 1, 1) := by decide +kernel
theorem d_Gm_taken_1 : decode b_Gm_taken 1 = .ok (.iconst 0, 1) := by decide +kernel
theorem d_Gm_taken_2 : decode b_Gm_taken 2 = .ok (.iconst 1, 1) := by decide +kernel
theorem d_Gm_taken_3 : decode b_Gm_taken 3 = .ok (.invokestatic 19, 3) := by decide +kernel
theorem d_Gm_taken_6 : decode b_Gm_taken 6 = .ok (.ifCond .ne (28), 3) := by decide +kernel
theorem d_Gm_taken_9 : decode b_Gm_taken 9 = .ok (.iload_n 2, 1) := by decide +kernel
theorem d_Gm_taken_10 : decode b_Gm_taken 10 = .ok (.aload_n 0, 1) := by decide +kernel
theorem d_Gm_taken_11 : decode b_Gm_taken 11 = .ok (.getfield 10, 3) := by decide +kernel
theorem d_Gm_taken_14 : decode b_Gm_taken 14 = .ok (.getfield 92, 3) := by decide +kernel
theorem d_Gm_taken_17 : decode b_Gm_taken 17 = .ok (.aload_n 0, 1) := by decide +kernel
theorem d_Gm_taken_18 : decode b_Gm_taken 18 = .ok (.getfield 10, 3) := by decide +kernel
theorem d_Gm_taken_21 : decode b_Gm_taken 21 = .ok (.getfield 92, 3) := by decide +kernel
theorem d_Gm_taken_24 : decode b_Gm_taken 24 = .ok (.sipush (300), 3) := by decide +kernel
theorem d_Gm_taken_27 : decode b_Gm_taken 27 = .ok (.iadd, 1) := by decide +kernel
theorem d_Gm_taken_28 : decode b_Gm_taken 28 = .ok (.invokestatic 19, 3) := by decide +kernel
theorem d_Gm_taken_31 : decode b_Gm_taken 31 = .ok (.ifCond .eq (6), 3) := by decide +kernel
theorem d_Gm_taken_34 : decode b_Gm_taken 34 = .ok (.bipush (-3), 2) := by decide +kernel
theorem d_Gm_taken_36 : decode b_Gm_taken 36 = .ok (.ireturn, 1) := by decide +kernel
theorem d_Gm_taken_37 : decode b_Gm_taken 37 = .ok (.iload_n 1, 1) := by decide +kernel
theorem d_Gm_taken_38 : decode b_Gm_taken 38 = .ok (.ifCond .ne (14), 3) := by decide +kernel
theorem d_Gm_taken_41 : decode b_Gm_taken 41 = .ok (.aload_n 0, 1) := by decide +kernel
theorem d_Gm_taken_42 : decode b_Gm_taken 42 = .ok (.getfield 10, 3) := by decide +kernel
theorem d_Gm_taken_45 : decode b_Gm_taken 45 = .ok (.iload_n 2, 1) := by decide +kernel
theorem d_Gm_taken_46 : decode b_Gm_taken 46 = .ok (.invokevirtual 157, 3) := by decide +kernel
theorem d_Gm_taken_49 : decode b_Gm_taken 49 = .ok (.goto (11), 3) := by decide +kernel
theorem d_Gm_taken_52 : decode b_Gm_taken 52 = .ok (.aload_n 0, 1) := by decide +kernel
theorem d_Gm_taken_53 : decode b_Gm_taken 53 = .ok (.getfield 10, 3) := by decide +kernel
theorem d_Gm_taken_56 : decode b_Gm_taken 56 = .ok (.iload_n 2, 1) := by decide +kernel
theorem d_Gm_taken_57 : decode b_Gm_taken 57 = .ok (.invokevirtual 160, 3) := by decide +kernel
theorem d_Gm_taken_60 : decode b_Gm_taken 60 = .ok (.ireturn, 1) := by decide +kernel
theorem d_Gm_foreseen_0 : decode b_Gm_foreseen 0 = .ok (.aload_n 0, 1) := by decide +kernel
theorem d_Gm_foreseen_1 : decode b_Gm_foreseen 1 = .ok (.getfield 10, 3) := by decide +kernel
theorem d_Gm_foreseen_4 : decode b_Gm_foreseen 4 = .ok (.iload_n 1, 1) := by decide +kernel
theorem d_Gm_foreseen_5 : decode b_Gm_foreseen 5 = .ok (.invokevirtual 79, 3) := by decide +kernel
theorem d_Gm_foreseen_8 : decode b_Gm_foreseen 8 = .ok (.ifCond .ne (6), 3) := by decide +kernel
theorem d_Gm_foreseen_11 : decode b_Gm_foreseen 11 = .ok (.bipush (-2), 2) := by decide +kernel
theorem d_Gm_foreseen_13 : decode b_Gm_foreseen 13 = .ok (.ireturn, 1) := by decide +kernel
theorem d_Gm_foreseen_14 : decode b_Gm_foreseen 14 = .ok (.aload_n 0, 1) := by decide +kernel
theorem d_Gm_foreseen_15 : decode b_Gm_foreseen 15 = .ok (.getfield 10, 3) := by decide +kernel
theorem d_Gm_foreseen_18 : decode b_Gm_foreseen 18 = .ok (.getfield 69, 3) := by decide +kernel
theorem d_Gm_foreseen_21 : decode b_Gm_foreseen 21 = .ok (.iload_n 1, 1) := by decide +kernel
theorem d_Gm_foreseen_22 : decode b_Gm_foreseen 22 = .ok (.aaload, 1) := by decide +kernel
theorem d_Gm_foreseen_23 : decode b_Gm_foreseen 23 = .ok (.astore_n 2, 1) := by decide +kernel
theorem d_Gm_foreseen_24 : decode b_Gm_foreseen 24 = .ok (.aload_n 2, 1) := by decide +kernel
theorem d_Gm_foreseen_25 : decode b_Gm_foreseen 25 = .ok (.getfield 82, 3) := by decide +kernel
theorem d_Gm_foreseen_28 : decode b_Gm_foreseen 28 = .ok (.iconst 1, 1) := by decide +kernel
theorem d_Gm_foreseen_29 : decode b_Gm_foreseen 29 = .ok (.if_icmp .ne (8), 3) := by decide +kernel
theorem d_Gm_foreseen_32 : decode b_Gm_foreseen 32 = .ok (.aload_n 2, 1) := by decide +kernel
theorem d_Gm_foreseen_33 : decode b_Gm_foreseen 33 = .ok (.getfield 119, 3) := by decide +kernel
theorem d_Gm_foreseen_36 : decode b_Gm_foreseen 36 = .ok (.ireturn, 1) := by decide +kernel
theorem d_Gm_foreseen_37 : decode b_Gm_foreseen 37 = .ok (.aload_n 2, 1) := by decide +kernel
theorem d_Gm_foreseen_38 : decode b_Gm_foreseen 38 = .ok (.getfield 82, 3) := by decide +kernel
theorem d_Gm_foreseen_41 : decode b_Gm_foreseen 41 = .ok (.ifCond .eq (5), 3) := by decide +kernel
theorem d_Gm_foreseen_44 : decode b_Gm_foreseen 44 = .ok (.iconst (-1), 1) := by decide +kernel
theorem d_Gm_foreseen_45 : decode b_Gm_foreseen 45 = .ok (.ireturn, 1) := by decide +kernel
theorem d_Gm_foreseen_46 : decode b_Gm_foreseen 46 = .ok (.aload_n 0, 1) := by decide +kernel
theorem d_Gm_foreseen_47 : decode b_Gm_foreseen 47 = .ok (.getfield 16, 3) := by decide +kernel
theorem d_Gm_foreseen_50 : decode b_Gm_foreseen 50 = .ok (.aload_n 0, 1) := by decide +kernel
theorem d_Gm_foreseen_51 : decode b_Gm_foreseen 51 = .ok (.getfield 10, 3) := by decide +kernel
theorem d_Gm_foreseen_54 : decode b_Gm_foreseen 54 = .ok (.invokevirtual 163, 3) := by decide +kernel
theorem d_Gm_foreseen_57 : decode b_Gm_foreseen 57 = .ok (.aload_n 0, 1) := by decide +kernel
theorem d_Gm_foreseen_58 : decode b_Gm_foreseen 58 = .ok (.getfield 16, 3) := by decide +kernel
theorem d_Gm_foreseen_61 : decode b_Gm_foreseen 61 = .ok (.getfield 69, 3) := by decide +kernel
theorem d_Gm_foreseen_64 : decode b_Gm_foreseen 64 = .ok (.iload_n 1, 1) := by decide +kernel
theorem d_Gm_foreseen_65 : decode b_Gm_foreseen 65 = .ok (.aaload, 1) := by decide +kernel
theorem d_Gm_foreseen_66 : decode b_Gm_foreseen 66 = .ok (.astore_n 3, 1) := by decide +kernel
theorem d_Gm_foreseen_67 : decode b_Gm_foreseen 67 = .ok (.iconst 0, 1) := by decide +kernel
theorem d_Gm_foreseen_68 : decode b_Gm_foreseen 68 = .ok (.istore 4, 2) := by decide +kernel
theorem d_Gm_foreseen_70 : decode b_Gm_foreseen 70 = .ok (.iload 4, 2) := by decide +kernel
theorem d_Gm_foreseen_72 : decode b_Gm_foreseen 72 = .ok (.sipush (300), 3) := by decide +kernel
theorem d_Gm_foreseen_75 : decode b_Gm_foreseen 75 = .ok (.if_icmp .ge (24), 3) := by decide +kernel
theorem d_Gm_foreseen_78 : decode b_Gm_foreseen 78 = .ok (.aload_n 3, 1) := by decide +kernel
theorem d_Gm_foreseen_79 : decode b_Gm_foreseen 79 = .ok (.getfield 82, 3) := by decide +kernel
theorem d_Gm_foreseen_82 : decode b_Gm_foreseen 82 = .ok (.ifCond .ne (17), 3) := by decide +kernel
theorem d_Gm_foreseen_85 : decode b_Gm_foreseen 85 = .ok (.aload_n 0, 1) := by decide +kernel
theorem d_Gm_foreseen_86 : decode b_Gm_foreseen 86 = .ok (.getfield 16, 3) := by decide +kernel
theorem d_Gm_foreseen_89 : decode b_Gm_foreseen 89 = .ok (.iconst 1, 1) := by decide +kernel
theorem d_Gm_foreseen_90 : decode b_Gm_foreseen 90 = .ok (.invokevirtual 115, 3) := by decide +kernel
theorem d_Gm_foreseen_93 : decode b_Gm_foreseen 93 = .ok (.iinc 4 (1), 3) := by decide +kernel
theorem d_Gm_foreseen_96 : decode b_Gm_foreseen 96 = .ok (.goto (-26), 3) := by decide +kernel
theorem d_Gm_foreseen_99 : decode b_Gm_foreseen 99 = .ok (.aload_n 3, 1) := by decide +kernel
theorem d_Gm_foreseen_100 : decode b_Gm_foreseen 100 = .ok (.getfield 82, 3) := by decide +kernel
theorem d_Gm_foreseen_103 : decode b_Gm_foreseen 103 = .ok (.ifCond .ne (7), 3) := by decide +kernel
theorem d_Gm_foreseen_106 : decode b_Gm_foreseen 106 = .ok (.iconst (-1), 1) := by decide +kernel
theorem d_Gm_foreseen_107 : decode b_Gm_foreseen 107 = .ok (.goto (7), 3) := by decide +kernel
theorem d_Gm_foreseen_110 : decode b_Gm_foreseen 110 = .ok (.aload_n 3, 1) := by decide +kernel
theorem d_Gm_foreseen_111 : decode b_Gm_foreseen 111 = .ok (.getfield 119, 3) := by decide +kernel
theorem d_Gm_foreseen_114 : decode b_Gm_foreseen 114 = .ok (.ireturn, 1) := by decide +kernel
theorem d_Gm_count_0 : decode b_Gm_count 0 = .ok (.iload_n 1, 1) := by decide +kernel
theorem d_Gm_count_1 : decode b_Gm_count 1 = .ok (.tableswitch (113) 0 7 #[47, 55, 63, 71, 80, 89, 97, 105], 47) := by decide +kernel
theorem d_Gm_count_48 : decode b_Gm_count 48 = .ok (.aload_n 0, 1) := by decide +kernel
theorem d_Gm_count_49 : decode b_Gm_count 49 = .ok (.getfield 10, 3) := by decide +kernel
theorem d_Gm_count_52 : decode b_Gm_count 52 = .ok (.getfield 23, 3) := by decide +kernel
theorem d_Gm_count_55 : decode b_Gm_count 55 = .ok (.ireturn, 1) := by decide +kernel
theorem d_Gm_count_56 : decode b_Gm_count 56 = .ok (.aload_n 0, 1) := by decide +kernel
theorem d_Gm_count_57 : decode b_Gm_count 57 = .ok (.getfield 10, 3) := by decide +kernel
theorem d_Gm_count_60 : decode b_Gm_count 60 = .ok (.getfield 57, 3) := by decide +kernel
theorem d_Gm_count_63 : decode b_Gm_count 63 = .ok (.ireturn, 1) := by decide +kernel
theorem d_Gm_count_64 : decode b_Gm_count 64 = .ok (.aload_n 0, 1) := by decide +kernel
theorem d_Gm_count_65 : decode b_Gm_count 65 = .ok (.getfield 10, 3) := by decide +kernel
theorem d_Gm_count_68 : decode b_Gm_count 68 = .ok (.getfield 66, 3) := by decide +kernel
theorem d_Gm_count_71 : decode b_Gm_count 71 = .ok (.ireturn, 1) := by decide +kernel
theorem d_Gm_count_72 : decode b_Gm_count 72 = .ok (.aload_n 0, 1) := by decide +kernel
theorem d_Gm_count_73 : decode b_Gm_count 73 = .ok (.getfield 10, 3) := by decide +kernel
theorem d_Gm_count_76 : decode b_Gm_count 76 = .ok (.iconst 1, 1) := by decide +kernel
theorem d_Gm_count_77 : decode b_Gm_count 77 = .ok (.invokevirtual 167, 3) := by decide +kernel
theorem d_Gm_count_80 : decode b_Gm_count 80 = .ok (.ireturn, 1) := by decide +kernel
theorem d_Gm_count_81 : decode b_Gm_count 81 = .ok (.aload_n 0, 1) := by decide +kernel
theorem d_Gm_count_82 : decode b_Gm_count 82 = .ok (.getfield 10, 3) := by decide +kernel
theorem d_Gm_count_85 : decode b_Gm_count 85 = .ok (.iconst 2, 1) := by decide +kernel
theorem d_Gm_count_86 : decode b_Gm_count 86 = .ok (.invokevirtual 167, 3) := by decide +kernel
theorem d_Gm_count_89 : decode b_Gm_count 89 = .ok (.ireturn, 1) := by decide +kernel
theorem d_Gm_count_90 : decode b_Gm_count 90 = .ok (.aload_n 0, 1) := by decide +kernel
theorem d_Gm_count_91 : decode b_Gm_count 91 = .ok (.getfield 10, 3) := by decide +kernel
theorem d_Gm_count_94 : decode b_Gm_count 94 = .ok (.getfield 98, 3) := by decide +kernel
theorem d_Gm_count_97 : decode b_Gm_count 97 = .ok (.ireturn, 1) := by decide +kernel
theorem d_Gm_count_98 : decode b_Gm_count 98 = .ok (.aload_n 0, 1) := by decide +kernel
theorem d_Gm_count_99 : decode b_Gm_count 99 = .ok (.getfield 10, 3) := by decide +kernel
theorem d_Gm_count_102 : decode b_Gm_count 102 = .ok (.getfield 92, 3) := by decide +kernel
theorem d_Gm_count_105 : decode b_Gm_count 105 = .ok (.ireturn, 1) := by decide +kernel
theorem d_Gm_count_106 : decode b_Gm_count 106 = .ok (.aload_n 0, 1) := by decide +kernel
theorem d_Gm_count_107 : decode b_Gm_count 107 = .ok (.getfield 10, 3) := by decide +kernel
theorem d_Gm_count_110 : decode b_Gm_count 110 = .ok (.getfield 170, 3) := by decide +kernel
theorem d_Gm_count_113 : decode b_Gm_count 113 = .ok (.ireturn, 1) := by decide +kernel
theorem d_Gm_count_114 : decode b_Gm_count 114 = .ok (.bipush (-3), 2) := by decide +kernel
theorem d_Gm_count_116 : decode b_Gm_count 116 = .ok (.ireturn, 1) := by decide +kernel
theorem d_Gm_isOutside_0 : decode b_Gm_isOutside 0 = .ok (.iload_n 0, 1) := by decide +kernel
theorem d_Gm_isOutside_1 : decode b_Gm_isOutside 1 = .ok (.iload_n 1, 1) := by decide +kernel
theorem d_Gm_isOutside_2 : decode b_Gm_isOutside 2 = .ok (.if_icmp .lt (8), 3) := by decide +kernel
theorem d_Gm_isOutside_5 : decode b_Gm_isOutside 5 = .ok (.iload_n 0, 1) := by decide +kernel
theorem d_Gm_isOutside_6 : decode b_Gm_isOutside 6 = .ok (.iload_n 2, 1) := by decide +kernel
theorem d_Gm_isOutside_7 : decode b_Gm_isOutside 7 = .ok (.if_icmp .le (7), 3) := by decide +kernel
theorem d_Gm_isOutside_10 : decode b_Gm_isOutside 10 = .ok (.iconst 1, 1) := by decide +kernel
theorem d_Gm_isOutside_11 : decode b_Gm_isOutside 11 = .ok (.goto (4), 3) := by decide +kernel
theorem d_Gm_isOutside_14 : decode b_Gm_isOutside 14 = .ok (.iconst 0, 1) := by decide +kernel
theorem d_Gm_isOutside_15 : decode b_Gm_isOutside 15 = .ok (.ireturn, 1) := by decide +kernel
theorem d_Ac_init_0 : decode b_Ac_init 0 = .ok (.aload_n 0, 1) := by decide +kernel
theorem d_Ac_init_1 : decode b_Ac_init 1 = .ok (.invokespecial 1, 3) := by decide +kernel
theorem d_Ac_init_4 : decode b_Ac_init 4 = .ok (.return_, 1) := by decide +kernel
theorem d_Ac_become_0 : decode b_Ac_become 0 = .ok (.aload_n 0, 1) := by decide +kernel
theorem d_Ac_become_1 : decode b_Ac_become 1 = .ok (.aload_n 1, 1) := by decide +kernel
theorem d_Ac_become_2 : decode b_Ac_become 2 = .ok (.getfield 7, 3) := by decide +kernel
theorem d_Ac_become_5 : decode b_Ac_become 5 = .ok (.putfield 7, 3) := by decide +kernel
theorem d_Ac_become_8 : decode b_Ac_become 8 = .ok (.aload_n 0, 1) := by decide +kernel
theorem d_Ac_become_9 : decode b_Ac_become 9 = .ok (.aload_n 1, 1) := by decide +kernel
theorem d_Ac_become_10 : decode b_Ac_become 10 = .ok (.getfield 13, 3) := by decide +kernel
theorem d_Ac_become_13 : decode b_Ac_become 13 = .ok (.putfield 13, 3) := by decide +kernel
theorem d_Ac_become_16 : decode b_Ac_become 16 = .ok (.return_, 1) := by decide +kernel
theorem d_Ac_usedLessThan_0 : decode b_Ac_usedLessThan 0 = .ok (.aload_n 0, 1) := by decide +kernel
theorem d_Ac_usedLessThan_1 : decode b_Ac_usedLessThan 1 = .ok (.getfield 13, 3) := by decide +kernel
theorem d_Ac_usedLessThan_4 : decode b_Ac_usedLessThan 4 = .ok (.i2l, 1) := by decide +kernel
theorem d_Ac_usedLessThan_5 : decode b_Ac_usedLessThan 5 = .ok (.aload_n 1, 1) := by decide +kernel
theorem d_Ac_usedLessThan_6 : decode b_Ac_usedLessThan 6 = .ok (.getfield 7, 3) := by decide +kernel
theorem d_Ac_usedLessThan_9 : decode b_Ac_usedLessThan 9 = .ok (.i2l, 1) := by decide +kernel
theorem d_Ac_usedLessThan_10 : decode b_Ac_usedLessThan 10 = .ok (.lmul, 1) := by decide +kernel
theorem d_Ac_usedLessThan_11 : decode b_Ac_usedLessThan 11 = .ok (.aload_n 1, 1) := by decide +kernel
theorem d_Ac_usedLessThan_12 : decode b_Ac_usedLessThan 12 = .ok (.getfield 13, 3) := by decide +kernel
theorem d_Ac_usedLessThan_15 : decode b_Ac_usedLessThan 15 = .ok (.i2l, 1) := by decide +kernel
theorem d_Ac_usedLessThan_16 : decode b_Ac_usedLessThan 16 = .ok (.aload_n 0, 1) := by decide +kernel
theorem d_Ac_usedLessThan_17 : decode b_Ac_usedLessThan 17 = .ok (.getfield 7, 3) := by decide +kernel
theorem d_Ac_usedLessThan_20 : decode b_Ac_usedLessThan 20 = .ok (.i2l, 1) := by decide +kernel
theorem d_Ac_usedLessThan_21 : decode b_Ac_usedLessThan 21 = .ok (.lmul, 1) := by decide +kernel
theorem d_Ac_usedLessThan_22 : decode b_Ac_usedLessThan 22 = .ok (.lcmp, 1) := by decide +kernel
theorem d_Ac_usedLessThan_23 : decode b_Ac_usedLessThan 23 = .ok (.ifCond .ge (7), 3) := by decide +kernel
theorem d_Ac_usedLessThan_26 : decode b_Ac_usedLessThan 26 = .ok (.iconst 1, 1) := by decide +kernel
theorem d_Ac_usedLessThan_27 : decode b_Ac_usedLessThan 27 = .ok (.goto (4), 3) := by decide +kernel
theorem d_Ac_usedLessThan_30 : decode b_Ac_usedLessThan 30 = .ok (.iconst 0, 1) := by decide +kernel
theorem d_Ac_usedLessThan_31 : decode b_Ac_usedLessThan 31 = .ok (.ireturn, 1) := by decide +kernel
theorem d_Hd_init_0 : decode b_Hd_init 0 = .ok (.aload_n 0, 1) := by decide +kernel
theorem d_Hd_init_1 : decode b_Hd_init 1 = .ok (.invokespecial 1, 3) := by decide +kernel
theorem d_Hd_init_4 : decode b_Hd_init 4 = .ok (.return_, 1) := by decide +kernel
theorem d_Hd_set_0 : decode b_Hd_set 0 = .ok (.aload_n 0, 1) := by decide +kernel
theorem d_Hd_set_1 : decode b_Hd_set 1 = .ok (.iload_n 1, 1) := by decide +kernel
theorem d_Hd_set_2 : decode b_Hd_set 2 = .ok (.putfield 7, 3) := by decide +kernel
theorem d_Hd_set_5 : decode b_Hd_set 5 = .ok (.aload_n 0, 1) := by decide +kernel
theorem d_Hd_set_6 : decode b_Hd_set 6 = .ok (.iload_n 2, 1) := by decide +kernel
theorem d_Hd_set_7 : decode b_Hd_set 7 = .ok (.putfield 13, 3) := by decide +kernel
theorem d_Hd_set_10 : decode b_Hd_set 10 = .ok (.aload_n 0, 1) := by decide +kernel
theorem d_Hd_set_11 : decode b_Hd_set 11 = .ok (.iload_n 3, 1) := by decide +kernel
theorem d_Hd_set_12 : decode b_Hd_set 12 = .ok (.putfield 16, 3) := by decide +kernel
theorem d_Hd_set_15 : decode b_Hd_set 15 = .ok (.aload_n 0, 1) := by decide +kernel
theorem d_Hd_set_16 : decode b_Hd_set 16 = .ok (.iload 4, 2) := by decide +kernel
theorem d_Hd_set_18 : decode b_Hd_set 18 = .ok (.putfield 19, 3) := by decide +kernel
theorem d_Hd_set_21 : decode b_Hd_set 21 = .ok (.return_, 1) := by decide +kernel
theorem d_Hd_become_0 : decode b_Hd_become 0 = .ok (.aload_n 0, 1) := by decide +kernel
theorem d_Hd_become_1 : decode b_Hd_become 1 = .ok (.aload_n 1, 1) := by decide +kernel
theorem d_Hd_become_2 : decode b_Hd_become 2 = .ok (.getfield 7, 3) := by decide +kernel
theorem d_Hd_become_5 : decode b_Hd_become 5 = .ok (.aload_n 1, 1) := by decide +kernel
theorem d_Hd_become_6 : decode b_Hd_become 6 = .ok (.getfield 13, 3) := by decide +kernel
theorem d_Hd_become_9 : decode b_Hd_become 9 = .ok (.aload_n 1, 1) := by decide +kernel
theorem d_Hd_become_10 : decode b_Hd_become 10 = .ok (.getfield 16, 3) := by decide +kernel
theorem d_Hd_become_13 : decode b_Hd_become 13 = .ok (.aload_n 1, 1) := by decide +kernel
theorem d_Hd_become_14 : decode b_Hd_become 14 = .ok (.getfield 19, 3) := by decide +kernel
theorem d_Hd_become_17 : decode b_Hd_become 17 = .ok (.invokevirtual 22, 3) := by decide +kernel
theorem d_Hd_become_20 : decode b_Hd_become 20 = .ok (.return_, 1) := by decide +kernel
theorem d_Hd_beginsWithin_0 : decode b_Hd_beginsWithin 0 = .ok (.aload_n 0, 1) := by decide +kernel
theorem d_Hd_beginsWithin_1 : decode b_Hd_beginsWithin 1 = .ok (.getfield 16, 3) := by decide +kernel
theorem d_Hd_beginsWithin_4 : decode b_Hd_beginsWithin 4 = .ok (.iload_n 1, 1) := by decide +kernel
theorem d_Hd_beginsWithin_5 : decode b_Hd_beginsWithin 5 = .ok (.if_icmp .le (15), 3) := by decide +kernel
theorem d_Hd_beginsWithin_8 : decode b_Hd_beginsWithin 8 = .ok (.aload_n 0, 1) := by decide +kernel
theorem d_Hd_beginsWithin_9 : decode b_Hd_beginsWithin 9 = .ok (.getfield 16, 3) := by decide +kernel
theorem d_Hd_beginsWithin_12 : decode b_Hd_beginsWithin 12 = .ok (.iload_n 2, 1) := by decide +kernel
theorem d_Hd_beginsWithin_13 : decode b_Hd_beginsWithin 13 = .ok (.if_icmp .ge (7), 3) := by decide +kernel
theorem d_Hd_beginsWithin_16 : decode b_Hd_beginsWithin 16 = .ok (.iconst 1, 1) := by decide +kernel
theorem d_Hd_beginsWithin_17 : decode b_Hd_beginsWithin 17 = .ok (.goto (4), 3) := by decide +kernel
theorem d_Hd_beginsWithin_20 : decode b_Hd_beginsWithin 20 = .ok (.iconst 0, 1) := by decide +kernel
theorem d_Hd_beginsWithin_21 : decode b_Hd_beginsWithin 21 = .ok (.ireturn, 1) := by decide +kernel
theorem d_Jb_init_0 : decode b_Jb_init 0 = .ok (.aload_n 0, 1) := by decide +kernel
theorem d_Jb_init_1 : decode b_Jb_init 1 = .ok (.invokespecial 3, 3) := by decide +kernel
theorem d_Jb_init_4 : decode b_Jb_init 4 = .ok (.aload_n 0, 1) := by decide +kernel
theorem d_Jb_init_5 : decode b_Jb_init 5 = .ok (.iconst 4, 1) := by decide +kernel
theorem d_Jb_init_6 : decode b_Jb_init 6 = .ok (.newarray .int, 2) := by decide +kernel
theorem d_Jb_init_8 : decode b_Jb_init 8 = .ok (.putfield 9, 3) := by decide +kernel
theorem d_Jb_init_11 : decode b_Jb_init 11 = .ok (.return_, 1) := by decide +kernel
theorem d_Jb_want_0 : decode b_Jb_want 0 = .ok (.aload_n 0, 1) := by decide +kernel
theorem d_Jb_want_1 : decode b_Jb_want 1 = .ok (.iload_n 1, 1) := by decide +kernel
theorem d_Jb_want_2 : decode b_Jb_want 2 = .ok (.putfield 15, 3) := by decide +kernel
theorem d_Jb_want_5 : decode b_Jb_want 5 = .ok (.aload_n 0, 1) := by decide +kernel
theorem d_Jb_want_6 : decode b_Jb_want 6 = .ok (.iload_n 2, 1) := by decide +kernel
theorem d_Jb_want_7 : decode b_Jb_want 7 = .ok (.putfield 19, 3) := by decide +kernel
theorem d_Jb_want_10 : decode b_Jb_want 10 = .ok (.aload_n 0, 1) := by decide +kernel
theorem d_Jb_want_11 : decode b_Jb_want 11 = .ok (.iload_n 3, 1) := by decide +kernel
theorem d_Jb_want_12 : decode b_Jb_want 12 = .ok (.putfield 22, 3) := by decide +kernel
theorem d_Jb_want_15 : decode b_Jb_want 15 = .ok (.aload_n 0, 1) := by decide +kernel
theorem d_Jb_want_16 : decode b_Jb_want 16 = .ok (.iload 4, 2) := by decide +kernel
theorem d_Jb_want_18 : decode b_Jb_want 18 = .ok (.putfield 25, 3) := by decide +kernel
theorem d_Jb_want_21 : decode b_Jb_want 21 = .ok (.aload_n 0, 1) := by decide +kernel
theorem d_Jb_want_22 : decode b_Jb_want 22 = .ok (.iload 5, 2) := by decide +kernel
theorem d_Jb_want_24 : decode b_Jb_want 24 = .ok (.putfield 28, 3) := by decide +kernel
theorem d_Jb_want_27 : decode b_Jb_want 27 = .ok (.aload_n 0, 1) := by decide +kernel
theorem d_Jb_want_28 : decode b_Jb_want 28 = .ok (.iload 6, 2) := by decide +kernel
theorem d_Jb_want_30 : decode b_Jb_want 30 = .ok (.putfield 31, 3) := by decide +kernel
theorem d_Jb_want_33 : decode b_Jb_want 33 = .ok (.aload_n 0, 1) := by decide +kernel
theorem d_Jb_want_34 : decode b_Jb_want 34 = .ok (.iconst (-1), 1) := by decide +kernel
theorem d_Jb_want_35 : decode b_Jb_want 35 = .ok (.putfield 34, 3) := by decide +kernel
theorem d_Jb_want_38 : decode b_Jb_want 38 = .ok (.aload_n 0, 1) := by decide +kernel
theorem d_Jb_want_39 : decode b_Jb_want 39 = .ok (.iconst 0, 1) := by decide +kernel
theorem d_Jb_want_40 : decode b_Jb_want 40 = .ok (.putfield 37, 3) := by decide +kernel
theorem d_Jb_want_43 : decode b_Jb_want 43 = .ok (.aload_n 0, 1) := by decide +kernel
theorem d_Jb_want_44 : decode b_Jb_want 44 = .ok (.iconst (-1), 1) := by decide +kernel
theorem d_Jb_want_45 : decode b_Jb_want 45 = .ok (.putfield 40, 3) := by decide +kernel
theorem d_Jb_want_48 : decode b_Jb_want 48 = .ok (.aload_n 0, 1) := by decide +kernel
theorem d_Jb_want_49 : decode b_Jb_want 49 = .ok (.iconst (-1), 1) := by decide +kernel
theorem d_Jb_want_50 : decode b_Jb_want 50 = .ok (.putfield 43, 3) := by decide +kernel
theorem d_Jb_want_53 : decode b_Jb_want 53 = .ok (.aload_n 0, 1) := by decide +kernel
theorem d_Jb_want_54 : decode b_Jb_want 54 = .ok (.iconst 0, 1) := by decide +kernel
theorem d_Jb_want_55 : decode b_Jb_want 55 = .ok (.putfield 46, 3) := by decide +kernel
theorem d_Jb_want_58 : decode b_Jb_want 58 = .ok (.aload_n 0, 1) := by decide +kernel
theorem d_Jb_want_59 : decode b_Jb_want 59 = .ok (.iconst 0, 1) := by decide +kernel
theorem d_Jb_want_60 : decode b_Jb_want 60 = .ok (.putfield 49, 3) := by decide +kernel
theorem d_Jb_want_63 : decode b_Jb_want 63 = .ok (.aload_n 0, 1) := by decide +kernel
theorem d_Jb_want_64 : decode b_Jb_want 64 = .ok (.iconst 0, 1) := by decide +kernel
theorem d_Jb_want_65 : decode b_Jb_want 65 = .ok (.putfield 52, 3) := by decide +kernel
theorem d_Jb_want_68 : decode b_Jb_want 68 = .ok (.return_, 1) := by decide +kernel
theorem d_Jb_become_0 : decode b_Jb_become 0 = .ok (.aload_n 0, 1) := by decide +kernel
theorem d_Jb_become_1 : decode b_Jb_become 1 = .ok (.aload_n 1, 1) := by decide +kernel
theorem d_Jb_become_2 : decode b_Jb_become 2 = .ok (.getfield 15, 3) := by decide +kernel
theorem d_Jb_become_5 : decode b_Jb_become 5 = .ok (.putfield 15, 3) := by decide +kernel
theorem d_Jb_become_8 : decode b_Jb_become 8 = .ok (.aload_n 0, 1) := by decide +kernel
theorem d_Jb_become_9 : decode b_Jb_become 9 = .ok (.aload_n 1, 1) := by decide +kernel
theorem d_Jb_become_10 : decode b_Jb_become 10 = .ok (.getfield 19, 3) := by decide +kernel
theorem d_Jb_become_13 : decode b_Jb_become 13 = .ok (.putfield 19, 3) := by decide +kernel
theorem d_Jb_become_16 : decode b_Jb_become 16 = .ok (.aload_n 0, 1) := by decide +kernel
theorem d_Jb_become_17 : decode b_Jb_become 17 = .ok (.aload_n 1, 1) := by decide +kernel
theorem d_Jb_become_18 : decode b_Jb_become 18 = .ok (.getfield 22, 3) := by decide +kernel
theorem d_Jb_become_21 : decode b_Jb_become 21 = .ok (.putfield 22, 3) := by decide +kernel
theorem d_Jb_become_24 : decode b_Jb_become 24 = .ok (.aload_n 0, 1) := by decide +kernel
theorem d_Jb_become_25 : decode b_Jb_become 25 = .ok (.aload_n 1, 1) := by decide +kernel
theorem d_Jb_become_26 : decode b_Jb_become 26 = .ok (.getfield 25, 3) := by decide +kernel
theorem d_Jb_become_29 : decode b_Jb_become 29 = .ok (.putfield 25, 3) := by decide +kernel
theorem d_Jb_become_32 : decode b_Jb_become 32 = .ok (.aload_n 0, 1) := by decide +kernel
theorem d_Jb_become_33 : decode b_Jb_become 33 = .ok (.aload_n 1, 1) := by decide +kernel
theorem d_Jb_become_34 : decode b_Jb_become 34 = .ok (.getfield 28, 3) := by decide +kernel
theorem d_Jb_become_37 : decode b_Jb_become 37 = .ok (.putfield 28, 3) := by decide +kernel
theorem d_Jb_become_40 : decode b_Jb_become 40 = .ok (.aload_n 0, 1) := by decide +kernel
theorem d_Jb_become_41 : decode b_Jb_become 41 = .ok (.aload_n 1, 1) := by decide +kernel
theorem d_Jb_become_42 : decode b_Jb_become 42 = .ok (.getfield 31, 3) := by decide +kernel
theorem d_Jb_become_45 : decode b_Jb_become 45 = .ok (.putfield 31, 3) := by decide +kernel
theorem d_Jb_become_48 : decode b_Jb_become 48 = .ok (.aload_n 0, 1) := by decide +kernel
theorem d_Jb_become_49 : decode b_Jb_become 49 = .ok (.aload_n 1, 1) := by decide +kernel
theorem d_Jb_become_50 : decode b_Jb_become 50 = .ok (.getfield 34, 3) := by decide +kernel
theorem d_Jb_become_53 : decode b_Jb_become 53 = .ok (.putfield 34, 3) := by decide +kernel
theorem d_Jb_become_56 : decode b_Jb_become 56 = .ok (.aload_n 0, 1) := by decide +kernel
theorem d_Jb_become_57 : decode b_Jb_become 57 = .ok (.aload_n 1, 1) := by decide +kernel
theorem d_Jb_become_58 : decode b_Jb_become 58 = .ok (.getfield 37, 3) := by decide +kernel
theorem d_Jb_become_61 : decode b_Jb_become 61 = .ok (.putfield 37, 3) := by decide +kernel
theorem d_Jb_become_64 : decode b_Jb_become 64 = .ok (.aload_n 0, 1) := by decide +kernel
theorem d_Jb_become_65 : decode b_Jb_become 65 = .ok (.aload_n 1, 1) := by decide +kernel
theorem d_Jb_become_66 : decode b_Jb_become 66 = .ok (.getfield 40, 3) := by decide +kernel
theorem d_Jb_become_69 : decode b_Jb_become 69 = .ok (.putfield 40, 3) := by decide +kernel
theorem d_Jb_become_72 : decode b_Jb_become 72 = .ok (.aload_n 0, 1) := by decide +kernel
theorem d_Jb_become_73 : decode b_Jb_become 73 = .ok (.aload_n 1, 1) := by decide +kernel
theorem d_Jb_become_74 : decode b_Jb_become 74 = .ok (.getfield 43, 3) := by decide +kernel
theorem d_Jb_become_77 : decode b_Jb_become 77 = .ok (.putfield 43, 3) := by decide +kernel
theorem d_Jb_become_80 : decode b_Jb_become 80 = .ok (.aload_n 0, 1) := by decide +kernel
theorem d_Jb_become_81 : decode b_Jb_become 81 = .ok (.aload_n 1, 1) := by decide +kernel
theorem d_Jb_become_82 : decode b_Jb_become 82 = .ok (.getfield 46, 3) := by decide +kernel
theorem d_Jb_become_85 : decode b_Jb_become 85 = .ok (.putfield 46, 3) := by decide +kernel
theorem d_Jb_become_88 : decode b_Jb_become 88 = .ok (.aload_n 0, 1) := by decide +kernel
theorem d_Jb_become_89 : decode b_Jb_become 89 = .ok (.aload_n 1, 1) := by decide +kernel
theorem d_Jb_become_90 : decode b_Jb_become 90 = .ok (.getfield 49, 3) := by decide +kernel
theorem d_Jb_become_93 : decode b_Jb_become 93 = .ok (.putfield 49, 3) := by decide +kernel
theorem d_Jb_become_96 : decode b_Jb_become 96 = .ok (.aload_n 0, 1) := by decide +kernel
theorem d_Jb_become_97 : decode b_Jb_become 97 = .ok (.aload_n 1, 1) := by decide +kernel
theorem d_Jb_become_98 : decode b_Jb_become 98 = .ok (.getfield 52, 3) := by decide +kernel
theorem d_Jb_become_101 : decode b_Jb_become 101 = .ok (.putfield 52, 3) := by decide +kernel
theorem d_Jb_become_104 : decode b_Jb_become 104 = .ok (.aload_n 1, 1) := by decide +kernel
theorem d_Jb_become_105 : decode b_Jb_become 105 = .ok (.getfield 9, 3) := by decide +kernel
theorem d_Jb_become_108 : decode b_Jb_become 108 = .ok (.iconst 0, 1) := by decide +kernel
theorem d_Jb_become_109 : decode b_Jb_become 109 = .ok (.aload_n 0, 1) := by decide +kernel
theorem d_Jb_become_110 : decode b_Jb_become 110 = .ok (.getfield 9, 3) := by decide +kernel
theorem d_Jb_become_113 : decode b_Jb_become 113 = .ok (.iconst 0, 1) := by decide +kernel
theorem d_Jb_become_114 : decode b_Jb_become 114 = .ok (.iconst 4, 1) := by decide +kernel
theorem d_Jb_become_115 : decode b_Jb_become 115 = .ok (.invokestatic 55, 3) := by decide +kernel
theorem d_Jb_become_118 : decode b_Jb_become 118 = .ok (.return_, 1) := by decide +kernel
theorem d_Jb_left_0 : decode b_Jb_left 0 = .ok (.aload_n 0, 1) := by decide +kernel
theorem d_Jb_left_1 : decode b_Jb_left 1 = .ok (.getfield 25, 3) := by decide +kernel
theorem d_Jb_left_4 : decode b_Jb_left 4 = .ok (.aload_n 0, 1) := by decide +kernel
theorem d_Jb_left_5 : decode b_Jb_left 5 = .ok (.getfield 46, 3) := by decide +kernel
theorem d_Jb_left_8 : decode b_Jb_left 8 = .ok (.isub, 1) := by decide +kernel
theorem d_Jb_left_9 : decode b_Jb_left 9 = .ok (.ireturn, 1) := by decide +kernel
theorem d_Jb_ranUntil_0 : decode b_Jb_ranUntil 0 = .ok (.aload_n 0, 1) := by decide +kernel
theorem d_Jb_ranUntil_1 : decode b_Jb_ranUntil 1 = .ok (.getfield 37, 3) := by decide +kernel
theorem d_Jb_ranUntil_4 : decode b_Jb_ranUntil 4 = .ok (.iconst 1, 1) := by decide +kernel
theorem d_Jb_ranUntil_5 : decode b_Jb_ranUntil 5 = .ok (.if_icmp .ne (12), 3) := by decide +kernel
theorem d_Jb_ranUntil_8 : decode b_Jb_ranUntil 8 = .ok (.iload_n 1, 1) := by decide +kernel
theorem d_Jb_ranUntil_9 : decode b_Jb_ranUntil 9 = .ok (.aload_n 0, 1) := by decide +kernel
theorem d_Jb_ranUntil_10 : decode b_Jb_ranUntil 10 = .ok (.getfield 40, 3) := by decide +kernel
theorem d_Jb_ranUntil_13 : decode b_Jb_ranUntil 13 = .ok (.isub, 1) := by decide +kernel
theorem d_Jb_ranUntil_14 : decode b_Jb_ranUntil 14 = .ok (.goto (4), 3) := by decide +kernel
theorem d_Jb_ranUntil_17 : decode b_Jb_ranUntil 17 = .ok (.iconst 0, 1) := by decide +kernel
theorem d_Jb_ranUntil_18 : decode b_Jb_ranUntil 18 = .ok (.ireturn, 1) := by decide +kernel
theorem d_Jb_keepWhatWasSaved_0 : decode b_Jb_keepWhatWasSaved 0 = .ok (.aload_n 0, 1) := by decide +kernel
theorem d_Jb_keepWhatWasSaved_1 : decode b_Jb_keepWhatWasSaved 1 = .ok (.getfield 31, 3) := by decide +kernel
theorem d_Jb_keepWhatWasSaved_4 : decode b_Jb_keepWhatWasSaved 4 = .ok (.ifCond .le (26), 3) := by decide +kernel
theorem d_Jb_keepWhatWasSaved_7 : decode b_Jb_keepWhatWasSaved 7 = .ok (.aload_n 0, 1) := by decide +kernel
theorem d_Jb_keepWhatWasSaved_8 : decode b_Jb_keepWhatWasSaved 8 = .ok (.iload_n 1, 1) := by decide +kernel
theorem d_Jb_keepWhatWasSaved_9 : decode b_Jb_keepWhatWasSaved 9 = .ok (.invokevirtual 61, 3) := by decide +kernel
theorem d_Jb_keepWhatWasSaved_12 : decode b_Jb_keepWhatWasSaved 12 = .ok (.istore_n 2, 1) := by decide +kernel
theorem d_Jb_keepWhatWasSaved_13 : decode b_Jb_keepWhatWasSaved 13 = .ok (.aload_n 0, 1) := by decide +kernel
theorem d_Jb_keepWhatWasSaved_14 : decode b_Jb_keepWhatWasSaved 14 = .ok (.dup, 1) := by decide +kernel
theorem d_Jb_keepWhatWasSaved_15 : decode b_Jb_keepWhatWasSaved 15 = .ok (.getfield 46, 3) := by decide +kernel
theorem d_Jb_keepWhatWasSaved_18 : decode b_Jb_keepWhatWasSaved 18 = .ok (.iload_n 2, 1) := by decide +kernel
theorem d_Jb_keepWhatWasSaved_19 : decode b_Jb_keepWhatWasSaved 19 = .ok (.iload_n 2, 1) := by decide +kernel
theorem d_Jb_keepWhatWasSaved_20 : decode b_Jb_keepWhatWasSaved 20 = .ok (.aload_n 0, 1) := by decide +kernel
theorem d_Jb_keepWhatWasSaved_21 : decode b_Jb_keepWhatWasSaved 21 = .ok (.getfield 31, 3) := by decide +kernel
theorem d_Jb_keepWhatWasSaved_24 : decode b_Jb_keepWhatWasSaved 24 = .ok (.irem, 1) := by decide +kernel
theorem d_Jb_keepWhatWasSaved_25 : decode b_Jb_keepWhatWasSaved 25 = .ok (.isub, 1) := by decide +kernel
theorem d_Jb_keepWhatWasSaved_26 : decode b_Jb_keepWhatWasSaved 26 = .ok (.iadd, 1) := by decide +kernel
theorem d_Jb_keepWhatWasSaved_27 : decode b_Jb_keepWhatWasSaved 27 = .ok (.putfield 46, 3) := by decide +kernel
theorem d_Jb_keepWhatWasSaved_30 : decode b_Jb_keepWhatWasSaved 30 = .ok (.return_, 1) := by decide +kernel
theorem d_Jb_racksHeld_0 : decode b_Jb_racksHeld 0 = .ok (.iconst 0, 1) := by decide +kernel
theorem d_Jb_racksHeld_1 : decode b_Jb_racksHeld 1 = .ok (.istore_n 1, 1) := by decide +kernel
theorem d_Jb_racksHeld_2 : decode b_Jb_racksHeld 2 = .ok (.iconst 0, 1) := by decide +kernel
theorem d_Jb_racksHeld_3 : decode b_Jb_racksHeld 3 = .ok (.istore_n 2, 1) := by decide +kernel
theorem d_Jb_racksHeld_4 : decode b_Jb_racksHeld 4 = .ok (.iload_n 2, 1) := by decide +kernel
theorem d_Jb_racksHeld_5 : decode b_Jb_racksHeld 5 = .ok (.iconst 4, 1) := by decide +kernel
theorem d_Jb_racksHeld_6 : decode b_Jb_racksHeld 6 = .ok (.if_icmp .ge (21), 3) := by decide +kernel
theorem d_Jb_racksHeld_9 : decode b_Jb_racksHeld 9 = .ok (.aload_n 0, 1) := by decide +kernel
theorem d_Jb_racksHeld_10 : decode b_Jb_racksHeld 10 = .ok (.getfield 9, 3) := by decide +kernel
theorem d_Jb_racksHeld_13 : decode b_Jb_racksHeld 13 = .ok (.iload_n 2, 1) := by decide +kernel
theorem d_Jb_racksHeld_14 : decode b_Jb_racksHeld 14 = .ok (.iaload, 1) := by decide +kernel
theorem d_Jb_racksHeld_15 : decode b_Jb_racksHeld 15 = .ok (.ifCond .le (6), 3) := by decide +kernel
theorem d_Jb_racksHeld_18 : decode b_Jb_racksHeld 18 = .ok (.iinc 1 (1), 3) := by decide +kernel
theorem d_Jb_racksHeld_21 : decode b_Jb_racksHeld 21 = .ok (.iinc 2 (1), 3) := by decide +kernel
theorem d_Jb_racksHeld_24 : decode b_Jb_racksHeld 24 = .ok (.goto (-20), 3) := by decide +kernel
theorem d_Jb_racksHeld_27 : decode b_Jb_racksHeld 27 = .ok (.iload_n 1, 1) := by decide +kernel
theorem d_Jb_racksHeld_28 : decode b_Jb_racksHeld 28 = .ok (.ireturn, 1) := by decide +kernel
theorem d_Rk_init_0 : decode b_Rk_init 0 = .ok (.aload_n 0, 1) := by decide +kernel
theorem d_Rk_init_1 : decode b_Rk_init 1 = .ok (.invokespecial 1, 3) := by decide +kernel
theorem d_Rk_init_4 : decode b_Rk_init 4 = .ok (.return_, 1) := by decide +kernel
theorem d_Rk_become_0 : decode b_Rk_become 0 = .ok (.aload_n 0, 1) := by decide +kernel
theorem d_Rk_become_1 : decode b_Rk_become 1 = .ok (.aload_n 1, 1) := by decide +kernel
theorem d_Rk_become_2 : decode b_Rk_become 2 = .ok (.getfield 7, 3) := by decide +kernel
theorem d_Rk_become_5 : decode b_Rk_become 5 = .ok (.putfield 7, 3) := by decide +kernel
theorem d_Rk_become_8 : decode b_Rk_become 8 = .ok (.aload_n 0, 1) := by decide +kernel
theorem d_Rk_become_9 : decode b_Rk_become 9 = .ok (.aload_n 1, 1) := by decide +kernel
theorem d_Rk_become_10 : decode b_Rk_become 10 = .ok (.getfield 13, 3) := by decide +kernel
theorem d_Rk_become_13 : decode b_Rk_become 13 = .ok (.putfield 13, 3) := by decide +kernel
theorem d_Rk_become_16 : decode b_Rk_become 16 = .ok (.aload_n 0, 1) := by decide +kernel
theorem d_Rk_become_17 : decode b_Rk_become 17 = .ok (.aload_n 1, 1) := by decide +kernel
theorem d_Rk_become_18 : decode b_Rk_become 18 = .ok (.getfield 16, 3) := by decide +kernel
theorem d_Rk_become_21 : decode b_Rk_become 21 = .ok (.putfield 16, 3) := by decide +kernel
theorem d_Rk_become_24 : decode b_Rk_become 24 = .ok (.return_, 1) := by decide +kernel
theorem d_In_bitCount_0 : decode b_In_bitCount 0 = .ok (.iload_n 0, 1) := by decide +kernel
theorem d_In_bitCount_1 : decode b_In_bitCount 1 = .ok (.iload_n 0, 1) := by decide +kernel
theorem d_In_bitCount_2 : decode b_In_bitCount 2 = .ok (.iconst 1, 1) := by decide +kernel
theorem d_In_bitCount_3 : decode b_In_bitCount 3 = .ok (.iushr, 1) := by decide +kernel
theorem d_In_bitCount_4 : decode b_In_bitCount 4 = .ok (.ldc_w 265, 3) := by decide +kernel
theorem d_In_bitCount_7 : decode b_In_bitCount 7 = .ok (.iand, 1) := by decide +kernel
theorem d_In_bitCount_8 : decode b_In_bitCount 8 = .ok (.isub, 1) := by decide +kernel
theorem d_In_bitCount_9 : decode b_In_bitCount 9 = .ok (.istore_n 0, 1) := by decide +kernel
theorem d_In_bitCount_10 : decode b_In_bitCount 10 = .ok (.iload_n 0, 1) := by decide +kernel
theorem d_In_bitCount_11 : decode b_In_bitCount 11 = .ok (.ldc_w 266, 3) := by decide +kernel
theorem d_In_bitCount_14 : decode b_In_bitCount 14 = .ok (.iand, 1) := by decide +kernel
theorem d_In_bitCount_15 : decode b_In_bitCount 15 = .ok (.iload_n 0, 1) := by decide +kernel
theorem d_In_bitCount_16 : decode b_In_bitCount 16 = .ok (.iconst 2, 1) := by decide +kernel
theorem d_In_bitCount_17 : decode b_In_bitCount 17 = .ok (.iushr, 1) := by decide +kernel
theorem d_In_bitCount_18 : decode b_In_bitCount 18 = .ok (.ldc_w 266, 3) := by decide +kernel
theorem d_In_bitCount_21 : decode b_In_bitCount 21 = .ok (.iand, 1) := by decide +kernel
theorem d_In_bitCount_22 : decode b_In_bitCount 22 = .ok (.iadd, 1) := by decide +kernel
theorem d_In_bitCount_23 : decode b_In_bitCount 23 = .ok (.istore_n 0, 1) := by decide +kernel
theorem d_In_bitCount_24 : decode b_In_bitCount 24 = .ok (.iload_n 0, 1) := by decide +kernel
theorem d_In_bitCount_25 : decode b_In_bitCount 25 = .ok (.iload_n 0, 1) := by decide +kernel
theorem d_In_bitCount_26 : decode b_In_bitCount 26 = .ok (.iconst 4, 1) := by decide +kernel
theorem d_In_bitCount_27 : decode b_In_bitCount 27 = .ok (.iushr, 1) := by decide +kernel
theorem d_In_bitCount_28 : decode b_In_bitCount 28 = .ok (.iadd, 1) := by decide +kernel
theorem d_In_bitCount_29 : decode b_In_bitCount 29 = .ok (.ldc_w 267, 3) := by decide +kernel
theorem d_In_bitCount_32 : decode b_In_bitCount 32 = .ok (.iand, 1) := by decide +kernel
theorem d_In_bitCount_33 : decode b_In_bitCount 33 = .ok (.istore_n 0, 1) := by decide +kernel
theorem d_In_bitCount_34 : decode b_In_bitCount 34 = .ok (.iload_n 0, 1) := by decide +kernel
theorem d_In_bitCount_35 : decode b_In_bitCount 35 = .ok (.iload_n 0, 1) := by decide +kernel
theorem d_In_bitCount_36 : decode b_In_bitCount 36 = .ok (.bipush (8), 2) := by decide +kernel
theorem d_In_bitCount_38 : decode b_In_bitCount 38 = .ok (.iushr, 1) := by decide +kernel
theorem d_In_bitCount_39 : decode b_In_bitCount 39 = .ok (.iadd, 1) := by decide +kernel
theorem d_In_bitCount_40 : decode b_In_bitCount 40 = .ok (.istore_n 0, 1) := by decide +kernel
theorem d_In_bitCount_41 : decode b_In_bitCount 41 = .ok (.iload_n 0, 1) := by decide +kernel
theorem d_In_bitCount_42 : decode b_In_bitCount 42 = .ok (.iload_n 0, 1) := by decide +kernel
theorem d_In_bitCount_43 : decode b_In_bitCount 43 = .ok (.bipush (16), 2) := by decide +kernel
theorem d_In_bitCount_45 : decode b_In_bitCount 45 = .ok (.iushr, 1) := by decide +kernel
theorem d_In_bitCount_46 : decode b_In_bitCount 46 = .ok (.iadd, 1) := by decide +kernel
theorem d_In_bitCount_47 : decode b_In_bitCount 47 = .ok (.istore_n 0, 1) := by decide +kernel
theorem d_In_bitCount_48 : decode b_In_bitCount 48 = .ok (.iload_n 0, 1) := by decide +kernel
theorem d_In_bitCount_49 : decode b_In_bitCount 49 = .ok (.bipush (63), 2) := by decide +kernel
theorem d_In_bitCount_51 : decode b_In_bitCount 51 = .ok (.iand, 1) := by decide +kernel
theorem d_In_bitCount_52 : decode b_In_bitCount 52 = .ok (.ireturn, 1) := by decide +kernel
end
section
theorem d_Mc_init_0 : decode b_Mc_init 0 = .ok (.aload_n 0, 1) := by decide +kernel
theorem d_Mc_init_1 : decode b_Mc_init 1 = .ok (.invokespecial 3, 3) := by decide +kernel
theorem d_Mc_init_4 : decode b_Mc_init 4 = .ok (.aload_n 0, 1) := by decide +kernel
theorem d_Mc_init_5 : decode b_Mc_init 5 = .ok (.iconst 4, 1) := by decide +kernel
theorem d_Mc_init_6 : decode b_Mc_init 6 = .ok (.anewarray 9, 3) := by decide +kernel
theorem d_Mc_init_9 : decode b_Mc_init 9 = .ok (.putfield 11, 3) := by decide +kernel
theorem d_Mc_init_12 : decode b_Mc_init 12 = .ok (.aload_n 0, 1) := by decide +kernel
theorem d_Mc_init_13 : decode b_Mc_init 13 = .ok (.bipush (6), 2) := by decide +kernel
theorem d_Mc_init_15 : decode b_Mc_init 15 = .ok (.anewarray 17, 3) := by decide +kernel
theorem d_Mc_init_18 : decode b_Mc_init 18 = .ok (.putfield 19, 3) := by decide +kernel
theorem d_Mc_init_21 : decode b_Mc_init 21 = .ok (.aload_n 0, 1) := by decide +kernel
theorem d_Mc_init_22 : decode b_Mc_init 22 = .ok (.bipush (30), 2) := by decide +kernel
theorem d_Mc_init_24 : decode b_Mc_init 24 = .ok (.anewarray 23, 3) := by decide +kernel
theorem d_Mc_init_27 : decode b_Mc_init 27 = .ok (.putfield 25, 3) := by decide +kernel
theorem d_Mc_init_30 : decode b_Mc_init 30 = .ok (.aload_n 0, 1) := by decide +kernel
theorem d_Mc_init_31 : decode b_Mc_init 31 = .ok (.bipush (9), 2) := by decide +kernel
theorem d_Mc_init_33 : decode b_Mc_init 33 = .ok (.anewarray 29, 3) := by decide +kernel
theorem d_Mc_init_36 : decode b_Mc_init 36 = .ok (.putfield 31, 3) := by decide +kernel
theorem d_Mc_init_39 : decode b_Mc_init 39 = .ok (.aload_n 0, 1) := by decide +kernel
theorem d_Mc_init_40 : decode b_Mc_init 40 = .ok (.bipush (100), 2) := by decide +kernel
theorem d_Mc_init_42 : decode b_Mc_init 42 = .ok (.putfield 35, 3) := by decide +kernel
theorem d_Mc_init_45 : decode b_Mc_init 45 = .ok (.aload_n 0, 1) := by decide +kernel
theorem d_Mc_init_46 : decode b_Mc_init 46 = .ok (.bipush (10), 2) := by decide +kernel
theorem d_Mc_init_48 : decode b_Mc_init 48 = .ok (.putfield 39, 3) := by decide +kernel
theorem d_Mc_init_51 : decode b_Mc_init 51 = .ok (.aload_n 0, 1) := by decide +kernel
theorem d_Mc_init_52 : decode b_Mc_init 52 = .ok (.iconst (-1), 1) := by decide +kernel
theorem d_Mc_init_53 : decode b_Mc_init 53 = .ok (.putfield 42, 3) := by decide +kernel
theorem d_Mc_init_56 : decode b_Mc_init 56 = .ok (.aload_n 0, 1) := by decide +kernel
theorem d_Mc_init_57 : decode b_Mc_init 57 = .ok (.iconst (-1), 1) := by decide +kernel
theorem d_Mc_init_58 : decode b_Mc_init 58 = .ok (.putfield 45, 3) := by decide +kernel
theorem d_Mc_init_61 : decode b_Mc_init 61 = .ok (.aload_n 0, 1) := by decide +kernel
theorem d_Mc_init_62 : decode b_Mc_init 62 = .ok (.bipush (30), 2) := by decide +kernel
theorem d_Mc_init_64 : decode b_Mc_init 64 = .ok (.newarray .int, 2) := by decide +kernel
theorem d_Mc_init_66 : decode b_Mc_init 66 = .ok (.putfield 48, 3) := by decide +kernel
theorem d_Mc_init_69 : decode b_Mc_init 69 = .ok (.iconst 0, 1) := by decide +kernel
theorem d_Mc_init_70 : decode b_Mc_init 70 = .ok (.istore_n 1, 1) := by decide +kernel
theorem d_Mc_init_71 : decode b_Mc_init 71 = .ok (.iload_n 1, 1) := by decide +kernel
theorem d_Mc_init_72 : decode b_Mc_init 72 = .ok (.iconst 4, 1) := by decide +kernel
theorem d_Mc_init_73 : decode b_Mc_init 73 = .ok (.if_icmp .ge (22), 3) := by decide +kernel
theorem d_Mc_init_76 : decode b_Mc_init 76 = .ok (.aload_n 0, 1) := by decide +kernel
theorem d_Mc_init_77 : decode b_Mc_init 77 = .ok (.getfield 11, 3) := by decide +kernel
theorem d_Mc_init_80 : decode b_Mc_init 80 = .ok (.iload_n 1, 1) := by decide +kernel
theorem d_Mc_init_81 : decode b_Mc_init 81 = .ok (.new 9, 3) := by decide +kernel
theorem d_Mc_init_84 : decode b_Mc_init 84 = .ok (.dup, 1) := by decide +kernel
theorem d_Mc_init_85 : decode b_Mc_init 85 = .ok (.invokespecial 52, 3) := by decide +kernel
theorem d_Mc_init_88 : decode b_Mc_init 88 = .ok (.aastore, 1) := by decide +kernel
theorem d_Mc_init_89 : decode b_Mc_init 89 = .ok (.iinc 1 (1), 3) := by decide +kernel
theorem d_Mc_init_92 : decode b_Mc_init 92 = .ok (.goto (-21), 3) := by decide +kernel
theorem d_Mc_init_95 : decode b_Mc_init 95 = .ok (.iconst 0, 1) := by decide +kernel
theorem d_Mc_init_96 : decode b_Mc_init 96 = .ok (.istore_n 1, 1) := by decide +kernel
theorem d_Mc_init_97 : decode b_Mc_init 97 = .ok (.iload_n 1, 1) := by decide +kernel
theorem d_Mc_init_98 : decode b_Mc_init 98 = .ok (.bipush (6), 2) := by decide +kernel
theorem d_Mc_init_100 : decode b_Mc_init 100 = .ok (.if_icmp .ge (22), 3) := by decide +kernel
theorem d_Mc_init_103 : decode b_Mc_init 103 = .ok (.aload_n 0, 1) := by decide +kernel
theorem d_Mc_init_104 : decode b_Mc_init 104 = .ok (.getfield 19, 3) := by decide +kernel
theorem d_Mc_init_107 : decode b_Mc_init 107 = .ok (.iload_n 1, 1) := by decide +kernel
theorem d_Mc_init_108 : decode b_Mc_init 108 = .ok (.new 17, 3) := by decide +kernel
theorem d_Mc_init_111 : decode b_Mc_init 111 = .ok (.dup, 1) := by decide +kernel
theorem d_Mc_init_112 : decode b_Mc_init 112 = .ok (.invokespecial 53, 3) := by decide +kernel
theorem d_Mc_init_115 : decode b_Mc_init 115 = .ok (.aastore, 1) := by decide +kernel
theorem d_Mc_init_116 : decode b_Mc_init 116 = .ok (.iinc 1 (1), 3) := by decide +kernel
theorem d_Mc_init_119 : decode b_Mc_init 119 = .ok (.goto (-22), 3) := by decide +kernel
theorem d_Mc_init_122 : decode b_Mc_init 122 = .ok (.iconst 0, 1) := by decide +kernel
theorem d_Mc_init_123 : decode b_Mc_init 123 = .ok (.istore_n 1, 1) := by decide +kernel
theorem d_Mc_init_124 : decode b_Mc_init 124 = .ok (.iload_n 1, 1) := by decide +kernel
theorem d_Mc_init_125 : decode b_Mc_init 125 = .ok (.bipush (30), 2) := by decide +kernel
theorem d_Mc_init_127 : decode b_Mc_init 127 = .ok (.if_icmp .ge (22), 3) := by decide +kernel
theorem d_Mc_init_130 : decode b_Mc_init 130 = .ok (.aload_n 0, 1) := by decide +kernel
theorem d_Mc_init_131 : decode b_Mc_init 131 = .ok (.getfield 25, 3) := by decide +kernel
theorem d_Mc_init_134 : decode b_Mc_init 134 = .ok (.iload_n 1, 1) := by decide +kernel
theorem d_Mc_init_135 : decode b_Mc_init 135 = .ok (.new 23, 3) := by decide +kernel
theorem d_Mc_init_138 : decode b_Mc_init 138 = .ok (.dup, 1) := by decide +kernel
theorem d_Mc_init_139 : decode b_Mc_init 139 = .ok (.invokespecial 54, 3) := by decide +kernel
theorem d_Mc_init_142 : decode b_Mc_init 142 = .ok (.aastore, 1) := by decide +kernel
theorem d_Mc_init_143 : decode b_Mc_init 143 = .ok (.iinc 1 (1), 3) := by decide +kernel
theorem d_Mc_init_146 : decode b_Mc_init 146 = .ok (.goto (-22), 3) := by decide +kernel
theorem d_Mc_init_149 : decode b_Mc_init 149 = .ok (.iconst 0, 1) := by decide +kernel
theorem d_Mc_init_150 : decode b_Mc_init 150 = .ok (.istore_n 1, 1) := by decide +kernel
theorem d_Mc_init_151 : decode b_Mc_init 151 = .ok (.iload_n 1, 1) := by decide +kernel
theorem d_Mc_init_152 : decode b_Mc_init 152 = .ok (.bipush (8), 2) := by decide +kernel
theorem d_Mc_init_154 : decode b_Mc_init 154 = .ok (.if_icmp .gt (22), 3) := by decide +kernel
theorem d_Mc_init_157 : decode b_Mc_init 157 = .ok (.aload_n 0, 1) := by decide +kernel
theorem d_Mc_init_158 : decode b_Mc_init 158 = .ok (.getfield 31, 3) := by decide +kernel
theorem d_Mc_init_161 : decode b_Mc_init 161 = .ok (.iload_n 1, 1) := by decide +kernel
theorem d_Mc_init_162 : decode b_Mc_init 162 = .ok (.new 29, 3) := by decide +kernel
theorem d_Mc_init_165 : decode b_Mc_init 165 = .ok (.dup, 1) := by decide +kernel
theorem d_Mc_init_166 : decode b_Mc_init 166 = .ok (.invokespecial 55, 3) := by decide +kernel
theorem d_Mc_init_169 : decode b_Mc_init 169 = .ok (.aastore, 1) := by decide +kernel
theorem d_Mc_init_170 : decode b_Mc_init 170 = .ok (.iinc 1 (1), 3) := by decide +kernel
theorem d_Mc_init_173 : decode b_Mc_init 173 = .ok (.goto (-22), 3) := by decide +kernel
theorem d_Mc_init_176 : decode b_Mc_init 176 = .ok (.return_, 1) := by decide +kernel
theorem d_Mc_become_0 : decode b_Mc_become 0 = .ok (.aload_n 0, 1) := by decide +kernel
theorem d_Mc_become_1 : decode b_Mc_become 1 = .ok (.aload_n 1, 1) := by decide +kernel
theorem d_Mc_become_2 : decode b_Mc_become 2 = .ok (.getfield 56, 3) := by decide +kernel
theorem d_Mc_become_5 : decode b_Mc_become 5 = .ok (.putfield 56, 3) := by decide +kernel
theorem d_Mc_become_8 : decode b_Mc_become 8 = .ok (.aload_n 0, 1) := by decide +kernel
theorem d_Mc_become_9 : decode b_Mc_become 9 = .ok (.aload_n 1, 1) := by decide +kernel
theorem d_Mc_become_10 : decode b_Mc_become 10 = .ok (.getfield 59, 3) := by decide +kernel
theorem d_Mc_become_13 : decode b_Mc_become 13 = .ok (.putfield 59, 3) := by decide +kernel
theorem d_Mc_become_16 : decode b_Mc_become 16 = .ok (.aload_n 0, 1) := by decide +kernel
theorem d_Mc_become_17 : decode b_Mc_become 17 = .ok (.aload_n 1, 1) := by decide +kernel
theorem d_Mc_become_18 : decode b_Mc_become 18 = .ok (.getfield 62, 3) := by decide +kernel
theorem d_Mc_become_21 : decode b_Mc_become 21 = .ok (.putfield 62, 3) := by decide +kernel
theorem d_Mc_become_24 : decode b_Mc_become 24 = .ok (.aload_n 0, 1) := by decide +kernel
theorem d_Mc_become_25 : decode b_Mc_become 25 = .ok (.aload_n 1, 1) := by decide +kernel
theorem d_Mc_become_26 : decode b_Mc_become 26 = .ok (.getfield 65, 3) := by decide +kernel
theorem d_Mc_become_29 : decode b_Mc_become 29 = .ok (.putfield 65, 3) := by decide +kernel
theorem d_Mc_become_32 : decode b_Mc_become 32 = .ok (.aload_n 0, 1) := by decide +kernel
theorem d_Mc_become_33 : decode b_Mc_become 33 = .ok (.aload_n 1, 1) := by decide +kernel
theorem d_Mc_become_34 : decode b_Mc_become 34 = .ok (.getfield 68, 3) := by decide +kernel
theorem d_Mc_become_37 : decode b_Mc_become 37 = .ok (.putfield 68, 3) := by decide +kernel
theorem d_Mc_become_40 : decode b_Mc_become 40 = .ok (.aload_n 0, 1) := by decide +kernel
theorem d_Mc_become_41 : decode b_Mc_become 41 = .ok (.aload_n 1, 1) := by decide +kernel
theorem d_Mc_become_42 : decode b_Mc_become 42 = .ok (.getfield 35, 3) := by decide +kernel
theorem d_Mc_become_45 : decode b_Mc_become 45 = .ok (.putfield 35, 3) := by decide +kernel
theorem d_Mc_become_48 : decode b_Mc_become 48 = .ok (.aload_n 0, 1) := by decide +kernel
theorem d_Mc_become_49 : decode b_Mc_become 49 = .ok (.aload_n 1, 1) := by decide +kernel
theorem d_Mc_become_50 : decode b_Mc_become 50 = .ok (.getfield 39, 3) := by decide +kernel
theorem d_Mc_become_53 : decode b_Mc_become 53 = .ok (.putfield 39, 3) := by decide +kernel
theorem d_Mc_become_56 : decode b_Mc_become 56 = .ok (.aload_n 0, 1) := by decide +kernel
theorem d_Mc_become_57 : decode b_Mc_become 57 = .ok (.aload_n 1, 1) := by decide +kernel
theorem d_Mc_become_58 : decode b_Mc_become 58 = .ok (.getfield 71, 3) := by decide +kernel
theorem d_Mc_become_61 : decode b_Mc_become 61 = .ok (.putfield 71, 3) := by decide +kernel
theorem d_Mc_become_64 : decode b_Mc_become 64 = .ok (.iconst 0, 1) := by decide +kernel
theorem d_Mc_become_65 : decode b_Mc_become 65 = .ok (.istore_n 2, 1) := by decide +kernel
theorem d_Mc_become_66 : decode b_Mc_become 66 = .ok (.iload_n 2, 1) := by decide +kernel
theorem d_Mc_become_67 : decode b_Mc_become 67 = .ok (.aload_n 0, 1) := by decide +kernel
theorem d_Mc_become_68 : decode b_Mc_become 68 = .ok (.getfield 56, 3) := by decide +kernel
theorem d_Mc_become_71 : decode b_Mc_become 71 = .ok (.if_icmp .ge (24), 3) := by decide +kernel
theorem d_Mc_become_74 : decode b_Mc_become 74 = .ok (.aload_n 0, 1) := by decide +kernel
theorem d_Mc_become_75 : decode b_Mc_become 75 = .ok (.getfield 11, 3) := by decide +kernel
theorem d_Mc_become_78 : decode b_Mc_become 78 = .ok (.iload_n 2, 1) := by decide +kernel
theorem d_Mc_become_79 : decode b_Mc_become 79 = .ok (.aaload, 1) := by decide +kernel
theorem d_Mc_become_80 : decode b_Mc_become 80 = .ok (.aload_n 1, 1) := by decide +kernel
theorem d_Mc_become_81 : decode b_Mc_become 81 = .ok (.getfield 11, 3) := by decide +kernel
theorem d_Mc_become_84 : decode b_Mc_become 84 = .ok (.iload_n 2, 1) := by decide +kernel
theorem d_Mc_become_85 : decode b_Mc_become 85 = .ok (.aaload, 1) := by decide +kernel
theorem d_Mc_become_86 : decode b_Mc_become 86 = .ok (.invokevirtual 74, 3) := by decide +kernel
theorem d_Mc_become_89 : decode b_Mc_become 89 = .ok (.iinc 2 (1), 3) := by decide +kernel
theorem d_Mc_become_92 : decode b_Mc_become 92 = .ok (.goto (-26), 3) := by decide +kernel
theorem d_Mc_become_95 : decode b_Mc_become 95 = .ok (.iconst 0, 1) := by decide +kernel
theorem d_Mc_become_96 : decode b_Mc_become 96 = .ok (.istore_n 2, 1) := by decide +kernel
theorem d_Mc_become_97 : decode b_Mc_become 97 = .ok (.iload_n 2, 1) := by decide +kernel
theorem d_Mc_become_98 : decode b_Mc_become 98 = .ok (.aload_n 0, 1) := by decide +kernel
theorem d_Mc_become_99 : decode b_Mc_become 99 = .ok (.getfield 59, 3) := by decide +kernel
theorem d_Mc_become_102 : decode b_Mc_become 102 = .ok (.if_icmp .ge (24), 3) := by decide +kernel
theorem d_Mc_become_105 : decode b_Mc_become 105 = .ok (.aload_n 0, 1) := by decide +kernel
theorem d_Mc_become_106 : decode b_Mc_become 106 = .ok (.getfield 19, 3) := by decide +kernel
theorem d_Mc_become_109 : decode b_Mc_become 109 = .ok (.iload_n 2, 1) := by decide +kernel
theorem d_Mc_become_110 : decode b_Mc_become 110 = .ok (.aaload, 1) := by decide +kernel
theorem d_Mc_become_111 : decode b_Mc_become 111 = .ok (.aload_n 1, 1) := by decide +kernel
theorem d_Mc_become_112 : decode b_Mc_become 112 = .ok (.getfield 19, 3) := by decide +kernel
theorem d_Mc_become_115 : decode b_Mc_become 115 = .ok (.iload_n 2, 1) := by decide +kernel
theorem d_Mc_become_116 : decode b_Mc_become 116 = .ok (.aaload, 1) := by decide +kernel
theorem d_Mc_become_117 : decode b_Mc_become 117 = .ok (.invokevirtual 78, 3) := by decide +kernel
theorem d_Mc_become_120 : decode b_Mc_become 120 = .ok (.iinc 2 (1), 3) := by decide +kernel
theorem d_Mc_become_123 : decode b_Mc_become 123 = .ok (.goto (-26), 3) := by decide +kernel
theorem d_Mc_become_126 : decode b_Mc_become 126 = .ok (.iconst 0, 1) := by decide +kernel
theorem d_Mc_become_127 : decode b_Mc_become 127 = .ok (.istore_n 2, 1) := by decide +kernel
theorem d_Mc_become_128 : decode b_Mc_become 128 = .ok (.iload_n 2, 1) := by decide +kernel
theorem d_Mc_become_129 : decode b_Mc_become 129 = .ok (.aload_n 0, 1) := by decide +kernel
theorem d_Mc_become_130 : decode b_Mc_become 130 = .ok (.getfield 62, 3) := by decide +kernel
theorem d_Mc_become_133 : decode b_Mc_become 133 = .ok (.if_icmp .ge (24), 3) := by decide +kernel
theorem d_Mc_become_136 : decode b_Mc_become 136 = .ok (.aload_n 0, 1) := by decide +kernel
theorem d_Mc_become_137 : decode b_Mc_become 137 = .ok (.getfield 25, 3) := by decide +kernel
theorem d_Mc_become_140 : decode b_Mc_become 140 = .ok (.iload_n 2, 1) := by decide +kernel
theorem d_Mc_become_141 : decode b_Mc_become 141 = .ok (.aaload, 1) := by decide +kernel
theorem d_Mc_become_142 : decode b_Mc_become 142 = .ok (.aload_n 1, 1) := by decide +kernel
theorem d_Mc_become_143 : decode b_Mc_become 143 = .ok (.getfield 25, 3) := by decide +kernel
theorem d_Mc_become_146 : decode b_Mc_become 146 = .ok (.iload_n 2, 1) := by decide +kernel
theorem d_Mc_become_147 : decode b_Mc_become 147 = .ok (.aaload, 1) := by decide +kernel
theorem d_Mc_become_148 : decode b_Mc_become 148 = .ok (.invokevirtual 81, 3) := by decide +kernel
theorem d_Mc_become_151 : decode b_Mc_become 151 = .ok (.iinc 2 (1), 3) := by decide +kernel
theorem d_Mc_become_154 : decode b_Mc_become 154 = .ok (.goto (-26), 3) := by decide +kernel
theorem d_Mc_become_157 : decode b_Mc_become 157 = .ok (.iconst 0, 1) := by decide +kernel
theorem d_Mc_become_158 : decode b_Mc_become 158 = .ok (.istore_n 2, 1) := by decide +kernel
theorem d_Mc_become_159 : decode b_Mc_become 159 = .ok (.iload_n 2, 1) := by decide +kernel
theorem d_Mc_become_160 : decode b_Mc_become 160 = .ok (.aload_n 0, 1) := by decide +kernel
theorem d_Mc_become_161 : decode b_Mc_become 161 = .ok (.getfield 65, 3) := by decide +kernel
theorem d_Mc_become_164 : decode b_Mc_become 164 = .ok (.if_icmp .ge (24), 3) := by decide +kernel
theorem d_Mc_become_167 : decode b_Mc_become 167 = .ok (.aload_n 0, 1) := by decide +kernel
theorem d_Mc_become_168 : decode b_Mc_become 168 = .ok (.getfield 31, 3) := by decide +kernel
theorem d_Mc_become_171 : decode b_Mc_become 171 = .ok (.iload_n 2, 1) := by decide +kernel
theorem d_Mc_become_172 : decode b_Mc_become 172 = .ok (.aaload, 1) := by decide +kernel
theorem d_Mc_become_173 : decode b_Mc_become 173 = .ok (.aload_n 1, 1) := by decide +kernel
theorem d_Mc_become_174 : decode b_Mc_become 174 = .ok (.getfield 31, 3) := by decide +kernel
theorem d_Mc_become_177 : decode b_Mc_become 177 = .ok (.iload_n 2, 1) := by decide +kernel
theorem d_Mc_become_178 : decode b_Mc_become 178 = .ok (.aaload, 1) := by decide +kernel
theorem d_Mc_become_179 : decode b_Mc_become 179 = .ok (.invokevirtual 84, 3) := by decide +kernel
theorem d_Mc_become_182 : decode b_Mc_become 182 = .ok (.iinc 2 (1), 3) := by decide +kernel
theorem d_Mc_become_185 : decode b_Mc_become 185 = .ok (.goto (-26), 3) := by decide +kernel
theorem d_Mc_become_188 : decode b_Mc_become 188 = .ok (.return_, 1) := by decide +kernel
theorem d_Mc_hasRack_0 : decode b_Mc_hasRack 0 = .ok (.iload_n 1, 1) := by decide +kernel
theorem d_Mc_hasRack_1 : decode b_Mc_hasRack 1 = .ok (.ifCond .lt (15), 3) := by decide +kernel
theorem d_Mc_hasRack_4 : decode b_Mc_hasRack 4 = .ok (.iload_n 1, 1) := by decide +kernel
theorem d_Mc_hasRack_5 : decode b_Mc_hasRack 5 = .ok (.aload_n 0, 1) := by decide +kernel
theorem d_Mc_hasRack_6 : decode b_Mc_hasRack 6 = .ok (.getfield 56, 3) := by decide +kernel
theorem d_Mc_hasRack_9 : decode b_Mc_hasRack 9 = .ok (.if_icmp .ge (7), 3) := by decide +kernel
theorem d_Mc_hasRack_12 : decode b_Mc_hasRack 12 = .ok (.iconst 1, 1) := by decide +kernel
theorem d_Mc_hasRack_13 : decode b_Mc_hasRack 13 = .ok (.goto (4), 3) := by decide +kernel
theorem d_Mc_hasRack_16 : decode b_Mc_hasRack 16 = .ok (.iconst 0, 1) := by decide +kernel
theorem d_Mc_hasRack_17 : decode b_Mc_hasRack 17 = .ok (.ireturn, 1) := by decide +kernel
theorem d_Mc_hasAccount_0 : decode b_Mc_hasAccount 0 = .ok (.iload_n 1, 1) := by decide +kernel
theorem d_Mc_hasAccount_1 : decode b_Mc_hasAccount 1 = .ok (.ifCond .lt (15), 3) := by decide +kernel
theorem d_Mc_hasAccount_4 : decode b_Mc_hasAccount 4 = .ok (.iload_n 1, 1) := by decide +kernel
theorem d_Mc_hasAccount_5 : decode b_Mc_hasAccount 5 = .ok (.aload_n 0, 1) := by decide +kernel
theorem d_Mc_hasAccount_6 : decode b_Mc_hasAccount 6 = .ok (.getfield 59, 3) := by decide +kernel
theorem d_Mc_hasAccount_9 : decode b_Mc_hasAccount 9 = .ok (.if_icmp .ge (7), 3) := by decide +kernel
theorem d_Mc_hasAccount_12 : decode b_Mc_hasAccount 12 = .ok (.iconst 1, 1) := by decide +kernel
theorem d_Mc_hasAccount_13 : decode b_Mc_hasAccount 13 = .ok (.goto (4), 3) := by decide +kernel
theorem d_Mc_hasAccount_16 : decode b_Mc_hasAccount 16 = .ok (.iconst 0, 1) := by decide +kernel
theorem d_Mc_hasAccount_17 : decode b_Mc_hasAccount 17 = .ok (.ireturn, 1) := by decide +kernel
theorem d_Mc_hasJob_0 : decode b_Mc_hasJob 0 = .ok (.iload_n 1, 1) := by decide +kernel
theorem d_Mc_hasJob_1 : decode b_Mc_hasJob 1 = .ok (.ifCond .lt (15), 3) := by decide +kernel
theorem d_Mc_hasJob_4 : decode b_Mc_hasJob 4 = .ok (.iload_n 1, 1) := by decide +kernel
theorem d_Mc_hasJob_5 : decode b_Mc_hasJob 5 = .ok (.aload_n 0, 1) := by decide +kernel
theorem d_Mc_hasJob_6 : decode b_Mc_hasJob 6 = .ok (.getfield 62, 3) := by decide +kernel
theorem d_Mc_hasJob_9 : decode b_Mc_hasJob 9 = .ok (.if_icmp .ge (7), 3) := by decide +kernel
theorem d_Mc_hasJob_12 : decode b_Mc_hasJob 12 = .ok (.iconst 1, 1) := by decide +kernel
theorem d_Mc_hasJob_13 : decode b_Mc_hasJob 13 = .ok (.goto (4), 3) := by decide +kernel
theorem d_Mc_hasJob_16 : decode b_Mc_hasJob 16 = .ok (.iconst 0, 1) := by decide +kernel
theorem d_Mc_hasJob_17 : decode b_Mc_hasJob 17 = .ok (.ireturn, 1) := by decide +kernel
theorem d_Mc_addRack_0 : decode b_Mc_addRack 0 = .ok (.aload_n 0, 1) := by decide +kernel
theorem d_Mc_addRack_1 : decode b_Mc_addRack 1 = .ok (.getfield 56, 3) := by decide +kernel
theorem d_Mc_addRack_4 : decode b_Mc_addRack 4 = .ok (.istore_n 2, 1) := by decide +kernel
theorem d_Mc_addRack_5 : decode b_Mc_addRack 5 = .ok (.aload_n 0, 1) := by decide +kernel
theorem d_Mc_addRack_6 : decode b_Mc_addRack 6 = .ok (.getfield 11, 3) := by decide +kernel
theorem d_Mc_addRack_9 : decode b_Mc_addRack 9 = .ok (.iload_n 2, 1) := by decide +kernel
theorem d_Mc_addRack_10 : decode b_Mc_addRack 10 = .ok (.aaload, 1) := by decide +kernel
theorem d_Mc_addRack_11 : decode b_Mc_addRack 11 = .ok (.iload_n 1, 1) := by decide +kernel
theorem d_Mc_addRack_12 : decode b_Mc_addRack 12 = .ok (.putfield 87, 3) := by decide +kernel
theorem d_Mc_addRack_15 : decode b_Mc_addRack 15 = .ok (.aload_n 0, 1) := by decide +kernel
theorem d_Mc_addRack_16 : decode b_Mc_addRack 16 = .ok (.getfield 11, 3) := by decide +kernel
theorem d_Mc_addRack_19 : decode b_Mc_addRack 19 = .ok (.iload_n 2, 1) := by decide +kernel
theorem d_Mc_addRack_20 : decode b_Mc_addRack 20 = .ok (.aaload, 1) := by decide +kernel
theorem d_Mc_addRack_21 : decode b_Mc_addRack 21 = .ok (.iload_n 1, 1) := by decide +kernel
theorem d_Mc_addRack_22 : decode b_Mc_addRack 22 = .ok (.putfield 90, 3) := by decide +kernel
theorem d_Mc_addRack_25 : decode b_Mc_addRack 25 = .ok (.aload_n 0, 1) := by decide +kernel
theorem d_Mc_addRack_26 : decode b_Mc_addRack 26 = .ok (.dup, 1) := by decide +kernel
theorem d_Mc_addRack_27 : decode b_Mc_addRack 27 = .ok (.getfield 56, 3) := by decide +kernel
theorem d_Mc_addRack_30 : decode b_Mc_addRack 30 = .ok (.iconst 1, 1) := by decide +kernel
theorem d_Mc_addRack_31 : decode b_Mc_addRack 31 = .ok (.iadd, 1) := by decide +kernel
theorem d_Mc_addRack_32 : decode b_Mc_addRack 32 = .ok (.putfield 56, 3) := by decide +kernel
theorem d_Mc_addRack_35 : decode b_Mc_addRack 35 = .ok (.aload_n 0, 1) := by decide +kernel
theorem d_Mc_addRack_36 : decode b_Mc_addRack 36 = .ok (.invokevirtual 93, 3) := by decide +kernel
theorem d_Mc_addRack_39 : decode b_Mc_addRack 39 = .ok (.iload_n 2, 1) := by decide +kernel
theorem d_Mc_addRack_40 : decode b_Mc_addRack 40 = .ok (.ireturn, 1) := by decide +kernel
theorem d_Mc_addAccount_0 : decode b_Mc_addAccount 0 = .ok (.aload_n 0, 1) := by decide +kernel
theorem d_Mc_addAccount_1 : decode b_Mc_addAccount 1 = .ok (.getfield 59, 3) := by decide +kernel
theorem d_Mc_addAccount_4 : decode b_Mc_addAccount 4 = .ok (.istore_n 2, 1) := by decide +kernel
theorem d_Mc_addAccount_5 : decode b_Mc_addAccount 5 = .ok (.aload_n 0, 1) := by decide +kernel
theorem d_Mc_addAccount_6 : decode b_Mc_addAccount 6 = .ok (.getfield 19, 3) := by decide +kernel
theorem d_Mc_addAccount_9 : decode b_Mc_addAccount 9 = .ok (.iload_n 2, 1) := by decide +kernel
theorem d_Mc_addAccount_10 : decode b_Mc_addAccount 10 = .ok (.aaload, 1) := by decide +kernel
theorem d_Mc_addAccount_11 : decode b_Mc_addAccount 11 = .ok (.iload_n 1, 1) := by decide +kernel
theorem d_Mc_addAccount_12 : decode b_Mc_addAccount 12 = .ok (.putfield 96, 3) := by decide +kernel
theorem d_Mc_addAccount_15 : decode b_Mc_addAccount 15 = .ok (.aload_n 0, 1) := by decide +kernel
theorem d_Mc_addAccount_16 : decode b_Mc_addAccount 16 = .ok (.dup, 1) := by decide +kernel
theorem d_Mc_addAccount_17 : decode b_Mc_addAccount 17 = .ok (.getfield 59, 3) := by decide +kernel
theorem d_Mc_addAccount_20 : decode b_Mc_addAccount 20 = .ok (.iconst 1, 1) := by decide +kernel
theorem d_Mc_addAccount_21 : decode b_Mc_addAccount 21 = .ok (.iadd, 1) := by decide +kernel
theorem d_Mc_addAccount_22 : decode b_Mc_addAccount 22 = .ok (.putfield 59, 3) := by decide +kernel
theorem d_Mc_addAccount_25 : decode b_Mc_addAccount 25 = .ok (.iload_n 2, 1) := by decide +kernel
theorem d_Mc_addAccount_26 : decode b_Mc_addAccount 26 = .ok (.ireturn, 1) := by decide +kernel
theorem d_Mc_dropBooking_0 : decode b_Mc_dropBooking 0 = .ok (.iload_n 1, 1) := by decide +kernel
theorem d_Mc_dropBooking_1 : decode b_Mc_dropBooking 1 = .ok (.istore_n 2, 1) := by decide +kernel
theorem d_Mc_dropBooking_2 : decode b_Mc_dropBooking 2 = .ok (.iload_n 2, 1) := by decide +kernel
theorem d_Mc_dropBooking_3 : decode b_Mc_dropBooking 3 = .ok (.iconst 1, 1) := by decide +kernel
theorem d_Mc_dropBooking_4 : decode b_Mc_dropBooking 4 = .ok (.iadd, 1) := by decide +kernel
theorem d_Mc_dropBooking_5 : decode b_Mc_dropBooking 5 = .ok (.aload_n 0, 1) := by decide +kernel
theorem d_Mc_dropBooking_6 : decode b_Mc_dropBooking 6 = .ok (.getfield 65, 3) := by decide +kernel
theorem d_Mc_dropBooking_9 : decode b_Mc_dropBooking 9 = .ok (.if_icmp .ge (26), 3) := by decide +kernel
theorem d_Mc_dropBooking_12 : decode b_Mc_dropBooking 12 = .ok (.aload_n 0, 1) := by decide +kernel
theorem d_Mc_dropBooking_13 : decode b_Mc_dropBooking 13 = .ok (.getfield 31, 3) := by decide +kernel
theorem d_Mc_dropBooking_16 : decode b_Mc_dropBooking 16 = .ok (.iload_n 2, 1) := by decide +kernel
theorem d_Mc_dropBooking_17 : decode b_Mc_dropBooking 17 = .ok (.aaload, 1) := by decide +kernel
theorem d_Mc_dropBooking_18 : decode b_Mc_dropBooking 18 = .ok (.aload_n 0, 1) := by decide +kernel
theorem d_Mc_dropBooking_19 : decode b_Mc_dropBooking 19 = .ok (.getfield 31, 3) := by decide +kernel
theorem d_Mc_dropBooking_22 : decode b_Mc_dropBooking 22 = .ok (.iload_n 2, 1) := by decide +kernel
theorem d_Mc_dropBooking_23 : decode b_Mc_dropBooking 23 = .ok (.iconst 1, 1) := by decide +kernel
theorem d_Mc_dropBooking_24 : decode b_Mc_dropBooking 24 = .ok (.iadd, 1) := by decide +kernel
theorem d_Mc_dropBooking_25 : decode b_Mc_dropBooking 25 = .ok (.aaload, 1) := by decide +kernel
theorem d_Mc_dropBooking_26 : decode b_Mc_dropBooking 26 = .ok (.invokevirtual 84, 3) := by decide +kernel
theorem d_Mc_dropBooking_29 : decode b_Mc_dropBooking 29 = .ok (.iinc 2 (1), 3) := by decide +kernel
theorem d_Mc_dropBooking_32 : decode b_Mc_dropBooking 32 = .ok (.goto (-30), 3) := by decide +kernel
theorem d_Mc_dropBooking_35 : decode b_Mc_dropBooking 35 = .ok (.aload_n 0, 1) := by decide +kernel
theorem d_Mc_dropBooking_36 : decode b_Mc_dropBooking 36 = .ok (.dup, 1) := by decide +kernel
theorem d_Mc_dropBooking_37 : decode b_Mc_dropBooking 37 = .ok (.getfield 65, 3) := by decide +kernel
theorem d_Mc_dropBooking_40 : decode b_Mc_dropBooking 40 = .ok (.iconst 1, 1) := by decide +kernel
theorem d_Mc_dropBooking_41 : decode b_Mc_dropBooking 41 = .ok (.isub, 1) := by decide +kernel
theorem d_Mc_dropBooking_42 : decode b_Mc_dropBooking 42 = .ok (.putfield 65, 3) := by decide +kernel
theorem d_Mc_dropBooking_45 : decode b_Mc_dropBooking 45 = .ok (.return_, 1) := by decide +kernel
theorem d_Mc_jobsThatAre_0 : decode b_Mc_jobsThatAre 0 = .ok (.iconst 0, 1) := by decide +kernel
theorem d_Mc_jobsThatAre_1 : decode b_Mc_jobsThatAre 1 = .ok (.istore_n 2, 1) := by decide +kernel
theorem d_Mc_jobsThatAre_2 : decode b_Mc_jobsThatAre 2 = .ok (.iconst 0, 1) := by decide +kernel
theorem d_Mc_jobsThatAre_3 : decode b_Mc_jobsThatAre 3 = .ok (.istore_n 3, 1) := by decide +kernel
theorem d_Mc_jobsThatAre_4 : decode b_Mc_jobsThatAre 4 = .ok (.iload_n 3, 1) := by decide +kernel
theorem d_Mc_jobsThatAre_5 : decode b_Mc_jobsThatAre 5 = .ok (.aload_n 0, 1) := by decide +kernel
theorem d_Mc_jobsThatAre_6 : decode b_Mc_jobsThatAre 6 = .ok (.getfield 62, 3) := by decide +kernel
theorem d_Mc_jobsThatAre_9 : decode b_Mc_jobsThatAre 9 = .ok (.if_icmp .ge (25), 3) := by decide +kernel
theorem d_Mc_jobsThatAre_12 : decode b_Mc_jobsThatAre 12 = .ok (.aload_n 0, 1) := by decide +kernel
theorem d_Mc_jobsThatAre_13 : decode b_Mc_jobsThatAre 13 = .ok (.getfield 25, 3) := by decide +kernel
theorem d_Mc_jobsThatAre_16 : decode b_Mc_jobsThatAre 16 = .ok (.iload_n 3, 1) := by decide +kernel
theorem d_Mc_jobsThatAre_17 : decode b_Mc_jobsThatAre 17 = .ok (.aaload, 1) := by decide +kernel
theorem d_Mc_jobsThatAre_18 : decode b_Mc_jobsThatAre 18 = .ok (.getfield 99, 3) := by decide +kernel
theorem d_Mc_jobsThatAre_21 : decode b_Mc_jobsThatAre 21 = .ok (.iload_n 1, 1) := by decide +kernel
theorem d_Mc_jobsThatAre_22 : decode b_Mc_jobsThatAre 22 = .ok (.if_icmp .ne (6), 3) := by decide +kernel
theorem d_Mc_jobsThatAre_25 : decode b_Mc_jobsThatAre 25 = .ok (.iinc 2 (1), 3) := by decide +kernel
theorem d_Mc_jobsThatAre_28 : decode b_Mc_jobsThatAre 28 = .ok (.iinc 3 (1), 3) := by decide +kernel
theorem d_Mc_jobsThatAre_31 : decode b_Mc_jobsThatAre 31 = .ok (.goto (-27), 3) := by decide +kernel
theorem d_Mc_jobsThatAre_34 : decode b_Mc_jobsThatAre 34 = .ok (.iload_n 2, 1) := by decide +kernel
theorem d_Mc_jobsThatAre_35 : decode b_Mc_jobsThatAre 35 = .ok (.ireturn, 1) := by decide +kernel
theorem d_Mc_recount_0 : decode b_Mc_recount 0 = .ok (.aload_n 0, 1) := by decide +kernel
theorem d_Mc_recount_1 : decode b_Mc_recount 1 = .ok (.iconst 0, 1) := by decide +kernel
theorem d_Mc_recount_2 : decode b_Mc_recount 2 = .ok (.putfield 71, 3) := by decide +kernel
theorem d_Mc_recount_5 : decode b_Mc_recount 5 = .ok (.iconst 0, 1) := by decide +kernel
theorem d_Mc_recount_6 : decode b_Mc_recount 6 = .ok (.istore_n 1, 1) := by decide +kernel
theorem d_Mc_recount_7 : decode b_Mc_recount 7 = .ok (.iload_n 1, 1) := by decide +kernel
theorem d_Mc_recount_8 : decode b_Mc_recount 8 = .ok (.aload_n 0, 1) := by decide +kernel
theorem d_Mc_recount_9 : decode b_Mc_recount 9 = .ok (.getfield 56, 3) := by decide +kernel
theorem d_Mc_recount_12 : decode b_Mc_recount 12 = .ok (.if_icmp .ge (43), 3) := by decide +kernel
theorem d_Mc_recount_15 : decode b_Mc_recount 15 = .ok (.aload_n 0, 1) := by decide +kernel
theorem d_Mc_recount_16 : decode b_Mc_recount 16 = .ok (.dup, 1) := by decide +kernel
theorem d_Mc_recount_17 : decode b_Mc_recount 17 = .ok (.getfield 71, 3) := by decide +kernel
theorem d_Mc_recount_20 : decode b_Mc_recount 20 = .ok (.aload_n 0, 1) := by decide +kernel
theorem d_Mc_recount_21 : decode b_Mc_recount 21 = .ok (.getfield 11, 3) := by decide +kernel
theorem d_Mc_recount_24 : decode b_Mc_recount 24 = .ok (.iload_n 1, 1) := by decide +kernel
theorem d_Mc_recount_25 : decode b_Mc_recount 25 = .ok (.aaload, 1) := by decide +kernel
theorem d_Mc_recount_26 : decode b_Mc_recount 26 = .ok (.getfield 102, 3) := by decide +kernel
theorem d_Mc_recount_29 : decode b_Mc_recount 29 = .ok (.ifCond .eq (7), 3) := by decide +kernel
theorem d_Mc_recount_32 : decode b_Mc_recount 32 = .ok (.iconst 0, 1) := by decide +kernel
theorem d_Mc_recount_33 : decode b_Mc_recount 33 = .ok (.goto (12), 3) := by decide +kernel
theorem d_Mc_recount_36 : decode b_Mc_recount 36 = .ok (.aload_n 0, 1) := by decide +kernel
theorem d_Mc_recount_37 : decode b_Mc_recount 37 = .ok (.getfield 11, 3) := by decide +kernel
theorem d_Mc_recount_40 : decode b_Mc_recount 40 = .ok (.iload_n 1, 1) := by decide +kernel
theorem d_Mc_recount_41 : decode b_Mc_recount 41 = .ok (.aaload, 1) := by decide +kernel
theorem d_Mc_recount_42 : decode b_Mc_recount 42 = .ok (.getfield 87, 3) := by decide +kernel
theorem d_Mc_recount_45 : decode b_Mc_recount 45 = .ok (.iadd, 1) := by decide +kernel
theorem d_Mc_recount_46 : decode b_Mc_recount 46 = .ok (.putfield 71, 3) := by decide +kernel
theorem d_Mc_recount_49 : decode b_Mc_recount 49 = .ok (.iinc 1 (1), 3) := by decide +kernel
theorem d_Mc_recount_52 : decode b_Mc_recount 52 = .ok (.goto (-45), 3) := by decide +kernel
theorem d_Mc_recount_55 : decode b_Mc_recount 55 = .ok (.iconst 0, 1) := by decide +kernel
theorem d_Mc_recount_56 : decode b_Mc_recount 56 = .ok (.istore_n 1, 1) := by decide +kernel
theorem d_Mc_recount_57 : decode b_Mc_recount 57 = .ok (.iload_n 1, 1) := by decide +kernel
theorem d_Mc_recount_58 : decode b_Mc_recount 58 = .ok (.aload_n 0, 1) := by decide +kernel
theorem d_Mc_recount_59 : decode b_Mc_recount 59 = .ok (.getfield 62, 3) := by decide +kernel
theorem d_Mc_recount_62 : decode b_Mc_recount 62 = .ok (.if_icmp .ge (28), 3) := by decide +kernel
theorem d_Mc_recount_65 : decode b_Mc_recount 65 = .ok (.aload_n 0, 1) := by decide +kernel
theorem d_Mc_recount_66 : decode b_Mc_recount 66 = .ok (.getfield 25, 3) := by decide +kernel
theorem d_Mc_recount_69 : decode b_Mc_recount 69 = .ok (.iload_n 1, 1) := by decide +kernel
theorem d_Mc_recount_70 : decode b_Mc_recount 70 = .ok (.aaload, 1) := by decide +kernel
theorem d_Mc_recount_71 : decode b_Mc_recount 71 = .ok (.aload_n 0, 1) := by decide +kernel
theorem d_Mc_recount_72 : decode b_Mc_recount 72 = .ok (.aload_n 0, 1) := by decide +kernel
theorem d_Mc_recount_73 : decode b_Mc_recount 73 = .ok (.getfield 25, 3) := by decide +kernel
theorem d_Mc_recount_76 : decode b_Mc_recount 76 = .ok (.iload_n 1, 1) := by decide +kernel
theorem d_Mc_recount_77 : decode b_Mc_recount 77 = .ok (.aaload, 1) := by decide +kernel
theorem d_Mc_recount_78 : decode b_Mc_recount 78 = .ok (.invokevirtual 106, 3) := by decide +kernel
theorem d_Mc_recount_81 : decode b_Mc_recount 81 = .ok (.putfield 110, 3) := by decide +kernel
theorem d_Mc_recount_84 : decode b_Mc_recount 84 = .ok (.iinc 1 (1), 3) := by decide +kernel
theorem d_Mc_recount_87 : decode b_Mc_recount 87 = .ok (.goto (-30), 3) := by decide +kernel
theorem d_Mc_recount_90 : decode b_Mc_recount 90 = .ok (.return_, 1) := by decide +kernel
theorem d_Mc_countedOf_0 : decode b_Mc_countedOf 0 = .ok (.iconst 0, 1) := by decide +kernel
theorem d_Mc_countedOf_1 : decode b_Mc_countedOf 1 = .ok (.istore_n 2, 1) := by decide +kernel
theorem d_Mc_countedOf_2 : decode b_Mc_countedOf 2 = .ok (.iconst 0, 1) := by decide +kernel
theorem d_Mc_countedOf_3 : decode b_Mc_countedOf 3 = .ok (.istore_n 3, 1) := by decide +kernel
theorem d_Mc_countedOf_4 : decode b_Mc_countedOf 4 = .ok (.iload_n 3, 1) := by decide +kernel
theorem d_Mc_countedOf_5 : decode b_Mc_countedOf 5 = .ok (.aload_n 0, 1) := by decide +kernel
theorem d_Mc_countedOf_6 : decode b_Mc_countedOf 6 = .ok (.getfield 56, 3) := by decide +kernel
theorem d_Mc_countedOf_9 : decode b_Mc_countedOf 9 = .ok (.if_icmp .ge (34), 3) := by decide +kernel
theorem d_Mc_countedOf_12 : decode b_Mc_countedOf 12 = .ok (.iload_n 2, 1) := by decide +kernel
theorem d_Mc_countedOf_13 : decode b_Mc_countedOf 13 = .ok (.aload_n 0, 1) := by decide +kernel
theorem d_Mc_countedOf_14 : decode b_Mc_countedOf 14 = .ok (.getfield 11, 3) := by decide +kernel
theorem d_Mc_countedOf_17 : decode b_Mc_countedOf 17 = .ok (.iload_n 3, 1) := by decide +kernel
theorem d_Mc_countedOf_18 : decode b_Mc_countedOf 18 = .ok (.aaload, 1) := by decide +kernel
theorem d_Mc_countedOf_19 : decode b_Mc_countedOf 19 = .ok (.getfield 102, 3) := by decide +kernel
theorem d_Mc_countedOf_22 : decode b_Mc_countedOf 22 = .ok (.ifCond .eq (7), 3) := by decide +kernel
theorem d_Mc_countedOf_25 : decode b_Mc_countedOf 25 = .ok (.iconst 0, 1) := by decide +kernel
theorem d_Mc_countedOf_26 : decode b_Mc_countedOf 26 = .ok (.goto (9), 3) := by decide +kernel
theorem d_Mc_countedOf_29 : decode b_Mc_countedOf 29 = .ok (.aload_n 1, 1) := by decide +kernel
theorem d_Mc_countedOf_30 : decode b_Mc_countedOf 30 = .ok (.getfield 113, 3) := by decide +kernel
theorem d_Mc_countedOf_33 : decode b_Mc_countedOf 33 = .ok (.iload_n 3, 1) := by decide +kernel
theorem d_Mc_countedOf_34 : decode b_Mc_countedOf 34 = .ok (.iaload, 1) := by decide +kernel
theorem d_Mc_countedOf_35 : decode b_Mc_countedOf 35 = .ok (.iadd, 1) := by decide +kernel
theorem d_Mc_countedOf_36 : decode b_Mc_countedOf 36 = .ok (.istore_n 2, 1) := by decide +kernel
theorem d_Mc_countedOf_37 : decode b_Mc_countedOf 37 = .ok (.iinc 3 (1), 3) := by decide +kernel
theorem d_Mc_countedOf_40 : decode b_Mc_countedOf 40 = .ok (.goto (-36), 3) := by decide +kernel
theorem d_Mc_countedOf_43 : decode b_Mc_countedOf 43 = .ok (.iload_n 2, 1) := by decide +kernel
theorem d_Mc_countedOf_44 : decode b_Mc_countedOf 44 = .ok (.ireturn, 1) := by decide +kernel
theorem d_Mc_breakRack_0 : decode b_Mc_breakRack 0 = .ok (.iconst 0, 1) := by decide +kernel
theorem d_Mc_breakRack_1 : decode b_Mc_breakRack 1 = .ok (.istore_n 2, 1) := by decide +kernel
theorem d_Mc_breakRack_2 : decode b_Mc_breakRack 2 = .ok (.iconst 0, 1) := by decide +kernel
theorem d_Mc_breakRack_3 : decode b_Mc_breakRack 3 = .ok (.istore_n 3, 1) := by decide +kernel
theorem d_Mc_breakRack_4 : decode b_Mc_breakRack 4 = .ok (.iload_n 3, 1) := by decide +kernel
theorem d_Mc_breakRack_5 : decode b_Mc_breakRack 5 = .ok (.aload_n 0, 1) := by decide +kernel
theorem d_Mc_breakRack_6 : decode b_Mc_breakRack 6 = .ok (.getfield 62, 3) := by decide +kernel
theorem d_Mc_breakRack_9 : decode b_Mc_breakRack 9 = .ok (.if_icmp .ge (51), 3) := by decide +kernel
theorem d_Mc_breakRack_12 : decode b_Mc_breakRack 12 = .ok (.aload_n 0, 1) := by decide +kernel
theorem d_Mc_breakRack_13 : decode b_Mc_breakRack 13 = .ok (.getfield 25, 3) := by decide +kernel
theorem d_Mc_breakRack_16 : decode b_Mc_breakRack 16 = .ok (.iload_n 3, 1) := by decide +kernel
theorem d_Mc_breakRack_17 : decode b_Mc_breakRack 17 = .ok (.aaload, 1) := by decide +kernel
theorem d_Mc_breakRack_18 : decode b_Mc_breakRack 18 = .ok (.astore 4, 2) := by decide +kernel
theorem d_Mc_breakRack_20 : decode b_Mc_breakRack 20 = .ok (.aload 4, 2) := by decide +kernel
theorem d_Mc_breakRack_22 : decode b_Mc_breakRack 22 = .ok (.getfield 113, 3) := by decide +kernel
theorem d_Mc_breakRack_25 : decode b_Mc_breakRack 25 = .ok (.iload_n 1, 1) := by decide +kernel
theorem d_Mc_breakRack_26 : decode b_Mc_breakRack 26 = .ok (.iaload, 1) := by decide +kernel
theorem d_Mc_breakRack_27 : decode b_Mc_breakRack 27 = .ok (.ifCond .le (27), 3) := by decide +kernel
theorem d_Mc_breakRack_30 : decode b_Mc_breakRack 30 = .ok (.aload 4, 2) := by decide +kernel
theorem d_Mc_breakRack_32 : decode b_Mc_breakRack 32 = .ok (.aload_n 0, 1) := by decide +kernel
theorem d_Mc_breakRack_33 : decode b_Mc_breakRack 33 = .ok (.getfield 68, 3) := by decide +kernel
theorem d_Mc_breakRack_36 : decode b_Mc_breakRack 36 = .ok (.invokevirtual 116, 3) := by decide +kernel
theorem d_Mc_breakRack_39 : decode b_Mc_breakRack 39 = .ok (.aload_n 0, 1) := by decide +kernel
theorem d_Mc_breakRack_40 : decode b_Mc_breakRack 40 = .ok (.aload 4, 2) := by decide +kernel
theorem d_Mc_breakRack_42 : decode b_Mc_breakRack 42 = .ok (.invokevirtual 120, 3) := by decide +kernel
theorem d_Mc_breakRack_45 : decode b_Mc_breakRack 45 = .ok (.aload 4, 2) := by decide +kernel
theorem d_Mc_breakRack_47 : decode b_Mc_breakRack 47 = .ok (.iconst 0, 1) := by decide +kernel
theorem d_Mc_breakRack_48 : decode b_Mc_breakRack 48 = .ok (.putfield 99, 3) := by decide +kernel
theorem d_Mc_breakRack_51 : decode b_Mc_breakRack 51 = .ok (.iinc 2 (1), 3) := by decide +kernel
theorem d_Mc_breakRack_54 : decode b_Mc_breakRack 54 = .ok (.iinc 3 (1), 3) := by decide +kernel
theorem d_Mc_breakRack_57 : decode b_Mc_breakRack 57 = .ok (.goto (-53), 3) := by decide +kernel
theorem d_Mc_breakRack_60 : decode b_Mc_breakRack 60 = .ok (.iload_n 2, 1) := by decide +kernel
theorem d_Mc_breakRack_61 : decode b_Mc_breakRack 61 = .ok (.ireturn, 1) := by decide +kernel
theorem d_Mc_leaveNodes_0 : decode b_Mc_leaveNodes 0 = .ok (.iconst 0, 1) := by decide +kernel
theorem d_Mc_leaveNodes_1 : decode b_Mc_leaveNodes 1 = .ok (.istore_n 2, 1) := by decide +kernel
theorem d_Mc_leaveNodes_2 : decode b_Mc_leaveNodes 2 = .ok (.iload_n 2, 1) := by decide +kernel
theorem d_Mc_leaveNodes_3 : decode b_Mc_leaveNodes 3 = .ok (.aload_n 0, 1) := by decide +kernel
theorem d_Mc_leaveNodes_4 : decode b_Mc_leaveNodes 4 = .ok (.getfield 56, 3) := by decide +kernel
theorem d_Mc_leaveNodes_7 : decode b_Mc_leaveNodes 7 = .ok (.if_icmp .ge (36), 3) := by decide +kernel
theorem d_Mc_leaveNodes_10 : decode b_Mc_leaveNodes 10 = .ok (.aload_n 0, 1) := by decide +kernel
theorem d_Mc_leaveNodes_11 : decode b_Mc_leaveNodes 11 = .ok (.getfield 11, 3) := by decide +kernel
theorem d_Mc_leaveNodes_14 : decode b_Mc_leaveNodes 14 = .ok (.iload_n 2, 1) := by decide +kernel
theorem d_Mc_leaveNodes_15 : decode b_Mc_leaveNodes 15 = .ok (.aaload, 1) := by decide +kernel
theorem d_Mc_leaveNodes_16 : decode b_Mc_leaveNodes 16 = .ok (.dup, 1) := by decide +kernel
theorem d_Mc_leaveNodes_17 : decode b_Mc_leaveNodes 17 = .ok (.getfield 90, 3) := by decide +kernel
theorem d_Mc_leaveNodes_20 : decode b_Mc_leaveNodes 20 = .ok (.aload_n 1, 1) := by decide +kernel
theorem d_Mc_leaveNodes_21 : decode b_Mc_leaveNodes 21 = .ok (.getfield 113, 3) := by decide +kernel
theorem d_Mc_leaveNodes_24 : decode b_Mc_leaveNodes 24 = .ok (.iload_n 2, 1) := by decide +kernel
theorem d_Mc_leaveNodes_25 : decode b_Mc_leaveNodes 25 = .ok (.iaload, 1) := by decide +kernel
theorem d_Mc_leaveNodes_26 : decode b_Mc_leaveNodes 26 = .ok (.iadd, 1) := by decide +kernel
theorem d_Mc_leaveNodes_27 : decode b_Mc_leaveNodes 27 = .ok (.putfield 90, 3) := by decide +kernel
theorem d_Mc_leaveNodes_30 : decode b_Mc_leaveNodes 30 = .ok (.aload_n 1, 1) := by decide +kernel
theorem d_Mc_leaveNodes_31 : decode b_Mc_leaveNodes 31 = .ok (.getfield 113, 3) := by decide +kernel
theorem d_Mc_leaveNodes_34 : decode b_Mc_leaveNodes 34 = .ok (.iload_n 2, 1) := by decide +kernel
theorem d_Mc_leaveNodes_35 : decode b_Mc_leaveNodes 35 = .ok (.iconst 0, 1) := by decide +kernel
theorem d_Mc_leaveNodes_36 : decode b_Mc_leaveNodes 36 = .ok (.iastore, 1) := by decide +kernel
theorem d_Mc_leaveNodes_37 : decode b_Mc_leaveNodes 37 = .ok (.iinc 2 (1), 3) := by decide +kernel
theorem d_Mc_leaveNodes_40 : decode b_Mc_leaveNodes 40 = .ok (.goto (-38), 3) := by decide +kernel
theorem d_Mc_leaveNodes_43 : decode b_Mc_leaveNodes 43 = .ok (.aload_n 1, 1) := by decide +kernel
theorem d_Mc_leaveNodes_44 : decode b_Mc_leaveNodes 44 = .ok (.iconst 0, 1) := by decide +kernel
theorem d_Mc_leaveNodes_45 : decode b_Mc_leaveNodes 45 = .ok (.putfield 110, 3) := by decide +kernel
theorem d_Mc_leaveNodes_48 : decode b_Mc_leaveNodes 48 = .ok (.aload_n 1, 1) := by decide +kernel
theorem d_Mc_leaveNodes_49 : decode b_Mc_leaveNodes 49 = .ok (.iconst 0, 1) := by decide +kernel
theorem d_Mc_leaveNodes_50 : decode b_Mc_leaveNodes 50 = .ok (.putfield 123, 3) := by decide +kernel
theorem d_Mc_leaveNodes_53 : decode b_Mc_leaveNodes 53 = .ok (.return_, 1) := by decide +kernel
theorem d_Mc_nodesTaken_0 : decode b_Mc_nodesTaken 0 = .ok (.iconst 0, 1) := by decide +kernel
theorem d_Mc_nodesTaken_1 : decode b_Mc_nodesTaken 1 = .ok (.istore_n 2, 1) := by decide +kernel
theorem d_Mc_nodesTaken_2 : decode b_Mc_nodesTaken 2 = .ok (.iconst 0, 1) := by decide +kernel
theorem d_Mc_nodesTaken_3 : decode b_Mc_nodesTaken 3 = .ok (.istore_n 3, 1) := by decide +kernel
theorem d_Mc_nodesTaken_4 : decode b_Mc_nodesTaken 4 = .ok (.iload_n 3, 1) := by decide +kernel
theorem d_Mc_nodesTaken_5 : decode b_Mc_nodesTaken 5 = .ok (.aload_n 0, 1) := by decide +kernel
theorem d_Mc_nodesTaken_6 : decode b_Mc_nodesTaken 6 = .ok (.getfield 62, 3) := by decide +kernel
theorem d_Mc_nodesTaken_9 : decode b_Mc_nodesTaken 9 = .ok (.if_icmp .ge (34), 3) := by decide +kernel
theorem d_Mc_nodesTaken_12 : decode b_Mc_nodesTaken 12 = .ok (.iload_n 1, 1) := by decide +kernel
theorem d_Mc_nodesTaken_13 : decode b_Mc_nodesTaken 13 = .ok (.aload_n 0, 1) := by decide +kernel
theorem d_Mc_nodesTaken_14 : decode b_Mc_nodesTaken 14 = .ok (.getfield 25, 3) := by decide +kernel
theorem d_Mc_nodesTaken_17 : decode b_Mc_nodesTaken 17 = .ok (.iload_n 3, 1) := by decide +kernel
theorem d_Mc_nodesTaken_18 : decode b_Mc_nodesTaken 18 = .ok (.aaload, 1) := by decide +kernel
theorem d_Mc_nodesTaken_19 : decode b_Mc_nodesTaken 19 = .ok (.getfield 123, 3) := by decide +kernel
theorem d_Mc_nodesTaken_22 : decode b_Mc_nodesTaken 22 = .ok (.if_icmp .ge (15), 3) := by decide +kernel
theorem d_Mc_nodesTaken_25 : decode b_Mc_nodesTaken 25 = .ok (.iload_n 2, 1) := by decide +kernel
theorem d_Mc_nodesTaken_26 : decode b_Mc_nodesTaken 26 = .ok (.aload_n 0, 1) := by decide +kernel
theorem d_Mc_nodesTaken_27 : decode b_Mc_nodesTaken 27 = .ok (.getfield 25, 3) := by decide +kernel
theorem d_Mc_nodesTaken_30 : decode b_Mc_nodesTaken 30 = .ok (.iload_n 3, 1) := by decide +kernel
theorem d_Mc_nodesTaken_31 : decode b_Mc_nodesTaken 31 = .ok (.aaload, 1) := by decide +kernel
theorem d_Mc_nodesTaken_32 : decode b_Mc_nodesTaken 32 = .ok (.getfield 110, 3) := by decide +kernel
theorem d_Mc_nodesTaken_35 : decode b_Mc_nodesTaken 35 = .ok (.iadd, 1) := by decide +kernel
theorem d_Mc_nodesTaken_36 : decode b_Mc_nodesTaken 36 = .ok (.istore_n 2, 1) := by decide +kernel
theorem d_Mc_nodesTaken_37 : decode b_Mc_nodesTaken 37 = .ok (.iinc 3 (1), 3) := by decide +kernel
theorem d_Mc_nodesTaken_40 : decode b_Mc_nodesTaken 40 = .ok (.goto (-36), 3) := by decide +kernel
theorem d_Mc_nodesTaken_43 : decode b_Mc_nodesTaken 43 = .ok (.iconst 0, 1) := by decide +kernel
theorem d_Mc_nodesTaken_44 : decode b_Mc_nodesTaken 44 = .ok (.istore_n 3, 1) := by decide +kernel
theorem d_Mc_nodesTaken_45 : decode b_Mc_nodesTaken 45 = .ok (.iload_n 3, 1) := by decide +kernel
theorem d_Mc_nodesTaken_46 : decode b_Mc_nodesTaken 46 = .ok (.aload_n 0, 1) := by decide +kernel
theorem d_Mc_nodesTaken_47 : decode b_Mc_nodesTaken 47 = .ok (.getfield 65, 3) := by decide +kernel
theorem d_Mc_nodesTaken_50 : decode b_Mc_nodesTaken 50 = .ok (.if_icmp .ge (47), 3) := by decide +kernel
theorem d_Mc_nodesTaken_53 : decode b_Mc_nodesTaken 53 = .ok (.iload_n 1, 1) := by decide +kernel
theorem d_Mc_nodesTaken_54 : decode b_Mc_nodesTaken 54 = .ok (.aload_n 0, 1) := by decide +kernel
theorem d_Mc_nodesTaken_55 : decode b_Mc_nodesTaken 55 = .ok (.getfield 31, 3) := by decide +kernel
theorem d_Mc_nodesTaken_58 : decode b_Mc_nodesTaken 58 = .ok (.iload_n 3, 1) := by decide +kernel
theorem d_Mc_nodesTaken_59 : decode b_Mc_nodesTaken 59 = .ok (.aaload, 1) := by decide +kernel
theorem d_Mc_nodesTaken_60 : decode b_Mc_nodesTaken 60 = .ok (.getfield 126, 3) := by decide +kernel
theorem d_Mc_nodesTaken_63 : decode b_Mc_nodesTaken 63 = .ok (.if_icmp .lt (28), 3) := by decide +kernel
theorem d_Mc_nodesTaken_66 : decode b_Mc_nodesTaken 66 = .ok (.iload_n 1, 1) := by decide +kernel
theorem d_Mc_nodesTaken_67 : decode b_Mc_nodesTaken 67 = .ok (.aload_n 0, 1) := by decide +kernel
theorem d_Mc_nodesTaken_68 : decode b_Mc_nodesTaken 68 = .ok (.getfield 31, 3) := by decide +kernel
theorem d_Mc_nodesTaken_71 : decode b_Mc_nodesTaken 71 = .ok (.iload_n 3, 1) := by decide +kernel
theorem d_Mc_nodesTaken_72 : decode b_Mc_nodesTaken 72 = .ok (.aaload, 1) := by decide +kernel
theorem d_Mc_nodesTaken_73 : decode b_Mc_nodesTaken 73 = .ok (.getfield 129, 3) := by decide +kernel
theorem d_Mc_nodesTaken_76 : decode b_Mc_nodesTaken 76 = .ok (.if_icmp .ge (15), 3) := by decide +kernel
theorem d_Mc_nodesTaken_79 : decode b_Mc_nodesTaken 79 = .ok (.iload_n 2, 1) := by decide +kernel
theorem d_Mc_nodesTaken_80 : decode b_Mc_nodesTaken 80 = .ok (.aload_n 0, 1) := by decide +kernel
theorem d_Mc_nodesTaken_81 : decode b_Mc_nodesTaken 81 = .ok (.getfield 31, 3) := by decide +kernel
theorem d_Mc_nodesTaken_84 : decode b_Mc_nodesTaken 84 = .ok (.iload_n 3, 1) := by decide +kernel
theorem d_Mc_nodesTaken_85 : decode b_Mc_nodesTaken 85 = .ok (.aaload, 1) := by decide +kernel
theorem d_Mc_nodesTaken_86 : decode b_Mc_nodesTaken 86 = .ok (.getfield 132, 3) := by decide +kernel
theorem d_Mc_nodesTaken_89 : decode b_Mc_nodesTaken 89 = .ok (.iadd, 1) := by decide +kernel
theorem d_Mc_nodesTaken_90 : decode b_Mc_nodesTaken 90 = .ok (.istore_n 2, 1) := by decide +kernel
theorem d_Mc_nodesTaken_91 : decode b_Mc_nodesTaken 91 = .ok (.iinc 3 (1), 3) := by decide +kernel
theorem d_Mc_nodesTaken_94 : decode b_Mc_nodesTaken 94 = .ok (.goto (-49), 3) := by decide +kernel
theorem d_Mc_nodesTaken_97 : decode b_Mc_nodesTaken 97 = .ok (.iload_n 2, 1) := by decide +kernel
theorem d_Mc_nodesTaken_98 : decode b_Mc_nodesTaken 98 = .ok (.ireturn, 1) := by decide +kernel
theorem d_Mc_licencesTaken_0 : decode b_Mc_licencesTaken 0 = .ok (.iconst 0, 1) := by decide +kernel
theorem d_Mc_licencesTaken_1 : decode b_Mc_licencesTaken 1 = .ok (.istore_n 2, 1) := by decide +kernel
theorem d_Mc_licencesTaken_2 : decode b_Mc_licencesTaken 2 = .ok (.iconst 0, 1) := by decide +kernel
theorem d_Mc_licencesTaken_3 : decode b_Mc_licencesTaken 3 = .ok (.istore_n 3, 1) := by decide +kernel
theorem d_Mc_licencesTaken_4 : decode b_Mc_licencesTaken 4 = .ok (.iload_n 3, 1) := by decide +kernel
theorem d_Mc_licencesTaken_5 : decode b_Mc_licencesTaken 5 = .ok (.aload_n 0, 1) := by decide +kernel
theorem d_Mc_licencesTaken_6 : decode b_Mc_licencesTaken 6 = .ok (.getfield 62, 3) := by decide +kernel
theorem d_Mc_licencesTaken_9 : decode b_Mc_licencesTaken 9 = .ok (.if_icmp .ge (34), 3) := by decide +kernel
theorem d_Mc_licencesTaken_12 : decode b_Mc_licencesTaken 12 = .ok (.iload_n 1, 1) := by decide +kernel
theorem d_Mc_licencesTaken_13 : decode b_Mc_licencesTaken 13 = .ok (.aload_n 0, 1) := by decide +kernel
theorem d_Mc_licencesTaken_14 : decode b_Mc_licencesTaken 14 = .ok (.getfield 25, 3) := by decide +kernel
theorem d_Mc_licencesTaken_17 : decode b_Mc_licencesTaken 17 = .ok (.iload_n 3, 1) := by decide +kernel
theorem d_Mc_licencesTaken_18 : decode b_Mc_licencesTaken 18 = .ok (.aaload, 1) := by decide +kernel
theorem d_Mc_licencesTaken_19 : decode b_Mc_licencesTaken 19 = .ok (.getfield 123, 3) := by decide +kernel
theorem d_Mc_licencesTaken_22 : decode b_Mc_licencesTaken 22 = .ok (.if_icmp .ge (15), 3) := by decide +kernel
theorem d_Mc_licencesTaken_25 : decode b_Mc_licencesTaken 25 = .ok (.iload_n 2, 1) := by decide +kernel
theorem d_Mc_licencesTaken_26 : decode b_Mc_licencesTaken 26 = .ok (.aload_n 0, 1) := by decide +kernel
theorem d_Mc_licencesTaken_27 : decode b_Mc_licencesTaken 27 = .ok (.getfield 25, 3) := by decide +kernel
theorem d_Mc_licencesTaken_30 : decode b_Mc_licencesTaken 30 = .ok (.iload_n 3, 1) := by decide +kernel
theorem d_Mc_licencesTaken_31 : decode b_Mc_licencesTaken 31 = .ok (.aaload, 1) := by decide +kernel
theorem d_Mc_licencesTaken_32 : decode b_Mc_licencesTaken 32 = .ok (.getfield 133, 3) := by decide +kernel
theorem d_Mc_licencesTaken_35 : decode b_Mc_licencesTaken 35 = .ok (.iadd, 1) := by decide +kernel
theorem d_Mc_licencesTaken_36 : decode b_Mc_licencesTaken 36 = .ok (.istore_n 2, 1) := by decide +kernel
theorem d_Mc_licencesTaken_37 : decode b_Mc_licencesTaken 37 = .ok (.iinc 3 (1), 3) := by decide +kernel
theorem d_Mc_licencesTaken_40 : decode b_Mc_licencesTaken 40 = .ok (.goto (-36), 3) := by decide +kernel
theorem d_Mc_licencesTaken_43 : decode b_Mc_licencesTaken 43 = .ok (.iconst 0, 1) := by decide +kernel
theorem d_Mc_licencesTaken_44 : decode b_Mc_licencesTaken 44 = .ok (.istore_n 3, 1) := by decide +kernel
theorem d_Mc_licencesTaken_45 : decode b_Mc_licencesTaken 45 = .ok (.iload_n 3, 1) := by decide +kernel
theorem d_Mc_licencesTaken_46 : decode b_Mc_licencesTaken 46 = .ok (.aload_n 0, 1) := by decide +kernel
theorem d_Mc_licencesTaken_47 : decode b_Mc_licencesTaken 47 = .ok (.getfield 65, 3) := by decide +kernel
theorem d_Mc_licencesTaken_50 : decode b_Mc_licencesTaken 50 = .ok (.if_icmp .ge (47), 3) := by decide +kernel
theorem d_Mc_licencesTaken_53 : decode b_Mc_licencesTaken 53 = .ok (.iload_n 1, 1) := by decide +kernel
theorem d_Mc_licencesTaken_54 : decode b_Mc_licencesTaken 54 = .ok (.aload_n 0, 1) := by decide +kernel
theorem d_Mc_licencesTaken_55 : decode b_Mc_licencesTaken 55 = .ok (.getfield 31, 3) := by decide +kernel
theorem d_Mc_licencesTaken_58 : decode b_Mc_licencesTaken 58 = .ok (.iload_n 3, 1) := by decide +kernel
theorem d_Mc_licencesTaken_59 : decode b_Mc_licencesTaken 59 = .ok (.aaload, 1) := by decide +kernel
theorem d_Mc_licencesTaken_60 : decode b_Mc_licencesTaken 60 = .ok (.getfield 126, 3) := by decide +kernel
theorem d_Mc_licencesTaken_63 : decode b_Mc_licencesTaken 63 = .ok (.if_icmp .lt (28), 3) := by decide +kernel
theorem d_Mc_licencesTaken_66 : decode b_Mc_licencesTaken 66 = .ok (.iload_n 1, 1) := by decide +kernel
theorem d_Mc_licencesTaken_67 : decode b_Mc_licencesTaken 67 = .ok (.aload_n 0, 1) := by decide +kernel
theorem d_Mc_licencesTaken_68 : decode b_Mc_licencesTaken 68 = .ok (.getfield 31, 3) := by decide +kernel
theorem d_Mc_licencesTaken_71 : decode b_Mc_licencesTaken 71 = .ok (.iload_n 3, 1) := by decide +kernel
theorem d_Mc_licencesTaken_72 : decode b_Mc_licencesTaken 72 = .ok (.aaload, 1) := by decide +kernel
theorem d_Mc_licencesTaken_73 : decode b_Mc_licencesTaken 73 = .ok (.getfield 129, 3) := by decide +kernel
theorem d_Mc_licencesTaken_76 : decode b_Mc_licencesTaken 76 = .ok (.if_icmp .ge (15), 3) := by decide +kernel
theorem d_Mc_licencesTaken_79 : decode b_Mc_licencesTaken 79 = .ok (.iload_n 2, 1) := by decide +kernel
theorem d_Mc_licencesTaken_80 : decode b_Mc_licencesTaken 80 = .ok (.aload_n 0, 1) := by decide +kernel
theorem d_Mc_licencesTaken_81 : decode b_Mc_licencesTaken 81 = .ok (.getfield 31, 3) := by decide +kernel
theorem d_Mc_licencesTaken_84 : decode b_Mc_licencesTaken 84 = .ok (.iload_n 3, 1) := by decide +kernel
theorem d_Mc_licencesTaken_85 : decode b_Mc_licencesTaken 85 = .ok (.aaload, 1) := by decide +kernel
theorem d_Mc_licencesTaken_86 : decode b_Mc_licencesTaken 86 = .ok (.getfield 136, 3) := by decide +kernel
theorem d_Mc_licencesTaken_89 : decode b_Mc_licencesTaken 89 = .ok (.iadd, 1) := by decide +kernel
theorem d_Mc_licencesTaken_90 : decode b_Mc_licencesTaken 90 = .ok (.istore_n 2, 1) := by decide +kernel
theorem d_Mc_licencesTaken_91 : decode b_Mc_licencesTaken 91 = .ok (.iinc 3 (1), 3) := by decide +kernel
theorem d_Mc_licencesTaken_94 : decode b_Mc_licencesTaken 94 = .ok (.goto (-49), 3) := by decide +kernel
theorem d_Mc_licencesTaken_97 : decode b_Mc_licencesTaken 97 = .ok (.iload_n 2, 1) := by decide +kernel
theorem d_Mc_licencesTaken_98 : decode b_Mc_licencesTaken 98 = .ok (.ireturn, 1) := by decide +kernel
theorem d_Mc_nodesFit_0 : decode b_Mc_nodesFit 0 = .ok (.iload_n 1, 1) := by decide +kernel
theorem d_Mc_nodesFit_1 : decode b_Mc_nodesFit 1 = .ok (.aload_n 0, 1) := by decide +kernel
theorem d_Mc_nodesFit_2 : decode b_Mc_nodesFit 2 = .ok (.iload_n 2, 1) := by decide +kernel
theorem d_Mc_nodesFit_3 : decode b_Mc_nodesFit 3 = .ok (.invokevirtual 137, 3) := by decide +kernel
theorem d_Mc_nodesFit_6 : decode b_Mc_nodesFit 6 = .ok (.iadd, 1) := by decide +kernel
theorem d_Mc_nodesFit_7 : decode b_Mc_nodesFit 7 = .ok (.aload_n 0, 1) := by decide +kernel
theorem d_Mc_nodesFit_8 : decode b_Mc_nodesFit 8 = .ok (.getfield 71, 3) := by decide +kernel
theorem d_Mc_nodesFit_11 : decode b_Mc_nodesFit 11 = .ok (.if_icmp .gt (7), 3) := by decide +kernel
theorem d_Mc_nodesFit_14 : decode b_Mc_nodesFit 14 = .ok (.iconst 1, 1) := by decide +kernel
theorem d_Mc_nodesFit_15 : decode b_Mc_nodesFit 15 = .ok (.goto (4), 3) := by decide +kernel
theorem d_Mc_nodesFit_18 : decode b_Mc_nodesFit 18 = .ok (.iconst 0, 1) := by decide +kernel
theorem d_Mc_nodesFit_19 : decode b_Mc_nodesFit 19 = .ok (.istore 4, 2) := by decide +kernel
theorem d_Mc_nodesFit_21 : decode b_Mc_nodesFit 21 = .ok (.iconst 0, 1) := by decide +kernel
theorem d_Mc_nodesFit_22 : decode b_Mc_nodesFit 22 = .ok (.istore 5, 2) := by decide +kernel
theorem d_Mc_nodesFit_24 : decode b_Mc_nodesFit 24 = .ok (.iload 5, 2) := by decide +kernel
theorem d_Mc_nodesFit_26 : decode b_Mc_nodesFit 26 = .ok (.aload_n 0, 1) := by decide +kernel
theorem d_Mc_nodesFit_27 : decode b_Mc_nodesFit 27 = .ok (.getfield 65, 3) := by decide +kernel
theorem d_Mc_nodesFit_30 : decode b_Mc_nodesFit 30 = .ok (.if_icmp .ge (59), 3) := by decide +kernel
theorem d_Mc_nodesFit_33 : decode b_Mc_nodesFit 33 = .ok (.iload 4, 2) := by decide +kernel
theorem d_Mc_nodesFit_35 : decode b_Mc_nodesFit 35 = .ok (.ifCond .eq (54), 3) := by decide +kernel
theorem d_Mc_nodesFit_38 : decode b_Mc_nodesFit 38 = .ok (.aload_n 0, 1) := by decide +kernel
theorem d_Mc_nodesFit_39 : decode b_Mc_nodesFit 39 = .ok (.getfield 31, 3) := by decide +kernel
theorem d_Mc_nodesFit_42 : decode b_Mc_nodesFit 42 = .ok (.iload 5, 2) := by decide +kernel
theorem d_Mc_nodesFit_44 : decode b_Mc_nodesFit 44 = .ok (.aaload, 1) := by decide +kernel
theorem d_Mc_nodesFit_45 : decode b_Mc_nodesFit 45 = .ok (.iload_n 2, 1) := by decide +kernel
theorem d_Mc_nodesFit_46 : decode b_Mc_nodesFit 46 = .ok (.iload_n 3, 1) := by decide +kernel
theorem d_Mc_nodesFit_47 : decode b_Mc_nodesFit 47 = .ok (.invokevirtual 141, 3) := by decide +kernel
theorem d_Mc_nodesFit_50 : decode b_Mc_nodesFit 50 = .ok (.ifCond .eq (33), 3) := by decide +kernel
theorem d_Mc_nodesFit_53 : decode b_Mc_nodesFit 53 = .ok (.iload_n 1, 1) := by decide +kernel
theorem d_Mc_nodesFit_54 : decode b_Mc_nodesFit 54 = .ok (.aload_n 0, 1) := by decide +kernel
theorem d_Mc_nodesFit_55 : decode b_Mc_nodesFit 55 = .ok (.aload_n 0, 1) := by decide +kernel
theorem d_Mc_nodesFit_56 : decode b_Mc_nodesFit 56 = .ok (.getfield 31, 3) := by decide +kernel
theorem d_Mc_nodesFit_59 : decode b_Mc_nodesFit 59 = .ok (.iload 5, 2) := by decide +kernel
theorem d_Mc_nodesFit_61 : decode b_Mc_nodesFit 61 = .ok (.aaload, 1) := by decide +kernel
theorem d_Mc_nodesFit_62 : decode b_Mc_nodesFit 62 = .ok (.getfield 126, 3) := by decide +kernel
theorem d_Mc_nodesFit_65 : decode b_Mc_nodesFit 65 = .ok (.invokevirtual 137, 3) := by decide +kernel
theorem d_Mc_nodesFit_68 : decode b_Mc_nodesFit 68 = .ok (.iadd, 1) := by decide +kernel
theorem d_Mc_nodesFit_69 : decode b_Mc_nodesFit 69 = .ok (.aload_n 0, 1) := by decide +kernel
theorem d_Mc_nodesFit_70 : decode b_Mc_nodesFit 70 = .ok (.getfield 71, 3) := by decide +kernel
theorem d_Mc_nodesFit_73 : decode b_Mc_nodesFit 73 = .ok (.if_icmp .gt (7), 3) := by decide +kernel
theorem d_Mc_nodesFit_76 : decode b_Mc_nodesFit 76 = .ok (.iconst 1, 1) := by decide +kernel
theorem d_Mc_nodesFit_77 : decode b_Mc_nodesFit 77 = .ok (.goto (4), 3) := by decide +kernel
theorem d_Mc_nodesFit_80 : decode b_Mc_nodesFit 80 = .ok (.iconst 0, 1) := by decide +kernel
theorem d_Mc_nodesFit_81 : decode b_Mc_nodesFit 81 = .ok (.istore 4, 2) := by decide +kernel
theorem d_Mc_nodesFit_83 : decode b_Mc_nodesFit 83 = .ok (.iinc 5 (1), 3) := by decide +kernel
theorem d_Mc_nodesFit_86 : decode b_Mc_nodesFit 86 = .ok (.goto (-62), 3) := by decide +kernel
theorem d_Mc_nodesFit_89 : decode b_Mc_nodesFit 89 = .ok (.iload 4, 2) := by decide +kernel
theorem d_Mc_nodesFit_91 : decode b_Mc_nodesFit 91 = .ok (.ireturn, 1) := by decide +kernel
theorem d_Mc_licencesFit_0 : decode b_Mc_licencesFit 0 = .ok (.iload_n 1, 1) := by decide +kernel
theorem d_Mc_licencesFit_1 : decode b_Mc_licencesFit 1 = .ok (.aload_n 0, 1) := by decide +kernel
theorem d_Mc_licencesFit_2 : decode b_Mc_licencesFit 2 = .ok (.iload_n 2, 1) := by decide +kernel
theorem d_Mc_licencesFit_3 : decode b_Mc_licencesFit 3 = .ok (.invokevirtual 145, 3) := by decide +kernel
theorem d_Mc_licencesFit_6 : decode b_Mc_licencesFit 6 = .ok (.iadd, 1) := by decide +kernel
theorem d_Mc_licencesFit_7 : decode b_Mc_licencesFit 7 = .ok (.aload_n 0, 1) := by decide +kernel
theorem d_Mc_licencesFit_8 : decode b_Mc_licencesFit 8 = .ok (.getfield 39, 3) := by decide +kernel
theorem d_Mc_licencesFit_11 : decode b_Mc_licencesFit 11 = .ok (.if_icmp .gt (7), 3) := by decide +kernel
theorem d_Mc_licencesFit_14 : decode b_Mc_licencesFit 14 = .ok (.iconst 1, 1) := by decide +kernel
theorem d_Mc_licencesFit_15 : decode b_Mc_licencesFit 15 = .ok (.goto (4), 3) := by decide +kernel
theorem d_Mc_licencesFit_18 : decode b_Mc_licencesFit 18 = .ok (.iconst 0, 1) := by decide +kernel
theorem d_Mc_licencesFit_19 : decode b_Mc_licencesFit 19 = .ok (.istore 4, 2) := by decide +kernel
theorem d_Mc_licencesFit_21 : decode b_Mc_licencesFit 21 = .ok (.iconst 0, 1) := by decide +kernel
theorem d_Mc_licencesFit_22 : decode b_Mc_licencesFit 22 = .ok (.istore 5, 2) := by decide +kernel
theorem d_Mc_licencesFit_24 : decode b_Mc_licencesFit 24 = .ok (.iload 5, 2) := by decide +kernel
theorem d_Mc_licencesFit_26 : decode b_Mc_licencesFit 26 = .ok (.aload_n 0, 1) := by decide +kernel
theorem d_Mc_licencesFit_27 : decode b_Mc_licencesFit 27 = .ok (.getfield 65, 3) := by decide +kernel
theorem d_Mc_licencesFit_30 : decode b_Mc_licencesFit 30 = .ok (.if_icmp .ge (59), 3) := by decide +kernel
theorem d_Mc_licencesFit_33 : decode b_Mc_licencesFit 33 = .ok (.iload 4, 2) := by decide +kernel
theorem d_Mc_licencesFit_35 : decode b_Mc_licencesFit 35 = .ok (.ifCond .eq (54), 3) := by decide +kernel
theorem d_Mc_licencesFit_38 : decode b_Mc_licencesFit 38 = .ok (.aload_n 0, 1) := by decide +kernel
theorem d_Mc_licencesFit_39 : decode b_Mc_licencesFit 39 = .ok (.getfield 31, 3) := by decide +kernel
theorem d_Mc_licencesFit_42 : decode b_Mc_licencesFit 42 = .ok (.iload 5, 2) := by decide +kernel
theorem d_Mc_licencesFit_44 : decode b_Mc_licencesFit 44 = .ok (.aaload, 1) := by decide +kernel
theorem d_Mc_licencesFit_45 : decode b_Mc_licencesFit 45 = .ok (.iload_n 2, 1) := by decide +kernel
theorem d_Mc_licencesFit_46 : decode b_Mc_licencesFit 46 = .ok (.iload_n 3, 1) := by decide +kernel
theorem d_Mc_licencesFit_47 : decode b_Mc_licencesFit 47 = .ok (.invokevirtual 141, 3) := by decide +kernel
theorem d_Mc_licencesFit_50 : decode b_Mc_licencesFit 50 = .ok (.ifCond .eq (33), 3) := by decide +kernel
theorem d_Mc_licencesFit_53 : decode b_Mc_licencesFit 53 = .ok (.iload_n 1, 1) := by decide +kernel
theorem d_Mc_licencesFit_54 : decode b_Mc_licencesFit 54 = .ok (.aload_n 0, 1) := by decide +kernel
theorem d_Mc_licencesFit_55 : decode b_Mc_licencesFit 55 = .ok (.aload_n 0, 1) := by decide +kernel
theorem d_Mc_licencesFit_56 : decode b_Mc_licencesFit 56 = .ok (.getfield 31, 3) := by decide +kernel
theorem d_Mc_licencesFit_59 : decode b_Mc_licencesFit 59 = .ok (.iload 5, 2) := by decide +kernel
theorem d_Mc_licencesFit_61 : decode b_Mc_licencesFit 61 = .ok (.aaload, 1) := by decide +kernel
theorem d_Mc_licencesFit_62 : decode b_Mc_licencesFit 62 = .ok (.getfield 126, 3) := by decide +kernel
theorem d_Mc_licencesFit_65 : decode b_Mc_licencesFit 65 = .ok (.invokevirtual 145, 3) := by decide +kernel
theorem d_Mc_licencesFit_68 : decode b_Mc_licencesFit 68 = .ok (.iadd, 1) := by decide +kernel
theorem d_Mc_licencesFit_69 : decode b_Mc_licencesFit 69 = .ok (.aload_n 0, 1) := by decide +kernel
theorem d_Mc_licencesFit_70 : decode b_Mc_licencesFit 70 = .ok (.getfield 39, 3) := by decide +kernel
theorem d_Mc_licencesFit_73 : decode b_Mc_licencesFit 73 = .ok (.if_icmp .gt (7), 3) := by decide +kernel
theorem d_Mc_licencesFit_76 : decode b_Mc_licencesFit 76 = .ok (.iconst 1, 1) := by decide +kernel
theorem d_Mc_licencesFit_77 : decode b_Mc_licencesFit 77 = .ok (.goto (4), 3) := by decide +kernel
theorem d_Mc_licencesFit_80 : decode b_Mc_licencesFit 80 = .ok (.iconst 0, 1) := by decide +kernel
theorem d_Mc_licencesFit_81 : decode b_Mc_licencesFit 81 = .ok (.istore 4, 2) := by decide +kernel
theorem d_Mc_licencesFit_83 : decode b_Mc_licencesFit 83 = .ok (.iinc 5 (1), 3) := by decide +kernel
theorem d_Mc_licencesFit_86 : decode b_Mc_licencesFit 86 = .ok (.goto (-62), 3) := by decide +kernel
theorem d_Mc_licencesFit_89 : decode b_Mc_licencesFit 89 = .ok (.iload 4, 2) := by decide +kernel
theorem d_Mc_licencesFit_91 : decode b_Mc_licencesFit 91 = .ok (.ireturn, 1) := by decide +kernel
theorem d_Mc_fits_0 : decode b_Mc_fits 0 = .ok (.iload_n 2, 1) := by decide +kernel
theorem d_Mc_fits_1 : decode b_Mc_fits 1 = .ok (.aload_n 1, 1) := by decide +kernel
theorem d_Mc_fits_2 : decode b_Mc_fits 2 = .ok (.invokevirtual 148, 3) := by decide +kernel
theorem d_Mc_fits_5 : decode b_Mc_fits 5 = .ok (.iadd, 1) := by decide +kernel
theorem d_Mc_fits_6 : decode b_Mc_fits 6 = .ok (.istore_n 3, 1) := by decide +kernel
theorem d_Mc_fits_7 : decode b_Mc_fits 7 = .ok (.aload_n 0, 1) := by decide +kernel
theorem d_Mc_fits_8 : decode b_Mc_fits 8 = .ok (.aload_n 1, 1) := by decide +kernel
theorem d_Mc_fits_9 : decode b_Mc_fits 9 = .ok (.getfield 152, 3) := by decide +kernel
theorem d_Mc_fits_12 : decode b_Mc_fits 12 = .ok (.iload_n 2, 1) := by decide +kernel
theorem d_Mc_fits_13 : decode b_Mc_fits 13 = .ok (.iload_n 3, 1) := by decide +kernel
theorem d_Mc_fits_14 : decode b_Mc_fits 14 = .ok (.invokevirtual 153, 3) := by decide +kernel
theorem d_Mc_fits_17 : decode b_Mc_fits 17 = .ok (.ifCond .eq (20), 3) := by decide +kernel
theorem d_Mc_fits_20 : decode b_Mc_fits 20 = .ok (.aload_n 0, 1) := by decide +kernel
theorem d_Mc_fits_21 : decode b_Mc_fits 21 = .ok (.aload_n 1, 1) := by decide +kernel
theorem d_Mc_fits_22 : decode b_Mc_fits 22 = .ok (.getfield 133, 3) := by decide +kernel
theorem d_Mc_fits_25 : decode b_Mc_fits 25 = .ok (.iload_n 2, 1) := by decide +kernel
theorem d_Mc_fits_26 : decode b_Mc_fits 26 = .ok (.iload_n 3, 1) := by decide +kernel
theorem d_Mc_fits_27 : decode b_Mc_fits 27 = .ok (.invokevirtual 157, 3) := by decide +kernel
theorem d_Mc_fits_30 : decode b_Mc_fits 30 = .ok (.ifCond .eq (7), 3) := by decide +kernel
theorem d_Mc_fits_33 : decode b_Mc_fits 33 = .ok (.iconst 1, 1) := by decide +kernel
theorem d_Mc_fits_34 : decode b_Mc_fits 34 = .ok (.goto (4), 3) := by decide +kernel
theorem d_Mc_fits_37 : decode b_Mc_fits 37 = .ok (.iconst 0, 1) := by decide +kernel
theorem d_Mc_fits_38 : decode b_Mc_fits 38 = .ok (.ireturn, 1) := by decide +kernel
theorem d_Mc_passTick_0 : decode b_Mc_passTick 0 = .ok (.aload_n 0, 1) := by decide +kernel
theorem d_Mc_passTick_1 : decode b_Mc_passTick 1 = .ok (.invokevirtual 160, 3) := by decide +kernel
theorem d_Mc_passTick_4 : decode b_Mc_passTick 4 = .ok (.aload_n 0, 1) := by decide +kernel
theorem d_Mc_passTick_5 : decode b_Mc_passTick 5 = .ok (.invokevirtual 163, 3) := by decide +kernel
theorem d_Mc_passTick_8 : decode b_Mc_passTick 8 = .ok (.aload_n 0, 1) := by decide +kernel
theorem d_Mc_passTick_9 : decode b_Mc_passTick 9 = .ok (.iload_n 1, 1) := by decide +kernel
theorem d_Mc_passTick_10 : decode b_Mc_passTick 10 = .ok (.invokevirtual 166, 3) := by decide +kernel
theorem d_Mc_passTick_13 : decode b_Mc_passTick 13 = .ok (.aload_n 0, 1) := by decide +kernel
theorem d_Mc_passTick_14 : decode b_Mc_passTick 14 = .ok (.dup, 1) := by decide +kernel
theorem d_Mc_passTick_15 : decode b_Mc_passTick 15 = .ok (.getfield 68, 3) := by decide +kernel
theorem d_Mc_passTick_18 : decode b_Mc_passTick 18 = .ok (.iconst 1, 1) := by decide +kernel
theorem d_Mc_passTick_19 : decode b_Mc_passTick 19 = .ok (.iadd, 1) := by decide +kernel
theorem d_Mc_passTick_20 : decode b_Mc_passTick 20 = .ok (.putfield 68, 3) := by decide +kernel
theorem d_Mc_passTick_23 : decode b_Mc_passTick 23 = .ok (.aload_n 0, 1) := by decide +kernel
theorem d_Mc_passTick_24 : decode b_Mc_passTick 24 = .ok (.getfield 35, 3) := by decide +kernel
theorem d_Mc_passTick_27 : decode b_Mc_passTick 27 = .ok (.ifCond .le (19), 3) := by decide +kernel
theorem d_Mc_passTick_30 : decode b_Mc_passTick 30 = .ok (.aload_n 0, 1) := by decide +kernel
theorem d_Mc_passTick_31 : decode b_Mc_passTick 31 = .ok (.getfield 68, 3) := by decide +kernel
theorem d_Mc_passTick_34 : decode b_Mc_passTick 34 = .ok (.aload_n 0, 1) := by decide +kernel
theorem d_Mc_passTick_35 : decode b_Mc_passTick 35 = .ok (.getfield 35, 3) := by decide +kernel
theorem d_Mc_passTick_38 : decode b_Mc_passTick 38 = .ok (.irem, 1) := by decide +kernel
theorem d_Mc_passTick_39 : decode b_Mc_passTick 39 = .ok (.ifCond .ne (7), 3) := by decide +kernel
theorem d_Mc_passTick_42 : decode b_Mc_passTick 42 = .ok (.aload_n 0, 1) := by decide +kernel
theorem d_Mc_passTick_43 : decode b_Mc_passTick 43 = .ok (.invokevirtual 170, 3) := by decide +kernel
theorem d_Mc_passTick_46 : decode b_Mc_passTick 46 = .ok (.return_, 1) := by decide +kernel
theorem d_Mc_lineUp_0 : decode b_Mc_lineUp 0 = .ok (.aload_n 0, 1) := by decide +kernel
theorem d_Mc_lineUp_1 : decode b_Mc_lineUp 1 = .ok (.iconst 0, 1) := by decide +kernel
theorem d_Mc_lineUp_2 : decode b_Mc_lineUp 2 = .ok (.putfield 173, 3) := by decide +kernel
theorem d_Mc_lineUp_5 : decode b_Mc_lineUp 5 = .ok (.iconst 0, 1) := by decide +kernel
theorem d_Mc_lineUp_6 : decode b_Mc_lineUp 6 = .ok (.istore_n 1, 1) := by decide +kernel
theorem d_Mc_lineUp_7 : decode b_Mc_lineUp 7 = .ok (.iload_n 1, 1) := by decide +kernel
theorem d_Mc_lineUp_8 : decode b_Mc_lineUp 8 = .ok (.aload_n 0, 1) := by decide +kernel
theorem d_Mc_lineUp_9 : decode b_Mc_lineUp 9 = .ok (.getfield 62, 3) := by decide +kernel
theorem d_Mc_lineUp_12 : decode b_Mc_lineUp 12 = .ok (.if_icmp .ge (27), 3) := by decide +kernel
theorem d_Mc_lineUp_15 : decode b_Mc_lineUp 15 = .ok (.aload_n 0, 1) := by decide +kernel
theorem d_Mc_lineUp_16 : decode b_Mc_lineUp 16 = .ok (.aload_n 0, 1) := by decide +kernel
theorem d_Mc_lineUp_17 : decode b_Mc_lineUp 17 = .ok (.getfield 25, 3) := by decide +kernel
theorem d_Mc_lineUp_20 : decode b_Mc_lineUp 20 = .ok (.iload_n 1, 1) := by decide +kernel
theorem d_Mc_lineUp_21 : decode b_Mc_lineUp 21 = .ok (.aaload, 1) := by decide +kernel
theorem d_Mc_lineUp_22 : decode b_Mc_lineUp 22 = .ok (.invokevirtual 176, 3) := by decide +kernel
theorem d_Mc_lineUp_25 : decode b_Mc_lineUp 25 = .ok (.ifCond .eq (8), 3) := by decide +kernel
theorem d_Mc_lineUp_28 : decode b_Mc_lineUp 28 = .ok (.aload_n 0, 1) := by decide +kernel
theorem d_Mc_lineUp_29 : decode b_Mc_lineUp 29 = .ok (.iload_n 1, 1) := by decide +kernel
theorem d_Mc_lineUp_30 : decode b_Mc_lineUp 30 = .ok (.invokevirtual 180, 3) := by decide +kernel
theorem d_Mc_lineUp_33 : decode b_Mc_lineUp 33 = .ok (.iinc 1 (1), 3) := by decide +kernel
theorem d_Mc_lineUp_36 : decode b_Mc_lineUp 36 = .ok (.goto (-29), 3) := by decide +kernel
theorem d_Mc_lineUp_39 : decode b_Mc_lineUp 39 = .ok (.return_, 1) := by decide +kernel
theorem d_Mc_mayBegin_0 : decode b_Mc_mayBegin 0 = .ok (.aload_n 1, 1) := by decide +kernel
theorem d_Mc_mayBegin_1 : decode b_Mc_mayBegin 1 = .ok (.getfield 99, 3) := by decide +kernel
theorem d_Mc_mayBegin_4 : decode b_Mc_mayBegin 4 = .ok (.ifCond .eq (5), 3) := by decide +kernel
theorem d_Mc_mayBegin_7 : decode b_Mc_mayBegin 7 = .ok (.iconst 0, 1) := by decide +kernel
theorem d_Mc_mayBegin_8 : decode b_Mc_mayBegin 8 = .ok (.ireturn, 1) := by decide +kernel
theorem d_Mc_mayBegin_9 : decode b_Mc_mayBegin 9 = .ok (.aload_n 0, 1) := by decide +kernel
theorem d_Mc_mayBegin_10 : decode b_Mc_mayBegin 10 = .ok (.aload_n 1, 1) := by decide +kernel
theorem d_Mc_mayBegin_11 : decode b_Mc_mayBegin 11 = .ok (.getfield 183, 3) := by decide +kernel
theorem d_Mc_mayBegin_14 : decode b_Mc_mayBegin 14 = .ok (.invokevirtual 186, 3) := by decide +kernel
theorem d_Mc_mayBegin_17 : decode b_Mc_mayBegin 17 = .ok (.ifCond .eq (19), 3) := by decide +kernel
theorem d_Mc_mayBegin_20 : decode b_Mc_mayBegin 20 = .ok (.aload_n 0, 1) := by decide +kernel
theorem d_Mc_mayBegin_21 : decode b_Mc_mayBegin 21 = .ok (.getfield 25, 3) := by decide +kernel
theorem d_Mc_mayBegin_24 : decode b_Mc_mayBegin 24 = .ok (.aload_n 1, 1) := by decide +kernel
theorem d_Mc_mayBegin_25 : decode b_Mc_mayBegin 25 = .ok (.getfield 183, 3) := by decide +kernel
theorem d_Mc_mayBegin_28 : decode b_Mc_mayBegin 28 = .ok (.aaload, 1) := by decide +kernel
theorem d_Mc_mayBegin_29 : decode b_Mc_mayBegin 29 = .ok (.getfield 99, 3) := by decide +kernel
theorem d_Mc_mayBegin_32 : decode b_Mc_mayBegin 32 = .ok (.iconst 2, 1) := by decide +kernel
theorem d_Mc_mayBegin_33 : decode b_Mc_mayBegin 33 = .ok (.if_icmp .ne (7), 3) := by decide +kernel
theorem d_Mc_mayBegin_36 : decode b_Mc_mayBegin 36 = .ok (.iconst 1, 1) := by decide +kernel
theorem d_Mc_mayBegin_37 : decode b_Mc_mayBegin 37 = .ok (.goto (4), 3) := by decide +kernel
theorem d_Mc_mayBegin_40 : decode b_Mc_mayBegin 40 = .ok (.iconst 0, 1) := by decide +kernel
theorem d_Mc_mayBegin_41 : decode b_Mc_mayBegin 41 = .ok (.ireturn, 1) := by decide +kernel
theorem d_Mc_putInQueue_0 : decode b_Mc_putInQueue 0 = .ok (.aload_n 0, 1) := by decide +kernel
theorem d_Mc_putInQueue_1 : decode b_Mc_putInQueue 1 = .ok (.getfield 19, 3) := by decide +kernel
theorem d_Mc_putInQueue_4 : decode b_Mc_putInQueue 4 = .ok (.aload_n 0, 1) := by decide +kernel
theorem d_Mc_putInQueue_5 : decode b_Mc_putInQueue 5 = .ok (.getfield 25, 3) := by decide +kernel
theorem d_Mc_putInQueue_8 : decode b_Mc_putInQueue 8 = .ok (.iload_n 1, 1) := by decide +kernel
theorem d_Mc_putInQueue_9 : decode b_Mc_putInQueue 9 = .ok (.aaload, 1) := by decide +kernel
theorem d_Mc_putInQueue_10 : decode b_Mc_putInQueue 10 = .ok (.getfield 190, 3) := by decide +kernel
theorem d_Mc_putInQueue_13 : decode b_Mc_putInQueue 13 = .ok (.aaload, 1) := by decide +kernel
theorem d_Mc_putInQueue_14 : decode b_Mc_putInQueue 14 = .ok (.astore_n 2, 1) := by decide +kernel
theorem d_Mc_putInQueue_15 : decode b_Mc_putInQueue 15 = .ok (.aload_n 0, 1) := by decide +kernel
theorem d_Mc_putInQueue_16 : decode b_Mc_putInQueue 16 = .ok (.getfield 173, 3) := by decide +kernel
theorem d_Mc_putInQueue_19 : decode b_Mc_putInQueue 19 = .ok (.istore_n 3, 1) := by decide +kernel
theorem d_Mc_putInQueue_20 : decode b_Mc_putInQueue 20 = .ok (.iload_n 3, 1) := by decide +kernel
theorem d_Mc_putInQueue_21 : decode b_Mc_putInQueue 21 = .ok (.ifCond .le (51), 3) := by decide +kernel
theorem d_Mc_putInQueue_24 : decode b_Mc_putInQueue 24 = .ok (.aload_n 2, 1) := by decide +kernel
theorem d_Mc_putInQueue_25 : decode b_Mc_putInQueue 25 = .ok (.aload_n 0, 1) := by decide +kernel
theorem d_Mc_putInQueue_26 : decode b_Mc_putInQueue 26 = .ok (.getfield 19, 3) := by decide +kernel
theorem d_Mc_putInQueue_29 : decode b_Mc_putInQueue 29 = .ok (.aload_n 0, 1) := by decide +kernel
theorem d_Mc_putInQueue_30 : decode b_Mc_putInQueue 30 = .ok (.getfield 25, 3) := by decide +kernel
theorem d_Mc_putInQueue_33 : decode b_Mc_putInQueue 33 = .ok (.aload_n 0, 1) := by decide +kernel
theorem d_Mc_putInQueue_34 : decode b_Mc_putInQueue 34 = .ok (.getfield 48, 3) := by decide +kernel
theorem d_Mc_putInQueue_37 : decode b_Mc_putInQueue 37 = .ok (.iload_n 3, 1) := by decide +kernel
theorem d_Mc_putInQueue_38 : decode b_Mc_putInQueue 38 = .ok (.iconst 1, 1) := by decide +kernel
theorem d_Mc_putInQueue_39 : decode b_Mc_putInQueue 39 = .ok (.isub, 1) := by decide +kernel
theorem d_Mc_putInQueue_40 : decode b_Mc_putInQueue 40 = .ok (.iaload, 1) := by decide +kernel
theorem d_Mc_putInQueue_41 : decode b_Mc_putInQueue 41 = .ok (.aaload, 1) := by decide +kernel
theorem d_Mc_putInQueue_42 : decode b_Mc_putInQueue 42 = .ok (.getfield 190, 3) := by decide +kernel
theorem d_Mc_putInQueue_45 : decode b_Mc_putInQueue 45 = .ok (.aaload, 1) := by decide +kernel
theorem d_Mc_putInQueue_46 : decode b_Mc_putInQueue 46 = .ok (.invokevirtual 193, 3) := by decide +kernel
theorem d_Mc_putInQueue_49 : decode b_Mc_putInQueue 49 = .ok (.ifCond .eq (23), 3) := by decide +kernel
theorem d_Mc_putInQueue_52 : decode b_Mc_putInQueue 52 = .ok (.aload_n 0, 1) := by decide +kernel
theorem d_Mc_putInQueue_53 : decode b_Mc_putInQueue 53 = .ok (.getfield 48, 3) := by decide +kernel
theorem d_Mc_putInQueue_56 : decode b_Mc_putInQueue 56 = .ok (.iload_n 3, 1) := by decide +kernel
theorem d_Mc_putInQueue_57 : decode b_Mc_putInQueue 57 = .ok (.aload_n 0, 1) := by decide +kernel
theorem d_Mc_putInQueue_58 : decode b_Mc_putInQueue 58 = .ok (.getfield 48, 3) := by decide +kernel
theorem d_Mc_putInQueue_61 : decode b_Mc_putInQueue 61 = .ok (.iload_n 3, 1) := by decide +kernel
theorem d_Mc_putInQueue_62 : decode b_Mc_putInQueue 62 = .ok (.iconst 1, 1) := by decide +kernel
theorem d_Mc_putInQueue_63 : decode b_Mc_putInQueue 63 = .ok (.isub, 1) := by decide +kernel
theorem d_Mc_putInQueue_64 : decode b_Mc_putInQueue 64 = .ok (.iaload, 1) := by decide +kernel
theorem d_Mc_putInQueue_65 : decode b_Mc_putInQueue 65 = .ok (.iastore, 1) := by decide +kernel
theorem d_Mc_putInQueue_66 : decode b_Mc_putInQueue 66 = .ok (.iinc 3 (-1), 3) := by decide +kernel
theorem d_Mc_putInQueue_69 : decode b_Mc_putInQueue 69 = .ok (.goto (-49), 3) := by decide +kernel
theorem d_Mc_putInQueue_72 : decode b_Mc_putInQueue 72 = .ok (.aload_n 0, 1) := by decide +kernel
theorem d_Mc_putInQueue_73 : decode b_Mc_putInQueue 73 = .ok (.getfield 48, 3) := by decide +kernel
theorem d_Mc_putInQueue_76 : decode b_Mc_putInQueue 76 = .ok (.iload_n 3, 1) := by decide +kernel
theorem d_Mc_putInQueue_77 : decode b_Mc_putInQueue 77 = .ok (.iload_n 1, 1) := by decide +kernel
theorem d_Mc_putInQueue_78 : decode b_Mc_putInQueue 78 = .ok (.iastore, 1) := by decide +kernel
theorem d_Mc_putInQueue_79 : decode b_Mc_putInQueue 79 = .ok (.aload_n 0, 1) := by decide +kernel
theorem d_Mc_putInQueue_80 : decode b_Mc_putInQueue 80 = .ok (.dup, 1) := by decide +kernel
theorem d_Mc_putInQueue_81 : decode b_Mc_putInQueue 81 = .ok (.getfield 173, 3) := by decide +kernel
theorem d_Mc_putInQueue_84 : decode b_Mc_putInQueue 84 = .ok (.iconst 1, 1) := by decide +kernel
theorem d_Mc_putInQueue_85 : decode b_Mc_putInQueue 85 = .ok (.iadd, 1) := by decide +kernel
theorem d_Mc_putInQueue_86 : decode b_Mc_putInQueue 86 = .ok (.putfield 173, 3) := by decide +kernel
theorem d_Mc_putInQueue_89 : decode b_Mc_putInQueue 89 = .ok (.return_, 1) := by decide +kernel
theorem d_Mc_serveQueue_0 : decode b_Mc_serveQueue 0 = .ok (.aload_n 0, 1) := by decide +kernel
theorem d_Mc_serveQueue_1 : decode b_Mc_serveQueue 1 = .ok (.getfield 65, 3) := by decide +kernel
theorem d_Mc_serveQueue_4 : decode b_Mc_serveQueue 4 = .ok (.istore_n 1, 1) := by decide +kernel
theorem d_Mc_serveQueue_5 : decode b_Mc_serveQueue 5 = .ok (.aload_n 0, 1) := by decide +kernel
theorem d_Mc_serveQueue_6 : decode b_Mc_serveQueue 6 = .ok (.iconst (-1), 1) := by decide +kernel
theorem d_Mc_serveQueue_7 : decode b_Mc_serveQueue 7 = .ok (.putfield 42, 3) := by decide +kernel
theorem d_Mc_serveQueue_10 : decode b_Mc_serveQueue 10 = .ok (.aload_n 0, 1) := by decide +kernel
theorem d_Mc_serveQueue_11 : decode b_Mc_serveQueue 11 = .ok (.iconst (-1), 1) := by decide +kernel
theorem d_Mc_serveQueue_12 : decode b_Mc_serveQueue 12 = .ok (.putfield 45, 3) := by decide +kernel
theorem d_Mc_serveQueue_15 : decode b_Mc_serveQueue 15 = .ok (.iconst 0, 1) := by decide +kernel
theorem d_Mc_serveQueue_16 : decode b_Mc_serveQueue 16 = .ok (.istore_n 2, 1) := by decide +kernel
theorem d_Mc_serveQueue_17 : decode b_Mc_serveQueue 17 = .ok (.iload_n 2, 1) := by decide +kernel
theorem d_Mc_serveQueue_18 : decode b_Mc_serveQueue 18 = .ok (.aload_n 0, 1) := by decide +kernel
theorem d_Mc_serveQueue_19 : decode b_Mc_serveQueue 19 = .ok (.getfield 173, 3) := by decide +kernel
theorem d_Mc_serveQueue_22 : decode b_Mc_serveQueue 22 = .ok (.if_icmp .ge (128), 3) := by decide +kernel
theorem d_Mc_serveQueue_25 : decode b_Mc_serveQueue 25 = .ok (.aload_n 0, 1) := by decide +kernel
theorem d_Mc_serveQueue_26 : decode b_Mc_serveQueue 26 = .ok (.getfield 25, 3) := by decide +kernel
theorem d_Mc_serveQueue_29 : decode b_Mc_serveQueue 29 = .ok (.aload_n 0, 1) := by decide +kernel
theorem d_Mc_serveQueue_30 : decode b_Mc_serveQueue 30 = .ok (.getfield 48, 3) := by decide +kernel
theorem d_Mc_serveQueue_33 : decode b_Mc_serveQueue 33 = .ok (.iload_n 2, 1) := by decide +kernel
theorem d_Mc_serveQueue_34 : decode b_Mc_serveQueue 34 = .ok (.iaload, 1) := by decide +kernel
theorem d_Mc_serveQueue_35 : decode b_Mc_serveQueue 35 = .ok (.aaload, 1) := by decide +kernel
theorem d_Mc_serveQueue_36 : decode b_Mc_serveQueue 36 = .ok (.astore_n 3, 1) := by decide +kernel
theorem d_Mc_serveQueue_37 : decode b_Mc_serveQueue 37 = .ok (.aload_n 0, 1) := by decide +kernel
theorem d_Mc_serveQueue_38 : decode b_Mc_serveQueue 38 = .ok (.aload_n 3, 1) := by decide +kernel
theorem d_Mc_serveQueue_39 : decode b_Mc_serveQueue 39 = .ok (.aload_n 0, 1) := by decide +kernel
theorem d_Mc_serveQueue_40 : decode b_Mc_serveQueue 40 = .ok (.getfield 68, 3) := by decide +kernel
theorem d_Mc_serveQueue_43 : decode b_Mc_serveQueue 43 = .ok (.invokevirtual 197, 3) := by decide +kernel
theorem d_Mc_serveQueue_46 : decode b_Mc_serveQueue 46 = .ok (.ifCond .eq (11), 3) := by decide +kernel
theorem d_Mc_serveQueue_49 : decode b_Mc_serveQueue 49 = .ok (.aload_n 0, 1) := by decide +kernel
theorem d_Mc_serveQueue_50 : decode b_Mc_serveQueue 50 = .ok (.aload_n 3, 1) := by decide +kernel
theorem d_Mc_serveQueue_51 : decode b_Mc_serveQueue 51 = .ok (.invokevirtual 201, 3) := by decide +kernel
theorem d_Mc_serveQueue_54 : decode b_Mc_serveQueue 54 = .ok (.goto (90), 3) := by decide +kernel
theorem d_Mc_serveQueue_57 : decode b_Mc_serveQueue 57 = .ok (.aload_n 0, 1) := by decide +kernel
theorem d_Mc_serveQueue_58 : decode b_Mc_serveQueue 58 = .ok (.getfield 42, 3) := by decide +kernel
theorem d_Mc_serveQueue_61 : decode b_Mc_serveQueue 61 = .ok (.iconst (-1), 1) := by decide +kernel
theorem d_Mc_serveQueue_62 : decode b_Mc_serveQueue 62 = .ok (.if_icmp .ne (82), 3) := by decide +kernel
theorem d_Mc_serveQueue_65 : decode b_Mc_serveQueue 65 = .ok (.aload_n 0, 1) := by decide +kernel
theorem d_Mc_serveQueue_66 : decode b_Mc_serveQueue 66 = .ok (.aload_n 0, 1) := by decide +kernel
theorem d_Mc_serveQueue_67 : decode b_Mc_serveQueue 67 = .ok (.getfield 48, 3) := by decide +kernel
theorem d_Mc_serveQueue_70 : decode b_Mc_serveQueue 70 = .ok (.iload_n 2, 1) := by decide +kernel
theorem d_Mc_serveQueue_71 : decode b_Mc_serveQueue 71 = .ok (.iaload, 1) := by decide +kernel
theorem d_Mc_serveQueue_72 : decode b_Mc_serveQueue 72 = .ok (.putfield 42, 3) := by decide +kernel
theorem d_Mc_serveQueue_75 : decode b_Mc_serveQueue 75 = .ok (.aload_n 0, 1) := by decide +kernel
theorem d_Mc_serveQueue_76 : decode b_Mc_serveQueue 76 = .ok (.aload_n 0, 1) := by decide +kernel
theorem d_Mc_serveQueue_77 : decode b_Mc_serveQueue 77 = .ok (.aload_n 3, 1) := by decide +kernel
theorem d_Mc_serveQueue_78 : decode b_Mc_serveQueue 78 = .ok (.invokevirtual 204, 3) := by decide +kernel
theorem d_Mc_serveQueue_81 : decode b_Mc_serveQueue 81 = .ok (.putfield 45, 3) := by decide +kernel
theorem d_Mc_serveQueue_84 : decode b_Mc_serveQueue 84 = .ok (.aload_n 0, 1) := by decide +kernel
theorem d_Mc_serveQueue_85 : decode b_Mc_serveQueue 85 = .ok (.getfield 45, 3) := by decide +kernel
theorem d_Mc_serveQueue_88 : decode b_Mc_serveQueue 88 = .ok (.iconst (-1), 1) := by decide +kernel
theorem d_Mc_serveQueue_89 : decode b_Mc_serveQueue 89 = .ok (.if_icmp .eq (55), 3) := by decide +kernel
theorem d_Mc_serveQueue_92 : decode b_Mc_serveQueue 92 = .ok (.aload_n 0, 1) := by decide +kernel
theorem d_Mc_serveQueue_93 : decode b_Mc_serveQueue 93 = .ok (.getfield 65, 3) := by decide +kernel
theorem d_Mc_serveQueue_96 : decode b_Mc_serveQueue 96 = .ok (.bipush (8), 2) := by decide +kernel
theorem d_Mc_serveQueue_98 : decode b_Mc_serveQueue 98 = .ok (.if_icmp .gt (46), 3) := by decide +kernel
theorem d_Mc_serveQueue_101 : decode b_Mc_serveQueue 101 = .ok (.aload_n 0, 1) := by decide +kernel
theorem d_Mc_serveQueue_102 : decode b_Mc_serveQueue 102 = .ok (.getfield 31, 3) := by decide +kernel
theorem d_Mc_serveQueue_105 : decode b_Mc_serveQueue 105 = .ok (.aload_n 0, 1) := by decide +kernel
theorem d_Mc_serveQueue_106 : decode b_Mc_serveQueue 106 = .ok (.getfield 65, 3) := by decide +kernel
theorem d_Mc_serveQueue_109 : decode b_Mc_serveQueue 109 = .ok (.aaload, 1) := by decide +kernel
theorem d_Mc_serveQueue_110 : decode b_Mc_serveQueue 110 = .ok (.aload_n 3, 1) := by decide +kernel
theorem d_Mc_serveQueue_111 : decode b_Mc_serveQueue 111 = .ok (.getfield 152, 3) := by decide +kernel
theorem d_Mc_serveQueue_114 : decode b_Mc_serveQueue 114 = .ok (.aload_n 3, 1) := by decide +kernel
theorem d_Mc_serveQueue_115 : decode b_Mc_serveQueue 115 = .ok (.getfield 133, 3) := by decide +kernel
theorem d_Mc_serveQueue_118 : decode b_Mc_serveQueue 118 = .ok (.aload_n 0, 1) := by decide +kernel
theorem d_Mc_serveQueue_119 : decode b_Mc_serveQueue 119 = .ok (.getfield 45, 3) := by decide +kernel
theorem d_Mc_serveQueue_122 : decode b_Mc_serveQueue 122 = .ok (.aload_n 0, 1) := by decide +kernel
theorem d_Mc_serveQueue_123 : decode b_Mc_serveQueue 123 = .ok (.getfield 45, 3) := by decide +kernel
theorem d_Mc_serveQueue_126 : decode b_Mc_serveQueue 126 = .ok (.aload_n 3, 1) := by decide +kernel
theorem d_Mc_serveQueue_127 : decode b_Mc_serveQueue 127 = .ok (.invokevirtual 148, 3) := by decide +kernel
theorem d_Mc_serveQueue_130 : decode b_Mc_serveQueue 130 = .ok (.iadd, 1) := by decide +kernel
theorem d_Mc_serveQueue_131 : decode b_Mc_serveQueue 131 = .ok (.invokevirtual 207, 3) := by decide +kernel
theorem d_Mc_serveQueue_134 : decode b_Mc_serveQueue 134 = .ok (.aload_n 0, 1) := by decide +kernel
theorem d_Mc_serveQueue_135 : decode b_Mc_serveQueue 135 = .ok (.dup, 1) := by decide +kernel
theorem d_Mc_serveQueue_136 : decode b_Mc_serveQueue 136 = .ok (.getfield 65, 3) := by decide +kernel
theorem d_Mc_serveQueue_139 : decode b_Mc_serveQueue 139 = .ok (.iconst 1, 1) := by decide +kernel
theorem d_Mc_serveQueue_140 : decode b_Mc_serveQueue 140 = .ok (.iadd, 1) := by decide +kernel
theorem d_Mc_serveQueue_141 : decode b_Mc_serveQueue 141 = .ok (.putfield 65, 3) := by decide +kernel
theorem d_Mc_serveQueue_144 : decode b_Mc_serveQueue 144 = .ok (.iinc 2 (1), 3) := by decide +kernel
theorem d_Mc_serveQueue_147 : decode b_Mc_serveQueue 147 = .ok (.goto (-130), 3) := by decide +kernel
theorem d_Mc_serveQueue_150 : decode b_Mc_serveQueue 150 = .ok (.aload_n 0, 1) := by decide +kernel
theorem d_Mc_serveQueue_151 : decode b_Mc_serveQueue 151 = .ok (.iload_n 1, 1) := by decide +kernel
theorem d_Mc_serveQueue_152 : decode b_Mc_serveQueue 152 = .ok (.putfield 65, 3) := by decide +kernel
theorem d_Mc_serveQueue_155 : decode b_Mc_serveQueue 155 = .ok (.return_, 1) := by decide +kernel
theorem d_Mc_firstFit_0 : decode b_Mc_firstFit 0 = .ok (.aload_n 0, 1) := by decide +kernel
theorem d_Mc_firstFit_1 : decode b_Mc_firstFit 1 = .ok (.aload_n 0, 1) := by decide +kernel
theorem d_Mc_firstFit_2 : decode b_Mc_firstFit 2 = .ok (.getfield 68, 3) := by decide +kernel
theorem d_Mc_firstFit_5 : decode b_Mc_firstFit 5 = .ok (.invokevirtual 211, 3) := by decide +kernel
theorem d_Mc_firstFit_8 : decode b_Mc_firstFit 8 = .ok (.istore_n 2, 1) := by decide +kernel
theorem d_Mc_firstFit_9 : decode b_Mc_firstFit 9 = .ok (.iconst 0, 1) := by decide +kernel
theorem d_Mc_firstFit_10 : decode b_Mc_firstFit 10 = .ok (.istore_n 3, 1) := by decide +kernel
theorem d_Mc_firstFit_11 : decode b_Mc_firstFit 11 = .ok (.iload_n 3, 1) := by decide +kernel
theorem d_Mc_firstFit_12 : decode b_Mc_firstFit 12 = .ok (.bipush (38), 2) := by decide +kernel
theorem d_Mc_firstFit_14 : decode b_Mc_firstFit 14 = .ok (.if_icmp .ge (45), 3) := by decide +kernel
theorem d_Mc_firstFit_17 : decode b_Mc_firstFit 17 = .ok (.iload_n 2, 1) := by decide +kernel
theorem d_Mc_firstFit_18 : decode b_Mc_firstFit 18 = .ok (.iconst (-1), 1) := by decide +kernel
theorem d_Mc_firstFit_19 : decode b_Mc_firstFit 19 = .ok (.if_icmp .eq (15), 3) := by decide +kernel
theorem d_Mc_firstFit_22 : decode b_Mc_firstFit 22 = .ok (.iload_n 2, 1) := by decide +kernel
theorem d_Mc_firstFit_23 : decode b_Mc_firstFit 23 = .ok (.aload_n 0, 1) := by decide +kernel
theorem d_Mc_firstFit_24 : decode b_Mc_firstFit 24 = .ok (.getfield 68, 3) := by decide +kernel
theorem d_Mc_firstFit_27 : decode b_Mc_firstFit 27 = .ok (.sipush (200), 3) := by decide +kernel
theorem d_Mc_firstFit_30 : decode b_Mc_firstFit 30 = .ok (.iadd, 1) := by decide +kernel
theorem d_Mc_firstFit_31 : decode b_Mc_firstFit 31 = .ok (.if_icmp .le (5), 3) := by decide +kernel
theorem d_Mc_firstFit_34 : decode b_Mc_firstFit 34 = .ok (.iconst (-1), 1) := by decide +kernel
theorem d_Mc_firstFit_35 : decode b_Mc_firstFit 35 = .ok (.ireturn, 1) := by decide +kernel
theorem d_Mc_firstFit_36 : decode b_Mc_firstFit 36 = .ok (.aload_n 0, 1) := by decide +kernel
theorem d_Mc_firstFit_37 : decode b_Mc_firstFit 37 = .ok (.aload_n 1, 1) := by decide +kernel
theorem d_Mc_firstFit_38 : decode b_Mc_firstFit 38 = .ok (.iload_n 2, 1) := by decide +kernel
theorem d_Mc_firstFit_39 : decode b_Mc_firstFit 39 = .ok (.invokevirtual 197, 3) := by decide +kernel
theorem d_Mc_firstFit_42 : decode b_Mc_firstFit 42 = .ok (.ifCond .eq (5), 3) := by decide +kernel
theorem d_Mc_firstFit_45 : decode b_Mc_firstFit 45 = .ok (.iload_n 2, 1) := by decide +kernel
theorem d_Mc_firstFit_46 : decode b_Mc_firstFit 46 = .ok (.ireturn, 1) := by decide +kernel
theorem d_Mc_firstFit_47 : decode b_Mc_firstFit 47 = .ok (.aload_n 0, 1) := by decide +kernel
theorem d_Mc_firstFit_48 : decode b_Mc_firstFit 48 = .ok (.iload_n 2, 1) := by decide +kernel
theorem d_Mc_firstFit_49 : decode b_Mc_firstFit 49 = .ok (.invokevirtual 211, 3) := by decide +kernel
theorem d_Mc_firstFit_52 : decode b_Mc_firstFit 52 = .ok (.istore_n 2, 1) := by decide +kernel
theorem d_Mc_firstFit_53 : decode b_Mc_firstFit 53 = .ok (.iinc 3 (1), 3) := by decide +kernel
theorem d_Mc_firstFit_56 : decode b_Mc_firstFit 56 = .ok (.goto (-45), 3) := by decide +kernel
theorem d_Mc_firstFit_59 : decode b_Mc_firstFit 59 = .ok (.iconst (-1), 1) := by decide +kernel
theorem d_Mc_firstFit_60 : decode b_Mc_firstFit 60 = .ok (.ireturn, 1) := by decide +kernel
theorem d_Mc_nextEnd_0 : decode b_Mc_nextEnd 0 = .ok (.iconst (-1), 1) := by decide +kernel
theorem d_Mc_nextEnd_1 : decode b_Mc_nextEnd 1 = .ok (.istore_n 2, 1) := by decide +kernel
theorem d_Mc_nextEnd_2 : decode b_Mc_nextEnd 2 = .ok (.iconst 0, 1) := by decide +kernel
theorem d_Mc_nextEnd_3 : decode b_Mc_nextEnd 3 = .ok (.istore_n 3, 1) := by decide +kernel
theorem d_Mc_nextEnd_4 : decode b_Mc_nextEnd 4 = .ok (.iload_n 3, 1) := by decide +kernel
theorem d_Mc_nextEnd_5 : decode b_Mc_nextEnd 5 = .ok (.aload_n 0, 1) := by decide +kernel
theorem d_Mc_nextEnd_6 : decode b_Mc_nextEnd 6 = .ok (.getfield 62, 3) := by decide +kernel
theorem d_Mc_nextEnd_9 : decode b_Mc_nextEnd 9 = .ok (.if_icmp .ge (24), 3) := by decide +kernel
theorem d_Mc_nextEnd_12 : decode b_Mc_nextEnd 12 = .ok (.iload_n 2, 1) := by decide +kernel
theorem d_Mc_nextEnd_13 : decode b_Mc_nextEnd 13 = .ok (.aload_n 0, 1) := by decide +kernel
theorem d_Mc_nextEnd_14 : decode b_Mc_nextEnd 14 = .ok (.getfield 25, 3) := by decide +kernel
theorem d_Mc_nextEnd_17 : decode b_Mc_nextEnd 17 = .ok (.iload_n 3, 1) := by decide +kernel
theorem d_Mc_nextEnd_18 : decode b_Mc_nextEnd 18 = .ok (.aaload, 1) := by decide +kernel
theorem d_Mc_nextEnd_19 : decode b_Mc_nextEnd 19 = .ok (.getfield 123, 3) := by decide +kernel
theorem d_Mc_nextEnd_22 : decode b_Mc_nextEnd 22 = .ok (.iload_n 1, 1) := by decide +kernel
theorem d_Mc_nextEnd_23 : decode b_Mc_nextEnd 23 = .ok (.invokestatic 214, 3) := by decide +kernel
theorem d_Mc_nextEnd_26 : decode b_Mc_nextEnd 26 = .ok (.istore_n 2, 1) := by decide +kernel
theorem d_Mc_nextEnd_27 : decode b_Mc_nextEnd 27 = .ok (.iinc 3 (1), 3) := by decide +kernel
theorem d_Mc_nextEnd_30 : decode b_Mc_nextEnd 30 = .ok (.goto (-26), 3) := by decide +kernel
theorem d_Mc_nextEnd_33 : decode b_Mc_nextEnd 33 = .ok (.iconst 0, 1) := by decide +kernel
theorem d_Mc_nextEnd_34 : decode b_Mc_nextEnd 34 = .ok (.istore_n 3, 1) := by decide +kernel
theorem d_Mc_nextEnd_35 : decode b_Mc_nextEnd 35 = .ok (.iload_n 3, 1) := by decide +kernel
theorem d_Mc_nextEnd_36 : decode b_Mc_nextEnd 36 = .ok (.aload_n 0, 1) := by decide +kernel
theorem d_Mc_nextEnd_37 : decode b_Mc_nextEnd 37 = .ok (.getfield 65, 3) := by decide +kernel
theorem d_Mc_nextEnd_40 : decode b_Mc_nextEnd 40 = .ok (.if_icmp .ge (24), 3) := by decide +kernel
theorem d_Mc_nextEnd_43 : decode b_Mc_nextEnd 43 = .ok (.iload_n 2, 1) := by decide +kernel
theorem d_Mc_nextEnd_44 : decode b_Mc_nextEnd 44 = .ok (.aload_n 0, 1) := by decide +kernel
theorem d_Mc_nextEnd_45 : decode b_Mc_nextEnd 45 = .ok (.getfield 31, 3) := by decide +kernel
theorem d_Mc_nextEnd_48 : decode b_Mc_nextEnd 48 = .ok (.iload_n 3, 1) := by decide +kernel
theorem d_Mc_nextEnd_49 : decode b_Mc_nextEnd 49 = .ok (.aaload, 1) := by decide +kernel
theorem d_Mc_nextEnd_50 : decode b_Mc_nextEnd 50 = .ok (.getfield 129, 3) := by decide +kernel
theorem d_Mc_nextEnd_53 : decode b_Mc_nextEnd 53 = .ok (.iload_n 1, 1) := by decide +kernel
theorem d_Mc_nextEnd_54 : decode b_Mc_nextEnd 54 = .ok (.invokestatic 214, 3) := by decide +kernel
theorem d_Mc_nextEnd_57 : decode b_Mc_nextEnd 57 = .ok (.istore_n 2, 1) := by decide +kernel
theorem d_Mc_nextEnd_58 : decode b_Mc_nextEnd 58 = .ok (.iinc 3 (1), 3) := by decide +kernel
theorem d_Mc_nextEnd_61 : decode b_Mc_nextEnd 61 = .ok (.goto (-26), 3) := by decide +kernel
theorem d_Mc_nextEnd_64 : decode b_Mc_nextEnd 64 = .ok (.iload_n 2, 1) := by decide +kernel
theorem d_Mc_nextEnd_65 : decode b_Mc_nextEnd 65 = .ok (.ireturn, 1) := by decide +kernel
theorem d_Mc_nearer_0 : decode b_Mc_nearer 0 = .ok (.iload_n 1, 1) := by decide +kernel
theorem d_Mc_nearer_1 : decode b_Mc_nearer 1 = .ok (.iload_n 2, 1) := by decide +kernel
theorem d_Mc_nearer_2 : decode b_Mc_nearer 2 = .ok (.if_icmp .gt (5), 3) := by decide +kernel
theorem d_Mc_nearer_5 : decode b_Mc_nearer 5 = .ok (.iload_n 0, 1) := by decide +kernel
theorem d_Mc_nearer_6 : decode b_Mc_nearer 6 = .ok (.ireturn, 1) := by decide +kernel
theorem d_Mc_nearer_7 : decode b_Mc_nearer 7 = .ok (.iload_n 0, 1) := by decide +kernel
theorem d_Mc_nearer_8 : decode b_Mc_nearer 8 = .ok (.iconst (-1), 1) := by decide +kernel
theorem d_Mc_nearer_9 : decode b_Mc_nearer 9 = .ok (.if_icmp .ne (7), 3) := by decide +kernel
theorem d_Mc_nearer_12 : decode b_Mc_nearer 12 = .ok (.iload_n 1, 1) := by decide +kernel
theorem d_Mc_nearer_13 : decode b_Mc_nearer 13 = .ok (.goto (8), 3) := by decide +kernel
theorem d_Mc_nearer_16 : decode b_Mc_nearer 16 = .ok (.iload_n 0, 1) := by decide +kernel
theorem d_Mc_nearer_17 : decode b_Mc_nearer 17 = .ok (.iload_n 1, 1) := by decide +kernel
theorem d_Mc_nearer_18 : decode b_Mc_nearer 18 = .ok (.invokestatic 218, 3) := by decide +kernel
theorem d_Mc_nearer_21 : decode b_Mc_nearer 21 = .ok (.ireturn, 1) := by decide +kernel
theorem d_Mc_begin_0 : decode b_Mc_begin 0 = .ok (.aload_n 0, 1) := by decide +kernel
theorem d_Mc_begin_1 : decode b_Mc_begin 1 = .ok (.aload_n 1, 1) := by decide +kernel
theorem d_Mc_begin_2 : decode b_Mc_begin 2 = .ok (.getfield 152, 3) := by decide +kernel
theorem d_Mc_begin_5 : decode b_Mc_begin 5 = .ok (.invokevirtual 224, 3) := by decide +kernel
theorem d_Mc_begin_8 : decode b_Mc_begin 8 = .ok (.istore_n 2, 1) := by decide +kernel
theorem d_Mc_begin_9 : decode b_Mc_begin 9 = .ok (.aload_n 1, 1) := by decide +kernel
theorem d_Mc_begin_10 : decode b_Mc_begin 10 = .ok (.getfield 152, 3) := by decide +kernel
theorem d_Mc_begin_13 : decode b_Mc_begin 13 = .ok (.istore_n 3, 1) := by decide +kernel
theorem d_Mc_begin_14 : decode b_Mc_begin 14 = .ok (.iconst 0, 1) := by decide +kernel
theorem d_Mc_begin_15 : decode b_Mc_begin 15 = .ok (.istore 4, 2) := by decide +kernel
theorem d_Mc_begin_17 : decode b_Mc_begin 17 = .ok (.iload 4, 2) := by decide +kernel
theorem d_Mc_begin_19 : decode b_Mc_begin 19 = .ok (.aload_n 0, 1) := by decide +kernel
theorem d_Mc_begin_20 : decode b_Mc_begin 20 = .ok (.getfield 56, 3) := by decide +kernel
theorem d_Mc_begin_23 : decode b_Mc_begin 23 = .ok (.if_icmp .ge (65), 3) := by decide +kernel
theorem d_Mc_begin_26 : decode b_Mc_begin 26 = .ok (.iload_n 2, 1) := by decide +kernel
theorem d_Mc_begin_27 : decode b_Mc_begin 27 = .ok (.iload 4, 2) := by decide +kernel
theorem d_Mc_begin_29 : decode b_Mc_begin 29 = .ok (.ishr, 1) := by decide +kernel
theorem d_Mc_begin_30 : decode b_Mc_begin 30 = .ok (.iconst 1, 1) := by decide +kernel
theorem d_Mc_begin_31 : decode b_Mc_begin 31 = .ok (.iand, 1) := by decide +kernel
theorem d_Mc_begin_32 : decode b_Mc_begin 32 = .ok (.ifCond .eq (50), 3) := by decide +kernel
theorem d_Mc_begin_35 : decode b_Mc_begin 35 = .ok (.iload_n 3, 1) := by decide +kernel
theorem d_Mc_begin_36 : decode b_Mc_begin 36 = .ok (.aload_n 0, 1) := by decide +kernel
theorem d_Mc_begin_37 : decode b_Mc_begin 37 = .ok (.getfield 11, 3) := by decide +kernel
theorem d_Mc_begin_40 : decode b_Mc_begin 40 = .ok (.iload 4, 2) := by decide +kernel
theorem d_Mc_begin_42 : decode b_Mc_begin 42 = .ok (.aaload, 1) := by decide +kernel
theorem d_Mc_begin_43 : decode b_Mc_begin 43 = .ok (.getfield 90, 3) := by decide +kernel
theorem d_Mc_begin_46 : decode b_Mc_begin 46 = .ok (.invokestatic 218, 3) := by decide +kernel
theorem d_Mc_begin_49 : decode b_Mc_begin 49 = .ok (.istore 5, 2) := by decide +kernel
theorem d_Mc_begin_51 : decode b_Mc_begin 51 = .ok (.aload_n 0, 1) := by decide +kernel
theorem d_Mc_begin_52 : decode b_Mc_begin 52 = .ok (.getfield 11, 3) := by decide +kernel
theorem d_Mc_begin_55 : decode b_Mc_begin 55 = .ok (.iload 4, 2) := by decide +kernel
theorem d_Mc_begin_57 : decode b_Mc_begin 57 = .ok (.aaload, 1) := by decide +kernel
theorem d_Mc_begin_58 : decode b_Mc_begin 58 = .ok (.dup, 1) := by decide +kernel
theorem d_Mc_begin_59 : decode b_Mc_begin 59 = .ok (.getfield 90, 3) := by decide +kernel
theorem d_Mc_begin_62 : decode b_Mc_begin 62 = .ok (.iload 5, 2) := by decide +kernel
theorem d_Mc_begin_64 : decode b_Mc_begin 64 = .ok (.isub, 1) := by decide +kernel
theorem d_Mc_begin_65 : decode b_Mc_begin 65 = .ok (.putfield 90, 3) := by decide +kernel
theorem d_Mc_begin_68 : decode b_Mc_begin 68 = .ok (.aload_n 1, 1) := by decide +kernel
theorem d_Mc_begin_69 : decode b_Mc_begin 69 = .ok (.getfield 113, 3) := by decide +kernel
theorem d_Mc_begin_72 : decode b_Mc_begin 72 = .ok (.iload 4, 2) := by decide +kernel
theorem d_Mc_begin_74 : decode b_Mc_begin 74 = .ok (.iload 5, 2) := by decide +kernel
theorem d_Mc_begin_76 : decode b_Mc_begin 76 = .ok (.iastore, 1) := by decide +kernel
theorem d_Mc_begin_77 : decode b_Mc_begin 77 = .ok (.iload_n 3, 1) := by decide +kernel
theorem d_Mc_begin_78 : decode b_Mc_begin 78 = .ok (.iload 5, 2) := by decide +kernel
theorem d_Mc_begin_80 : decode b_Mc_begin 80 = .ok (.isub, 1) := by decide +kernel
theorem d_Mc_begin_81 : decode b_Mc_begin 81 = .ok (.istore_n 3, 1) := by decide +kernel
theorem d_Mc_begin_82 : decode b_Mc_begin 82 = .ok (.iinc 4 (1), 3) := by decide +kernel
theorem d_Mc_begin_85 : decode b_Mc_begin 85 = .ok (.goto (-68), 3) := by decide +kernel
theorem d_Mc_begin_88 : decode b_Mc_begin 88 = .ok (.aload_n 1, 1) := by decide +kernel
theorem d_Mc_begin_89 : decode b_Mc_begin 89 = .ok (.iconst 1, 1) := by decide +kernel
theorem d_Mc_begin_90 : decode b_Mc_begin 90 = .ok (.putfield 99, 3) := by decide +kernel
theorem d_Mc_begin_93 : decode b_Mc_begin 93 = .ok (.aload_n 1, 1) := by decide +kernel
theorem d_Mc_begin_94 : decode b_Mc_begin 94 = .ok (.aload_n 0, 1) := by decide +kernel
theorem d_Mc_begin_95 : decode b_Mc_begin 95 = .ok (.getfield 68, 3) := by decide +kernel
theorem d_Mc_begin_98 : decode b_Mc_begin 98 = .ok (.putfield 227, 3) := by decide +kernel
theorem d_Mc_begin_101 : decode b_Mc_begin 101 = .ok (.aload_n 1, 1) := by decide +kernel
theorem d_Mc_begin_102 : decode b_Mc_begin 102 = .ok (.aload_n 1, 1) := by decide +kernel
theorem d_Mc_begin_103 : decode b_Mc_begin 103 = .ok (.getfield 152, 3) := by decide +kernel
theorem d_Mc_begin_106 : decode b_Mc_begin 106 = .ok (.putfield 110, 3) := by decide +kernel
theorem d_Mc_begin_109 : decode b_Mc_begin 109 = .ok (.aload_n 1, 1) := by decide +kernel
theorem d_Mc_begin_110 : decode b_Mc_begin 110 = .ok (.aload_n 0, 1) := by decide +kernel
theorem d_Mc_begin_111 : decode b_Mc_begin 111 = .ok (.getfield 68, 3) := by decide +kernel
theorem d_Mc_begin_114 : decode b_Mc_begin 114 = .ok (.aload_n 1, 1) := by decide +kernel
theorem d_Mc_begin_115 : decode b_Mc_begin 115 = .ok (.invokevirtual 148, 3) := by decide +kernel
theorem d_Mc_begin_118 : decode b_Mc_begin 118 = .ok (.iadd, 1) := by decide +kernel
theorem d_Mc_begin_119 : decode b_Mc_begin 119 = .ok (.putfield 123, 3) := by decide +kernel
theorem d_Mc_begin_122 : decode b_Mc_begin 122 = .ok (.return_, 1) := by decide +kernel
theorem d_Mc_fewestRacks_0 : decode b_Mc_fewestRacks 0 = .ok (.iconst 0, 1) := by decide +kernel
theorem d_Mc_fewestRacks_1 : decode b_Mc_fewestRacks 1 = .ok (.istore_n 2, 1) := by decide +kernel
theorem d_Mc_fewestRacks_2 : decode b_Mc_fewestRacks 2 = .ok (.iconst 1, 1) := by decide +kernel
theorem d_Mc_fewestRacks_3 : decode b_Mc_fewestRacks 3 = .ok (.istore_n 3, 1) := by decide +kernel
theorem d_Mc_fewestRacks_4 : decode b_Mc_fewestRacks 4 = .ok (.iload_n 3, 1) := by decide +kernel
theorem d_Mc_fewestRacks_5 : decode b_Mc_fewestRacks 5 = .ok (.iconst 1, 1) := by decide +kernel
theorem d_Mc_fewestRacks_6 : decode b_Mc_fewestRacks 6 = .ok (.aload_n 0, 1) := by decide +kernel
theorem d_Mc_fewestRacks_7 : decode b_Mc_fewestRacks 7 = .ok (.getfield 56, 3) := by decide +kernel
theorem d_Mc_fewestRacks_10 : decode b_Mc_fewestRacks 10 = .ok (.ishl, 1) := by decide +kernel
theorem d_Mc_fewestRacks_11 : decode b_Mc_fewestRacks 11 = .ok (.if_icmp .ge (47), 3) := by decide +kernel
theorem d_Mc_fewestRacks_14 : decode b_Mc_fewestRacks 14 = .ok (.iload_n 2, 1) := by decide +kernel
theorem d_Mc_fewestRacks_15 : decode b_Mc_fewestRacks 15 = .ok (.ifCond .eq (14), 3) := by decide +kernel
theorem d_Mc_fewestRacks_18 : decode b_Mc_fewestRacks 18 = .ok (.iload_n 3, 1) := by decide +kernel
theorem d_Mc_fewestRacks_19 : decode b_Mc_fewestRacks 19 = .ok (.invokestatic 230, 3) := by decide +kernel
theorem d_Mc_fewestRacks_22 : decode b_Mc_fewestRacks 22 = .ok (.iload_n 2, 1) := by decide +kernel
theorem d_Mc_fewestRacks_23 : decode b_Mc_fewestRacks 23 = .ok (.invokestatic 230, 3) := by decide +kernel
theorem d_Mc_fewestRacks_26 : decode b_Mc_fewestRacks 26 = .ok (.if_icmp .ge (7), 3) := by decide +kernel
theorem d_Mc_fewestRacks_29 : decode b_Mc_fewestRacks 29 = .ok (.iconst 1, 1) := by decide +kernel
theorem d_Mc_fewestRacks_30 : decode b_Mc_fewestRacks 30 = .ok (.goto (4), 3) := by decide +kernel
theorem d_Mc_fewestRacks_33 : decode b_Mc_fewestRacks 33 = .ok (.iconst 0, 1) := by decide +kernel
theorem d_Mc_fewestRacks_34 : decode b_Mc_fewestRacks 34 = .ok (.istore 4, 2) := by decide +kernel
theorem d_Mc_fewestRacks_36 : decode b_Mc_fewestRacks 36 = .ok (.iload 4, 2) := by decide +kernel
theorem d_Mc_fewestRacks_38 : decode b_Mc_fewestRacks 38 = .ok (.ifCond .eq (14), 3) := by decide +kernel
theorem d_Mc_fewestRacks_41 : decode b_Mc_fewestRacks 41 = .ok (.aload_n 0, 1) := by decide +kernel
theorem d_Mc_fewestRacks_42 : decode b_Mc_fewestRacks 42 = .ok (.iload_n 3, 1) := by decide +kernel
theorem d_Mc_fewestRacks_43 : decode b_Mc_fewestRacks 43 = .ok (.invokevirtual 235, 3) := by decide +kernel
theorem d_Mc_fewestRacks_46 : decode b_Mc_fewestRacks 46 = .ok (.iload_n 1, 1) := by decide +kernel
theorem d_Mc_fewestRacks_47 : decode b_Mc_fewestRacks 47 = .ok (.if_icmp .lt (5), 3) := by decide +kernel
theorem d_Mc_fewestRacks_50 : decode b_Mc_fewestRacks 50 = .ok (.iload_n 3, 1) := by decide +kernel
theorem d_Mc_fewestRacks_51 : decode b_Mc_fewestRacks 51 = .ok (.istore_n 2, 1) := by decide +kernel
theorem d_Mc_fewestRacks_52 : decode b_Mc_fewestRacks 52 = .ok (.iinc 3 (1), 3) := by decide +kernel
theorem d_Mc_fewestRacks_55 : decode b_Mc_fewestRacks 55 = .ok (.goto (-51), 3) := by decide +kernel
theorem d_Mc_fewestRacks_58 : decode b_Mc_fewestRacks 58 = .ok (.iload_n 2, 1) := by decide +kernel
theorem d_Mc_fewestRacks_59 : decode b_Mc_fewestRacks 59 = .ok (.ireturn, 1) := by decide +kernel
theorem d_Mc_unusedOn_0 : decode b_Mc_unusedOn 0 = .ok (.iconst 0, 1) := by decide +kernel
theorem d_Mc_unusedOn_1 : decode b_Mc_unusedOn 1 = .ok (.istore_n 2, 1) := by decide +kernel
theorem d_Mc_unusedOn_2 : decode b_Mc_unusedOn 2 = .ok (.iconst 0, 1) := by decide +kernel
theorem d_Mc_unusedOn_3 : decode b_Mc_unusedOn 3 = .ok (.istore_n 3, 1) := by decide +kernel
theorem d_Mc_unusedOn_4 : decode b_Mc_unusedOn 4 = .ok (.iload_n 3, 1) := by decide +kernel
theorem d_Mc_unusedOn_5 : decode b_Mc_unusedOn 5 = .ok (.aload_n 0, 1) := by decide +kernel
theorem d_Mc_unusedOn_6 : decode b_Mc_unusedOn 6 = .ok (.getfield 56, 3) := by decide +kernel
theorem d_Mc_unusedOn_9 : decode b_Mc_unusedOn 9 = .ok (.if_icmp .ge (43), 3) := by decide +kernel
theorem d_Mc_unusedOn_12 : decode b_Mc_unusedOn 12 = .ok (.iload_n 1, 1) := by decide +kernel
theorem d_Mc_unusedOn_13 : decode b_Mc_unusedOn 13 = .ok (.iload_n 3, 1) := by decide +kernel
theorem d_Mc_unusedOn_14 : decode b_Mc_unusedOn 14 = .ok (.ishr, 1) := by decide +kernel
theorem d_Mc_unusedOn_15 : decode b_Mc_unusedOn 15 = .ok (.iconst 1, 1) := by decide +kernel
theorem d_Mc_unusedOn_16 : decode b_Mc_unusedOn 16 = .ok (.iand, 1) := by decide +kernel
theorem d_Mc_unusedOn_17 : decode b_Mc_unusedOn 17 = .ok (.ifCond .eq (29), 3) := by decide +kernel
theorem d_Mc_unusedOn_20 : decode b_Mc_unusedOn 20 = .ok (.aload_n 0, 1) := by decide +kernel
theorem d_Mc_unusedOn_21 : decode b_Mc_unusedOn 21 = .ok (.getfield 11, 3) := by decide +kernel
theorem d_Mc_unusedOn_24 : decode b_Mc_unusedOn 24 = .ok (.iload_n 3, 1) := by decide +kernel
theorem d_Mc_unusedOn_25 : decode b_Mc_unusedOn 25 = .ok (.aaload, 1) := by decide +kernel
theorem d_Mc_unusedOn_26 : decode b_Mc_unusedOn 26 = .ok (.getfield 102, 3) := by decide +kernel
theorem d_Mc_unusedOn_29 : decode b_Mc_unusedOn 29 = .ok (.ifCond .eq (5), 3) := by decide +kernel
theorem d_Mc_unusedOn_32 : decode b_Mc_unusedOn 32 = .ok (.iconst 0, 1) := by decide +kernel
theorem d_Mc_unusedOn_33 : decode b_Mc_unusedOn 33 = .ok (.ireturn, 1) := by decide +kernel
theorem d_Mc_unusedOn_34 : decode b_Mc_unusedOn 34 = .ok (.iload_n 2, 1) := by decide +kernel
theorem d_Mc_unusedOn_35 : decode b_Mc_unusedOn 35 = .ok (.aload_n 0, 1) := by decide +kernel
theorem d_Mc_unusedOn_36 : decode b_Mc_unusedOn 36 = .ok (.getfield 11, 3) := by decide +kernel
theorem d_Mc_unusedOn_39 : decode b_Mc_unusedOn 39 = .ok (.iload_n 3, 1) := by decide +kernel
theorem d_Mc_unusedOn_40 : decode b_Mc_unusedOn 40 = .ok (.aaload, 1) := by decide +kernel
theorem d_Mc_unusedOn_41 : decode b_Mc_unusedOn 41 = .ok (.getfield 90, 3) := by decide +kernel
theorem d_Mc_unusedOn_44 : decode b_Mc_unusedOn 44 = .ok (.iadd, 1) := by decide +kernel
theorem d_Mc_unusedOn_45 : decode b_Mc_unusedOn 45 = .ok (.istore_n 2, 1) := by decide +kernel
theorem d_Mc_unusedOn_46 : decode b_Mc_unusedOn 46 = .ok (.iinc 3 (1), 3) := by decide +kernel
theorem d_Mc_unusedOn_49 : decode b_Mc_unusedOn 49 = .ok (.goto (-45), 3) := by decide +kernel
theorem d_Mc_unusedOn_52 : decode b_Mc_unusedOn 52 = .ok (.iload_n 2, 1) := by decide +kernel
theorem d_Mc_unusedOn_53 : decode b_Mc_unusedOn 53 = .ok (.ireturn, 1) := by decide +kernel
theorem d_Mc_runJobs_0 : decode b_Mc_runJobs 0 = .ok (.iconst 0, 1) := by decide +kernel
theorem d_Mc_runJobs_1 : decode b_Mc_runJobs 1 = .ok (.istore_n 2, 1) := by decide +kernel
theorem d_Mc_runJobs_2 : decode b_Mc_runJobs 2 = .ok (.iload_n 2, 1) := by decide +kernel
theorem d_Mc_runJobs_3 : decode b_Mc_runJobs 3 = .ok (.aload_n 0, 1) := by decide +kernel
theorem d_Mc_runJobs_4 : decode b_Mc_runJobs 4 = .ok (.getfield 62, 3) := by decide +kernel
theorem d_Mc_runJobs_7 : decode b_Mc_runJobs 7 = .ok (.if_icmp .ge (33), 3) := by decide +kernel
theorem d_Mc_runJobs_10 : decode b_Mc_runJobs 10 = .ok (.aload_n 0, 1) := by decide +kernel
theorem d_Mc_runJobs_11 : decode b_Mc_runJobs 11 = .ok (.getfield 25, 3) := by decide +kernel
theorem d_Mc_runJobs_14 : decode b_Mc_runJobs 14 = .ok (.iload_n 2, 1) := by decide +kernel
theorem d_Mc_runJobs_15 : decode b_Mc_runJobs 15 = .ok (.aaload, 1) := by decide +kernel
theorem d_Mc_runJobs_16 : decode b_Mc_runJobs 16 = .ok (.getfield 99, 3) := by decide +kernel
theorem d_Mc_runJobs_19 : decode b_Mc_runJobs 19 = .ok (.iconst 1, 1) := by decide +kernel
theorem d_Mc_runJobs_20 : decode b_Mc_runJobs 20 = .ok (.if_icmp .ne (14), 3) := by decide +kernel
theorem d_Mc_runJobs_23 : decode b_Mc_runJobs 23 = .ok (.aload_n 0, 1) := by decide +kernel
theorem d_Mc_runJobs_24 : decode b_Mc_runJobs 24 = .ok (.aload_n 0, 1) := by decide +kernel
theorem d_Mc_runJobs_25 : decode b_Mc_runJobs 25 = .ok (.getfield 25, 3) := by decide +kernel
theorem d_Mc_runJobs_28 : decode b_Mc_runJobs 28 = .ok (.iload_n 2, 1) := by decide +kernel
theorem d_Mc_runJobs_29 : decode b_Mc_runJobs 29 = .ok (.aaload, 1) := by decide +kernel
theorem d_Mc_runJobs_30 : decode b_Mc_runJobs 30 = .ok (.iload_n 1, 1) := by decide +kernel
theorem d_Mc_runJobs_31 : decode b_Mc_runJobs 31 = .ok (.invokevirtual 238, 3) := by decide +kernel
theorem d_Mc_runJobs_34 : decode b_Mc_runJobs 34 = .ok (.iinc 2 (1), 3) := by decide +kernel
theorem d_Mc_runJobs_37 : decode b_Mc_runJobs 37 = .ok (.goto (-35), 3) := by decide +kernel
theorem d_Mc_runJobs_40 : decode b_Mc_runJobs 40 = .ok (.return_, 1) := by decide +kernel
theorem d_Mc_runOne_0 : decode b_Mc_runOne 0 = .ok (.aload_n 0, 1) := by decide +kernel
theorem d_Mc_runOne_1 : decode b_Mc_runOne 1 = .ok (.getfield 19, 3) := by decide +kernel
theorem d_Mc_runOne_4 : decode b_Mc_runOne 4 = .ok (.aload_n 1, 1) := by decide +kernel
theorem d_Mc_runOne_5 : decode b_Mc_runOne 5 = .ok (.getfield 190, 3) := by decide +kernel
theorem d_Mc_runOne_8 : decode b_Mc_runOne 8 = .ok (.aaload, 1) := by decide +kernel
theorem d_Mc_runOne_9 : decode b_Mc_runOne 9 = .ok (.dup, 1) := by decide +kernel
theorem d_Mc_runOne_10 : decode b_Mc_runOne 10 = .ok (.getfield 242, 3) := by decide +kernel
theorem d_Mc_runOne_13 : decode b_Mc_runOne 13 = .ok (.aload_n 1, 1) := by decide +kernel
theorem d_Mc_runOne_14 : decode b_Mc_runOne 14 = .ok (.getfield 152, 3) := by decide +kernel
theorem d_Mc_runOne_17 : decode b_Mc_runOne 17 = .ok (.iadd, 1) := by decide +kernel
theorem d_Mc_runOne_18 : decode b_Mc_runOne 18 = .ok (.putfield 242, 3) := by decide +kernel
theorem d_Mc_runOne_21 : decode b_Mc_runOne 21 = .ok (.iload_n 2, 1) := by decide +kernel
theorem d_Mc_runOne_22 : decode b_Mc_runOne 22 = .ok (.ifCond .eq (10), 3) := by decide +kernel
theorem d_Mc_runOne_25 : decode b_Mc_runOne 25 = .ok (.aload_n 1, 1) := by decide +kernel
theorem d_Mc_runOne_26 : decode b_Mc_runOne 26 = .ok (.invokevirtual 148, 3) := by decide +kernel
theorem d_Mc_runOne_29 : decode b_Mc_runOne 29 = .ok (.goto (12), 3) := by decide +kernel
theorem d_Mc_runOne_32 : decode b_Mc_runOne 32 = .ok (.aload_n 1, 1) := by decide +kernel
theorem d_Mc_runOne_33 : decode b_Mc_runOne 33 = .ok (.getfield 245, 3) := by decide +kernel
theorem d_Mc_runOne_36 : decode b_Mc_runOne 36 = .ok (.aload_n 1, 1) := by decide +kernel
theorem d_Mc_runOne_37 : decode b_Mc_runOne 37 = .ok (.getfield 248, 3) := by decide +kernel
theorem d_Mc_runOne_40 : decode b_Mc_runOne 40 = .ok (.isub, 1) := by decide +kernel
theorem d_Mc_runOne_41 : decode b_Mc_runOne 41 = .ok (.istore_n 3, 1) := by decide +kernel
theorem d_Mc_runOne_42 : decode b_Mc_runOne 42 = .ok (.aload_n 1, 1) := by decide +kernel
theorem d_Mc_runOne_43 : decode b_Mc_runOne 43 = .ok (.aload_n 0, 1) := by decide +kernel
theorem d_Mc_runOne_44 : decode b_Mc_runOne 44 = .ok (.getfield 68, 3) := by decide +kernel
theorem d_Mc_runOne_47 : decode b_Mc_runOne 47 = .ok (.iconst 1, 1) := by decide +kernel
theorem d_Mc_runOne_48 : decode b_Mc_runOne 48 = .ok (.iadd, 1) := by decide +kernel
theorem d_Mc_runOne_49 : decode b_Mc_runOne 49 = .ok (.invokevirtual 251, 3) := by decide +kernel
theorem d_Mc_runOne_52 : decode b_Mc_runOne 52 = .ok (.iload_n 3, 1) := by decide +kernel
theorem d_Mc_runOne_53 : decode b_Mc_runOne 53 = .ok (.if_icmp .lt (23), 3) := by decide +kernel
theorem d_Mc_runOne_56 : decode b_Mc_runOne 56 = .ok (.aload_n 0, 1) := by decide +kernel
theorem d_Mc_runOne_57 : decode b_Mc_runOne 57 = .ok (.aload_n 1, 1) := by decide +kernel
theorem d_Mc_runOne_58 : decode b_Mc_runOne 58 = .ok (.invokevirtual 120, 3) := by decide +kernel
theorem d_Mc_runOne_61 : decode b_Mc_runOne 61 = .ok (.aload_n 1, 1) := by decide +kernel
theorem d_Mc_runOne_62 : decode b_Mc_runOne 62 = .ok (.iconst 2, 1) := by decide +kernel
theorem d_Mc_runOne_63 : decode b_Mc_runOne 63 = .ok (.putfield 99, 3) := by decide +kernel
theorem d_Mc_runOne_66 : decode b_Mc_runOne 66 = .ok (.aload_n 1, 1) := by decide +kernel
theorem d_Mc_runOne_67 : decode b_Mc_runOne 67 = .ok (.aload_n 0, 1) := by decide +kernel
theorem d_Mc_runOne_68 : decode b_Mc_runOne 68 = .ok (.getfield 68, 3) := by decide +kernel
theorem d_Mc_runOne_71 : decode b_Mc_runOne 71 = .ok (.iconst 1, 1) := by decide +kernel
theorem d_Mc_runOne_72 : decode b_Mc_runOne 72 = .ok (.iadd, 1) := by decide +kernel
theorem d_Mc_runOne_73 : decode b_Mc_runOne 73 = .ok (.putfield 254, 3) := by decide +kernel
theorem d_Mc_runOne_76 : decode b_Mc_runOne 76 = .ok (.return_, 1) := by decide +kernel
theorem d_Mc_halveUse_0 : decode b_Mc_halveUse 0 = .ok (.iconst 0, 1) := by decide +kernel
theorem d_Mc_halveUse_1 : decode b_Mc_halveUse 1 = .ok (.istore_n 1, 1) := by decide +kernel
theorem d_Mc_halveUse_2 : decode b_Mc_halveUse 2 = .ok (.iload_n 1, 1) := by decide +kernel
theorem d_Mc_halveUse_3 : decode b_Mc_halveUse 3 = .ok (.aload_n 0, 1) := by decide +kernel
theorem d_Mc_halveUse_4 : decode b_Mc_halveUse 4 = .ok (.getfield 59, 3) := by decide +kernel
theorem d_Mc_halveUse_7 : decode b_Mc_halveUse 7 = .ok (.if_icmp .ge (24), 3) := by decide +kernel
theorem d_Mc_halveUse_10 : decode b_Mc_halveUse 10 = .ok (.aload_n 0, 1) := by decide +kernel
theorem d_Mc_halveUse_11 : decode b_Mc_halveUse 11 = .ok (.getfield 19, 3) := by decide +kernel
theorem d_Mc_halveUse_14 : decode b_Mc_halveUse 14 = .ok (.iload_n 1, 1) := by decide +kernel
theorem d_Mc_halveUse_15 : decode b_Mc_halveUse 15 = .ok (.aaload, 1) := by decide +kernel
theorem d_Mc_halveUse_16 : decode b_Mc_halveUse 16 = .ok (.dup, 1) := by decide +kernel
theorem d_Mc_halveUse_17 : decode b_Mc_halveUse 17 = .ok (.getfield 242, 3) := by decide +kernel
theorem d_Mc_halveUse_20 : decode b_Mc_halveUse 20 = .ok (.iconst 2, 1) := by decide +kernel
theorem d_Mc_halveUse_21 : decode b_Mc_halveUse 21 = .ok (.idiv, 1) := by decide +kernel
theorem d_Mc_halveUse_22 : decode b_Mc_halveUse 22 = .ok (.putfield 242, 3) := by decide +kernel
theorem d_Mc_halveUse_25 : decode b_Mc_halveUse 25 = .ok (.iinc 1 (1), 3) := by decide +kernel
theorem d_Mc_halveUse_28 : decode b_Mc_halveUse 28 = .ok (.goto (-26), 3) := by decide +kernel
theorem d_Mc_halveUse_31 : decode b_Mc_halveUse 31 = .ok (.return_, 1) := by decide +kernel
end
section
theorem d_Md_init_0 : decode b_Md_init 0 = .ok (.aload_n 0, 1) := by decide +kernel
theorem d_Md_init_1 : decode b_Md_init 1 = .ok (.invokespecial 1, 3) := by decide +kernel
theorem d_Md_init_4 : decode b_Md_init 4 = .ok (.aload_n 0, 1) := by decide +kernel
theorem d_Md_init_5 : decode b_Md_init 5 = .ok (.bipush (100), 2) := by decide +kernel
theorem d_Md_init_7 : decode b_Md_init 7 = .ok (.putfield 7, 3) := by decide +kernel
theorem d_Md_init_10 : decode b_Md_init 10 = .ok (.aload_n 0, 1) := by decide +kernel
theorem d_Md_init_11 : decode b_Md_init 11 = .ok (.bipush (10), 2) := by decide +kernel
theorem d_Md_init_13 : decode b_Md_init 13 = .ok (.putfield 13, 3) := by decide +kernel
theorem d_Md_init_16 : decode b_Md_init 16 = .ok (.aload_n 0, 1) := by decide +kernel
theorem d_Md_init_17 : decode b_Md_init 17 = .ok (.iconst 4, 1) := by decide +kernel
theorem d_Md_init_18 : decode b_Md_init 18 = .ok (.newarray .int, 2) := by decide +kernel
theorem d_Md_init_20 : decode b_Md_init 20 = .ok (.putfield 16, 3) := by decide +kernel
theorem d_Md_init_23 : decode b_Md_init 23 = .ok (.aload_n 0, 1) := by decide +kernel
theorem d_Md_init_24 : decode b_Md_init 24 = .ok (.iconst 4, 1) := by decide +kernel
theorem d_Md_init_25 : decode b_Md_init 25 = .ok (.newarray .boolean, 2) := by decide +kernel
theorem d_Md_init_27 : decode b_Md_init 27 = .ok (.putfield 20, 3) := by decide +kernel
theorem d_Md_init_30 : decode b_Md_init 30 = .ok (.aload_n 0, 1) := by decide +kernel
theorem d_Md_init_31 : decode b_Md_init 31 = .ok (.bipush (6), 2) := by decide +kernel
theorem d_Md_init_33 : decode b_Md_init 33 = .ok (.newarray .int, 2) := by decide +kernel
theorem d_Md_init_35 : decode b_Md_init 35 = .ok (.putfield 24, 3) := by decide +kernel
theorem d_Md_init_38 : decode b_Md_init 38 = .ok (.aload_n 0, 1) := by decide +kernel
theorem d_Md_init_39 : decode b_Md_init 39 = .ok (.bipush (6), 2) := by decide +kernel
theorem d_Md_init_41 : decode b_Md_init 41 = .ok (.newarray .int, 2) := by decide +kernel
theorem d_Md_init_43 : decode b_Md_init 43 = .ok (.putfield 27, 3) := by decide +kernel
theorem d_Md_init_46 : decode b_Md_init 46 = .ok (.aload_n 0, 1) := by decide +kernel
theorem d_Md_init_47 : decode b_Md_init 47 = .ok (.bipush (30), 2) := by decide +kernel
theorem d_Md_init_49 : decode b_Md_init 49 = .ok (.newarray .int, 2) := by decide +kernel
theorem d_Md_init_51 : decode b_Md_init 51 = .ok (.putfield 30, 3) := by decide +kernel
theorem d_Md_init_54 : decode b_Md_init 54 = .ok (.aload_n 0, 1) := by decide +kernel
theorem d_Md_init_55 : decode b_Md_init 55 = .ok (.bipush (30), 2) := by decide +kernel
theorem d_Md_init_57 : decode b_Md_init 57 = .ok (.newarray .int, 2) := by decide +kernel
theorem d_Md_init_59 : decode b_Md_init 59 = .ok (.putfield 33, 3) := by decide +kernel
theorem d_Md_init_62 : decode b_Md_init 62 = .ok (.aload_n 0, 1) := by decide +kernel
theorem d_Md_init_63 : decode b_Md_init 63 = .ok (.bipush (30), 2) := by decide +kernel
theorem d_Md_init_65 : decode b_Md_init 65 = .ok (.newarray .int, 2) := by decide +kernel
theorem d_Md_init_67 : decode b_Md_init 67 = .ok (.putfield 36, 3) := by decide +kernel
theorem d_Md_init_70 : decode b_Md_init 70 = .ok (.aload_n 0, 1) := by decide +kernel
theorem d_Md_init_71 : decode b_Md_init 71 = .ok (.bipush (30), 2) := by decide +kernel
theorem d_Md_init_73 : decode b_Md_init 73 = .ok (.newarray .int, 2) := by decide +kernel
theorem d_Md_init_75 : decode b_Md_init 75 = .ok (.putfield 39, 3) := by decide +kernel
theorem d_Md_init_78 : decode b_Md_init 78 = .ok (.aload_n 0, 1) := by decide +kernel
theorem d_Md_init_79 : decode b_Md_init 79 = .ok (.bipush (30), 2) := by decide +kernel
theorem d_Md_init_81 : decode b_Md_init 81 = .ok (.newarray .int, 2) := by decide +kernel
theorem d_Md_init_83 : decode b_Md_init 83 = .ok (.putfield 42, 3) := by decide +kernel
theorem d_Md_init_86 : decode b_Md_init 86 = .ok (.aload_n 0, 1) := by decide +kernel
theorem d_Md_init_87 : decode b_Md_init 87 = .ok (.bipush (30), 2) := by decide +kernel
theorem d_Md_init_89 : decode b_Md_init 89 = .ok (.newarray .int, 2) := by decide +kernel
theorem d_Md_init_91 : decode b_Md_init 91 = .ok (.putfield 45, 3) := by decide +kernel
theorem d_Md_init_94 : decode b_Md_init 94 = .ok (.aload_n 0, 1) := by decide +kernel
theorem d_Md_init_95 : decode b_Md_init 95 = .ok (.bipush (30), 2) := by decide +kernel
theorem d_Md_init_97 : decode b_Md_init 97 = .ok (.newarray .int, 2) := by decide +kernel
theorem d_Md_init_99 : decode b_Md_init 99 = .ok (.putfield 48, 3) := by decide +kernel
theorem d_Md_init_102 : decode b_Md_init 102 = .ok (.aload_n 0, 1) := by decide +kernel
theorem d_Md_init_103 : decode b_Md_init 103 = .ok (.bipush (30), 2) := by decide +kernel
theorem d_Md_init_105 : decode b_Md_init 105 = .ok (.newarray .int, 2) := by decide +kernel
theorem d_Md_init_107 : decode b_Md_init 107 = .ok (.putfield 51, 3) := by decide +kernel
theorem d_Md_init_110 : decode b_Md_init 110 = .ok (.aload_n 0, 1) := by decide +kernel
theorem d_Md_init_111 : decode b_Md_init 111 = .ok (.bipush (30), 2) := by decide +kernel
theorem d_Md_init_113 : decode b_Md_init 113 = .ok (.newarray .int, 2) := by decide +kernel
theorem d_Md_init_115 : decode b_Md_init 115 = .ok (.putfield 54, 3) := by decide +kernel
theorem d_Md_init_118 : decode b_Md_init 118 = .ok (.aload_n 0, 1) := by decide +kernel
theorem d_Md_init_119 : decode b_Md_init 119 = .ok (.bipush (30), 2) := by decide +kernel
theorem d_Md_init_121 : decode b_Md_init 121 = .ok (.newarray .int, 2) := by decide +kernel
theorem d_Md_init_123 : decode b_Md_init 123 = .ok (.putfield 57, 3) := by decide +kernel
theorem d_Md_init_126 : decode b_Md_init 126 = .ok (.aload_n 0, 1) := by decide +kernel
theorem d_Md_init_127 : decode b_Md_init 127 = .ok (.bipush (30), 2) := by decide +kernel
theorem d_Md_init_129 : decode b_Md_init 129 = .ok (.newarray .int, 2) := by decide +kernel
theorem d_Md_init_131 : decode b_Md_init 131 = .ok (.putfield 60, 3) := by decide +kernel
theorem d_Md_init_134 : decode b_Md_init 134 = .ok (.aload_n 0, 1) := by decide +kernel
theorem d_Md_init_135 : decode b_Md_init 135 = .ok (.bipush (30), 2) := by decide +kernel
theorem d_Md_init_137 : decode b_Md_init 137 = .ok (.newarray .int, 2) := by decide +kernel
theorem d_Md_init_139 : decode b_Md_init 139 = .ok (.putfield 63, 3) := by decide +kernel
theorem d_Md_init_142 : decode b_Md_init 142 = .ok (.aload_n 0, 1) := by decide +kernel
theorem d_Md_init_143 : decode b_Md_init 143 = .ok (.bipush (30), 2) := by decide +kernel
theorem d_Md_init_145 : decode b_Md_init 145 = .ok (.newarray .int, 2) := by decide +kernel
theorem d_Md_init_147 : decode b_Md_init 147 = .ok (.putfield 66, 3) := by decide +kernel
theorem d_Md_init_150 : decode b_Md_init 150 = .ok (.aload_n 0, 1) := by decide +kernel
theorem d_Md_init_151 : decode b_Md_init 151 = .ok (.bipush (120), 2) := by decide +kernel
theorem d_Md_init_153 : decode b_Md_init 153 = .ok (.newarray .int, 2) := by decide +kernel
theorem d_Md_init_155 : decode b_Md_init 155 = .ok (.putfield 69, 3) := by decide +kernel
theorem d_Md_init_158 : decode b_Md_init 158 = .ok (.aload_n 0, 1) := by decide +kernel
theorem d_Md_init_159 : decode b_Md_init 159 = .ok (.bipush (8), 2) := by decide +kernel
theorem d_Md_init_161 : decode b_Md_init 161 = .ok (.newarray .int, 2) := by decide +kernel
theorem d_Md_init_163 : decode b_Md_init 163 = .ok (.putfield 72, 3) := by decide +kernel
theorem d_Md_init_166 : decode b_Md_init 166 = .ok (.aload_n 0, 1) := by decide +kernel
theorem d_Md_init_167 : decode b_Md_init 167 = .ok (.bipush (8), 2) := by decide +kernel
theorem d_Md_init_169 : decode b_Md_init 169 = .ok (.newarray .int, 2) := by decide +kernel
theorem d_Md_init_171 : decode b_Md_init 171 = .ok (.putfield 75, 3) := by decide +kernel
theorem d_Md_init_174 : decode b_Md_init 174 = .ok (.aload_n 0, 1) := by decide +kernel
theorem d_Md_init_175 : decode b_Md_init 175 = .ok (.bipush (8), 2) := by decide +kernel
theorem d_Md_init_177 : decode b_Md_init 177 = .ok (.newarray .int, 2) := by decide +kernel
theorem d_Md_init_179 : decode b_Md_init 179 = .ok (.putfield 78, 3) := by decide +kernel
theorem d_Md_init_182 : decode b_Md_init 182 = .ok (.aload_n 0, 1) := by decide +kernel
theorem d_Md_init_183 : decode b_Md_init 183 = .ok (.iconst (-1), 1) := by decide +kernel
theorem d_Md_init_184 : decode b_Md_init 184 = .ok (.putfield 81, 3) := by decide +kernel
theorem d_Md_init_187 : decode b_Md_init 187 = .ok (.aload_n 0, 1) := by decide +kernel
theorem d_Md_init_188 : decode b_Md_init 188 = .ok (.iconst (-1), 1) := by decide +kernel
theorem d_Md_init_189 : decode b_Md_init 189 = .ok (.putfield 84, 3) := by decide +kernel
theorem d_Md_init_192 : decode b_Md_init 192 = .ok (.aload_n 0, 1) := by decide +kernel
theorem d_Md_init_193 : decode b_Md_init 193 = .ok (.sipush (260), 3) := by decide +kernel
theorem d_Md_init_196 : decode b_Md_init 196 = .ok (.newarray .int, 2) := by decide +kernel
theorem d_Md_init_198 : decode b_Md_init 198 = .ok (.putfield 87, 3) := by decide +kernel
theorem d_Md_init_201 : decode b_Md_init 201 = .ok (.aload_n 0, 1) := by decide +kernel
theorem d_Md_init_202 : decode b_Md_init 202 = .ok (.sipush (260), 3) := by decide +kernel
theorem d_Md_init_205 : decode b_Md_init 205 = .ok (.newarray .int, 2) := by decide +kernel
theorem d_Md_init_207 : decode b_Md_init 207 = .ok (.putfield 90, 3) := by decide +kernel
theorem d_Md_init_210 : decode b_Md_init 210 = .ok (.aload_n 0, 1) := by decide +kernel
theorem d_Md_init_211 : decode b_Md_init 211 = .ok (.bipush (30), 2) := by decide +kernel
theorem d_Md_init_213 : decode b_Md_init 213 = .ok (.newarray .int, 2) := by decide +kernel
theorem d_Md_init_215 : decode b_Md_init 215 = .ok (.putfield 93, 3) := by decide +kernel
theorem d_Md_init_218 : decode b_Md_init 218 = .ok (.aload_n 0, 1) := by decide +kernel
theorem d_Md_init_219 : decode b_Md_init 219 = .ok (.bipush (30), 2) := by decide +kernel
theorem d_Md_init_221 : decode b_Md_init 221 = .ok (.newarray .int, 2) := by decide +kernel
theorem d_Md_init_223 : decode b_Md_init 223 = .ok (.putfield 96, 3) := by decide +kernel
theorem d_Md_init_226 : decode b_Md_init 226 = .ok (.aload_n 0, 1) := by decide +kernel
theorem d_Md_init_227 : decode b_Md_init 227 = .ok (.bipush (30), 2) := by decide +kernel
theorem d_Md_init_229 : decode b_Md_init 229 = .ok (.newarray .int, 2) := by decide +kernel
theorem d_Md_init_231 : decode b_Md_init 231 = .ok (.putfield 99, 3) := by decide +kernel
theorem d_Md_init_234 : decode b_Md_init 234 = .ok (.aload_n 0, 1) := by decide +kernel
theorem d_Md_init_235 : decode b_Md_init 235 = .ok (.bipush (30), 2) := by decide +kernel
theorem d_Md_init_237 : decode b_Md_init 237 = .ok (.newarray .int, 2) := by decide +kernel
theorem d_Md_init_239 : decode b_Md_init 239 = .ok (.putfield 102, 3) := by decide +kernel
theorem d_Md_init_242 : decode b_Md_init 242 = .ok (.aload_n 0, 1) := by decide +kernel
theorem d_Md_init_243 : decode b_Md_init 243 = .ok (.bipush (30), 2) := by decide +kernel
theorem d_Md_init_245 : decode b_Md_init 245 = .ok (.newarray .int, 2) := by decide +kernel
theorem d_Md_init_247 : decode b_Md_init 247 = .ok (.putfield 105, 3) := by decide +kernel
theorem d_Md_init_250 : decode b_Md_init 250 = .ok (.aload_n 0, 1) := by decide +kernel
theorem d_Md_init_251 : decode b_Md_init 251 = .ok (.bipush (30), 2) := by decide +kernel
theorem d_Md_init_253 : decode b_Md_init 253 = .ok (.newarray .int, 2) := by decide +kernel
theorem d_Md_init_255 : decode b_Md_init 255 = .ok (.putfield 108, 3) := by decide +kernel
theorem d_Md_init_258 : decode b_Md_init 258 = .ok (.aload_n 0, 1) := by decide +kernel
theorem d_Md_init_259 : decode b_Md_init 259 = .ok (.bipush (120), 2) := by decide +kernel
theorem d_Md_init_261 : decode b_Md_init 261 = .ok (.newarray .int, 2) := by decide +kernel
theorem d_Md_init_263 : decode b_Md_init 263 = .ok (.putfield 111, 3) := by decide +kernel
theorem d_Md_init_266 : decode b_Md_init 266 = .ok (.aload_n 0, 1) := by decide +kernel
theorem d_Md_init_267 : decode b_Md_init 267 = .ok (.bipush (6), 2) := by decide +kernel
theorem d_Md_init_269 : decode b_Md_init 269 = .ok (.newarray .int, 2) := by decide +kernel
theorem d_Md_init_271 : decode b_Md_init 271 = .ok (.putfield 114, 3) := by decide +kernel
theorem d_Md_init_274 : decode b_Md_init 274 = .ok (.return_, 1) := by decide +kernel
theorem d_Md_in_0 : decode b_Md_in 0 = .ok (.iload_n 0, 1) := by decide +kernel
theorem d_Md_in_1 : decode b_Md_in 1 = .ok (.iload_n 1, 1) := by decide +kernel
theorem d_Md_in_2 : decode b_Md_in 2 = .ok (.if_icmp .lt (12), 3) := by decide +kernel
theorem d_Md_in_5 : decode b_Md_in 5 = .ok (.iload_n 0, 1) := by decide +kernel
theorem d_Md_in_6 : decode b_Md_in 6 = .ok (.iload_n 2, 1) := by decide +kernel
theorem d_Md_in_7 : decode b_Md_in 7 = .ok (.if_icmp .gt (7), 3) := by decide +kernel
theorem d_Md_in_10 : decode b_Md_in 10 = .ok (.iconst 1, 1) := by decide +kernel
theorem d_Md_in_11 : decode b_Md_in 11 = .ok (.goto (4), 3) := by decide +kernel
theorem d_Md_in_14 : decode b_Md_in 14 = .ok (.iconst 0, 1) := by decide +kernel
theorem d_Md_in_15 : decode b_Md_in 15 = .ok (.ireturn, 1) := by decide +kernel
theorem d_Md_isRack_0 : decode b_Md_isRack 0 = .ok (.iload_n 1, 1) := by decide +kernel
theorem d_Md_isRack_1 : decode b_Md_isRack 1 = .ok (.iconst 0, 1) := by decide +kernel
theorem d_Md_isRack_2 : decode b_Md_isRack 2 = .ok (.aload_n 0, 1) := by decide +kernel
theorem d_Md_isRack_3 : decode b_Md_isRack 3 = .ok (.getfield 117, 3) := by decide +kernel
theorem d_Md_isRack_6 : decode b_Md_isRack 6 = .ok (.iconst 1, 1) := by decide +kernel
theorem d_Md_isRack_7 : decode b_Md_isRack 7 = .ok (.isub, 1) := by decide +kernel
theorem d_Md_isRack_8 : decode b_Md_isRack 8 = .ok (.invokestatic 120, 3) := by decide +kernel
theorem d_Md_isRack_11 : decode b_Md_isRack 11 = .ok (.ireturn, 1) := by decide +kernel
theorem d_Md_isJob_0 : decode b_Md_isJob 0 = .ok (.iload_n 1, 1) := by decide +kernel
theorem d_Md_isJob_1 : decode b_Md_isJob 1 = .ok (.iconst 0, 1) := by decide +kernel
theorem d_Md_isJob_2 : decode b_Md_isJob 2 = .ok (.aload_n 0, 1) := by decide +kernel
theorem d_Md_isJob_3 : decode b_Md_isJob 3 = .ok (.getfield 124, 3) := by decide +kernel
theorem d_Md_isJob_6 : decode b_Md_isJob 6 = .ok (.iconst 1, 1) := by decide +kernel
theorem d_Md_isJob_7 : decode b_Md_isJob 7 = .ok (.isub, 1) := by decide +kernel
theorem d_Md_isJob_8 : decode b_Md_isJob 8 = .ok (.invokestatic 120, 3) := by decide +kernel
theorem d_Md_isJob_11 : decode b_Md_isJob 11 = .ok (.ireturn, 1) := by decide +kernel
theorem d_Md_rack_0 : decode b_Md_rack 0 = .ok (.iload_n 1, 1) := by decide +kernel
theorem d_Md_rack_1 : decode b_Md_rack 1 = .ok (.iconst 1, 1) := by decide +kernel
theorem d_Md_rack_2 : decode b_Md_rack 2 = .ok (.bipush (16), 2) := by decide +kernel
theorem d_Md_rack_4 : decode b_Md_rack 4 = .ok (.invokestatic 120, 3) := by decide +kernel
theorem d_Md_rack_7 : decode b_Md_rack 7 = .ok (.ifCond .ne (6), 3) := by decide +kernel
theorem d_Md_rack_10 : decode b_Md_rack 10 = .ok (.bipush (-3), 2) := by decide +kernel
theorem d_Md_rack_12 : decode b_Md_rack 12 = .ok (.ireturn, 1) := by decide +kernel
theorem d_Md_rack_13 : decode b_Md_rack 13 = .ok (.aload_n 0, 1) := by decide +kernel
theorem d_Md_rack_14 : decode b_Md_rack 14 = .ok (.getfield 117, 3) := by decide +kernel
theorem d_Md_rack_17 : decode b_Md_rack 17 = .ok (.iconst 4, 1) := by decide +kernel
theorem d_Md_rack_18 : decode b_Md_rack 18 = .ok (.if_icmp .ne (6), 3) := by decide +kernel
theorem d_Md_rack_21 : decode b_Md_rack 21 = .ok (.bipush (-5), 2) := by decide +kernel
theorem d_Md_rack_23 : decode b_Md_rack 23 = .ok (.ireturn, 1) := by decide +kernel
theorem d_Md_rack_24 : decode b_Md_rack 24 = .ok (.aload_n 0, 1) := by decide +kernel
theorem d_Md_rack_25 : decode b_Md_rack 25 = .ok (.getfield 16, 3) := by decide +kernel
theorem d_Md_rack_28 : decode b_Md_rack 28 = .ok (.aload_n 0, 1) := by decide +kernel
theorem d_Md_rack_29 : decode b_Md_rack 29 = .ok (.getfield 117, 3) := by decide +kernel
theorem d_Md_rack_32 : decode b_Md_rack 32 = .ok (.iload_n 1, 1) := by decide +kernel
theorem d_Md_rack_33 : decode b_Md_rack 33 = .ok (.iastore, 1) := by decide +kernel
theorem d_Md_rack_34 : decode b_Md_rack 34 = .ok (.aload_n 0, 1) := by decide +kernel
theorem d_Md_rack_35 : decode b_Md_rack 35 = .ok (.dup, 1) := by decide +kernel
theorem d_Md_rack_36 : decode b_Md_rack 36 = .ok (.getfield 117, 3) := by decide +kernel
theorem d_Md_rack_39 : decode b_Md_rack 39 = .ok (.iconst 1, 1) := by decide +kernel
theorem d_Md_rack_40 : decode b_Md_rack 40 = .ok (.iadd, 1) := by decide +kernel
theorem d_Md_rack_41 : decode b_Md_rack 41 = .ok (.putfield 117, 3) := by decide +kernel
theorem d_Md_rack_44 : decode b_Md_rack 44 = .ok (.aload_n 0, 1) := by decide +kernel
theorem d_Md_rack_45 : decode b_Md_rack 45 = .ok (.getfield 117, 3) := by decide +kernel
theorem d_Md_rack_48 : decode b_Md_rack 48 = .ok (.iconst 1, 1) := by decide +kernel
theorem d_Md_rack_49 : decode b_Md_rack 49 = .ok (.isub, 1) := by decide +kernel
theorem d_Md_rack_50 : decode b_Md_rack 50 = .ok (.ireturn, 1) := by decide +kernel
theorem d_Md_drain_0 : decode b_Md_drain 0 = .ok (.aload_n 0, 1) := by decide +kernel
theorem d_Md_drain_1 : decode b_Md_drain 1 = .ok (.iload_n 1, 1) := by decide +kernel
theorem d_Md_drain_2 : decode b_Md_drain 2 = .ok (.invokevirtual 127, 3) := by decide +kernel
theorem d_Md_drain_5 : decode b_Md_drain 5 = .ok (.ifCond .ne (6), 3) := by decide +kernel
theorem d_Md_drain_8 : decode b_Md_drain 8 = .ok (.bipush (-2), 2) := by decide +kernel
theorem d_Md_drain_10 : decode b_Md_drain 10 = .ok (.ireturn, 1) := by decide +kernel
theorem d_Md_drain_11 : decode b_Md_drain 11 = .ok (.aload_n 0, 1) := by decide +kernel
theorem d_Md_drain_12 : decode b_Md_drain 12 = .ok (.getfield 20, 3) := by decide +kernel
theorem d_Md_drain_15 : decode b_Md_drain 15 = .ok (.iload_n 1, 1) := by decide +kernel
theorem d_Md_drain_16 : decode b_Md_drain 16 = .ok (.baload, 1) := by decide +kernel
theorem d_Md_drain_17 : decode b_Md_drain 17 = .ok (.istore_n 3, 1) := by decide +kernel
theorem d_Md_drain_18 : decode b_Md_drain 18 = .ok (.aload_n 0, 1) := by decide +kernel
theorem d_Md_drain_19 : decode b_Md_drain 19 = .ok (.getfield 20, 3) := by decide +kernel
theorem d_Md_drain_22 : decode b_Md_drain 22 = .ok (.iload_n 1, 1) := by decide +kernel
theorem d_Md_drain_23 : decode b_Md_drain 23 = .ok (.iload_n 2, 1) := by decide +kernel
theorem d_Md_drain_24 : decode b_Md_drain 24 = .ok (.bastore, 1) := by decide +kernel
theorem d_Md_drain_25 : decode b_Md_drain 25 = .ok (.iload_n 3, 1) := by decide +kernel
theorem d_Md_drain_26 : decode b_Md_drain 26 = .ok (.ifCond .eq (7), 3) := by decide +kernel
theorem d_Md_drain_29 : decode b_Md_drain 29 = .ok (.iconst 1, 1) := by decide +kernel
theorem d_Md_drain_30 : decode b_Md_drain 30 = .ok (.goto (4), 3) := by decide +kernel
theorem d_Md_drain_33 : decode b_Md_drain 33 = .ok (.iconst 0, 1) := by decide +kernel
theorem d_Md_drain_34 : decode b_Md_drain 34 = .ok (.ireturn, 1) := by decide +kernel
theorem d_Md_leave_0 : decode b_Md_leave 0 = .ok (.iconst 0, 1) := by decide +kernel
theorem d_Md_leave_1 : decode b_Md_leave 1 = .ok (.istore_n 2, 1) := by decide +kernel
theorem d_Md_leave_2 : decode b_Md_leave 2 = .ok (.iload_n 2, 1) := by decide +kernel
theorem d_Md_leave_3 : decode b_Md_leave 3 = .ok (.iconst 4, 1) := by decide +kernel
theorem d_Md_leave_4 : decode b_Md_leave 4 = .ok (.if_icmp .ge (20), 3) := by decide +kernel
theorem d_Md_leave_7 : decode b_Md_leave 7 = .ok (.aload_n 0, 1) := by decide +kernel
theorem d_Md_leave_8 : decode b_Md_leave 8 = .ok (.getfield 69, 3) := by decide +kernel
theorem d_Md_leave_11 : decode b_Md_leave 11 = .ok (.iconst 4, 1) := by decide +kernel
theorem d_Md_leave_12 : decode b_Md_leave 12 = .ok (.iload_n 1, 1) := by decide +kernel
theorem d_Md_leave_13 : decode b_Md_leave 13 = .ok (.imul, 1) := by decide +kernel
theorem d_Md_leave_14 : decode b_Md_leave 14 = .ok (.iload_n 2, 1) := by decide +kernel
theorem d_Md_leave_15 : decode b_Md_leave 15 = .ok (.iadd, 1) := by decide +kernel
theorem d_Md_leave_16 : decode b_Md_leave 16 = .ok (.iconst 0, 1) := by decide +kernel
theorem d_Md_leave_17 : decode b_Md_leave 17 = .ok (.iastore, 1) := by decide +kernel
theorem d_Md_leave_18 : decode b_Md_leave 18 = .ok (.iinc 2 (1), 3) := by decide +kernel
theorem d_Md_leave_21 : decode b_Md_leave 21 = .ok (.goto (-19), 3) := by decide +kernel
theorem d_Md_leave_24 : decode b_Md_leave 24 = .ok (.aload_n 0, 1) := by decide +kernel
theorem d_Md_leave_25 : decode b_Md_leave 25 = .ok (.getfield 63, 3) := by decide +kernel
theorem d_Md_leave_28 : decode b_Md_leave 28 = .ok (.iload_n 1, 1) := by decide +kernel
theorem d_Md_leave_29 : decode b_Md_leave 29 = .ok (.iconst 0, 1) := by decide +kernel
theorem d_Md_leave_30 : decode b_Md_leave 30 = .ok (.iastore, 1) := by decide +kernel
theorem d_Md_leave_31 : decode b_Md_leave 31 = .ok (.return_, 1) := by decide +kernel
theorem d_Md_fail_0 : decode b_Md_fail 0 = .ok (.aload_n 0, 1) := by decide +kernel
theorem d_Md_fail_1 : decode b_Md_fail 1 = .ok (.iload_n 1, 1) := by decide +kernel
theorem d_Md_fail_2 : decode b_Md_fail 2 = .ok (.invokevirtual 127, 3) := by decide +kernel
theorem d_Md_fail_5 : decode b_Md_fail 5 = .ok (.ifCond .ne (6), 3) := by decide +kernel
theorem d_Md_fail_8 : decode b_Md_fail 8 = .ok (.bipush (-2), 2) := by decide +kernel
theorem d_Md_fail_10 : decode b_Md_fail 10 = .ok (.ireturn, 1) := by decide +kernel
theorem d_Md_fail_11 : decode b_Md_fail 11 = .ok (.iconst 0, 1) := by decide +kernel
theorem d_Md_fail_12 : decode b_Md_fail 12 = .ok (.istore_n 2, 1) := by decide +kernel
theorem d_Md_fail_13 : decode b_Md_fail 13 = .ok (.iconst 0, 1) := by decide +kernel
theorem d_Md_fail_14 : decode b_Md_fail 14 = .ok (.istore_n 3, 1) := by decide +kernel
theorem d_Md_fail_15 : decode b_Md_fail 15 = .ok (.iload_n 3, 1) := by decide +kernel
theorem d_Md_fail_16 : decode b_Md_fail 16 = .ok (.aload_n 0, 1) := by decide +kernel
theorem d_Md_fail_17 : decode b_Md_fail 17 = .ok (.getfield 124, 3) := by decide +kernel
theorem d_Md_fail_20 : decode b_Md_fail 20 = .ok (.if_icmp .ge (98), 3) := by decide +kernel
theorem d_Md_fail_23 : decode b_Md_fail 23 = .ok (.aload_n 0, 1) := by decide +kernel
theorem d_Md_fail_24 : decode b_Md_fail 24 = .ok (.getfield 51, 3) := by decide +kernel
theorem d_Md_fail_27 : decode b_Md_fail 27 = .ok (.iload_n 3, 1) := by decide +kernel
theorem d_Md_fail_28 : decode b_Md_fail 28 = .ok (.iaload, 1) := by decide +kernel
theorem d_Md_fail_29 : decode b_Md_fail 29 = .ok (.iconst 1, 1) := by decide +kernel
theorem d_Md_fail_30 : decode b_Md_fail 30 = .ok (.if_icmp .ne (82), 3) := by decide +kernel
theorem d_Md_fail_33 : decode b_Md_fail 33 = .ok (.aload_n 0, 1) := by decide +kernel
theorem d_Md_fail_34 : decode b_Md_fail 34 = .ok (.getfield 69, 3) := by decide +kernel
theorem d_Md_fail_37 : decode b_Md_fail 37 = .ok (.iconst 4, 1) := by decide +kernel
theorem d_Md_fail_38 : decode b_Md_fail 38 = .ok (.iload_n 3, 1) := by decide +kernel
theorem d_Md_fail_39 : decode b_Md_fail 39 = .ok (.imul, 1) := by decide +kernel
theorem d_Md_fail_40 : decode b_Md_fail 40 = .ok (.iload_n 1, 1) := by decide +kernel
theorem d_Md_fail_41 : decode b_Md_fail 41 = .ok (.iadd, 1) := by decide +kernel
theorem d_Md_fail_42 : decode b_Md_fail 42 = .ok (.iaload, 1) := by decide +kernel
theorem d_Md_fail_43 : decode b_Md_fail 43 = .ok (.ifCond .le (69), 3) := by decide +kernel
theorem d_Md_fail_46 : decode b_Md_fail 46 = .ok (.aload_n 0, 1) := by decide +kernel
theorem d_Md_fail_47 : decode b_Md_fail 47 = .ok (.getfield 60, 3) := by decide +kernel
theorem d_Md_fail_50 : decode b_Md_fail 50 = .ok (.iload_n 3, 1) := by decide +kernel
theorem d_Md_fail_51 : decode b_Md_fail 51 = .ok (.iaload, 1) := by decide +kernel
theorem d_Md_fail_52 : decode b_Md_fail 52 = .ok (.aload_n 0, 1) := by decide +kernel
theorem d_Md_fail_53 : decode b_Md_fail 53 = .ok (.getfield 63, 3) := by decide +kernel
theorem d_Md_fail_56 : decode b_Md_fail 56 = .ok (.iload_n 3, 1) := by decide +kernel
theorem d_Md_fail_57 : decode b_Md_fail 57 = .ok (.iaload, 1) := by decide +kernel
theorem d_Md_fail_58 : decode b_Md_fail 58 = .ok (.iadd, 1) := by decide +kernel
theorem d_Md_fail_59 : decode b_Md_fail 59 = .ok (.istore 4, 2) := by decide +kernel
theorem d_Md_fail_61 : decode b_Md_fail 61 = .ok (.aload_n 0, 1) := by decide +kernel
theorem d_Md_fail_62 : decode b_Md_fail 62 = .ok (.getfield 60, 3) := by decide +kernel
theorem d_Md_fail_65 : decode b_Md_fail 65 = .ok (.iload_n 3, 1) := by decide +kernel
theorem d_Md_fail_66 : decode b_Md_fail 66 = .ok (.aload_n 0, 1) := by decide +kernel
theorem d_Md_fail_67 : decode b_Md_fail 67 = .ok (.getfield 45, 3) := by decide +kernel
theorem d_Md_fail_70 : decode b_Md_fail 70 = .ok (.iload_n 3, 1) := by decide +kernel
theorem d_Md_fail_71 : decode b_Md_fail 71 = .ok (.iaload, 1) := by decide +kernel
theorem d_Md_fail_72 : decode b_Md_fail 72 = .ok (.ifCond .ne (12), 3) := by decide +kernel
theorem d_Md_fail_75 : decode b_Md_fail 75 = .ok (.aload_n 0, 1) := by decide +kernel
theorem d_Md_fail_76 : decode b_Md_fail 76 = .ok (.getfield 60, 3) := by decide +kernel
theorem d_Md_fail_79 : decode b_Md_fail 79 = .ok (.iload_n 3, 1) := by decide +kernel
theorem d_Md_fail_80 : decode b_Md_fail 80 = .ok (.iaload, 1) := by decide +kernel
theorem d_Md_fail_81 : decode b_Md_fail 81 = .ok (.goto (15), 3) := by decide +kernel
theorem d_Md_fail_84 : decode b_Md_fail 84 = .ok (.iload 4, 2) := by decide +kernel
theorem d_Md_fail_86 : decode b_Md_fail 86 = .ok (.iload 4, 2) := by decide +kernel
theorem d_Md_fail_88 : decode b_Md_fail 88 = .ok (.aload_n 0, 1) := by decide +kernel
theorem d_Md_fail_89 : decode b_Md_fail 89 = .ok (.getfield 45, 3) := by decide +kernel
theorem d_Md_fail_92 : decode b_Md_fail 92 = .ok (.iload_n 3, 1) := by decide +kernel
theorem d_Md_fail_93 : decode b_Md_fail 93 = .ok (.iaload, 1) := by decide +kernel
theorem d_Md_fail_94 : decode b_Md_fail 94 = .ok (.irem, 1) := by decide +kernel
theorem d_Md_fail_95 : decode b_Md_fail 95 = .ok (.isub, 1) := by decide +kernel
theorem d_Md_fail_96 : decode b_Md_fail 96 = .ok (.iastore, 1) := by decide +kernel
theorem d_Md_fail_97 : decode b_Md_fail 97 = .ok (.aload_n 0, 1) := by decide +kernel
theorem d_Md_fail_98 : decode b_Md_fail 98 = .ok (.getfield 51, 3) := by decide +kernel
theorem d_Md_fail_101 : decode b_Md_fail 101 = .ok (.iload_n 3, 1) := by decide +kernel
theorem d_Md_fail_102 : decode b_Md_fail 102 = .ok (.iconst 0, 1) := by decide +kernel
theorem d_Md_fail_103 : decode b_Md_fail 103 = .ok (.iastore, 1) := by decide +kernel
theorem d_Md_fail_104 : decode b_Md_fail 104 = .ok (.aload_n 0, 1) := by decide +kernel
theorem d_Md_fail_105 : decode b_Md_fail 105 = .ok (.iload_n 3, 1) := by decide +kernel
theorem d_Md_fail_106 : decode b_Md_fail 106 = .ok (.invokevirtual 131, 3) := by decide +kernel
theorem d_Md_fail_109 : decode b_Md_fail 109 = .ok (.iinc 2 (1), 3) := by decide +kernel
theorem d_Md_fail_112 : decode b_Md_fail 112 = .ok (.iinc 3 (1), 3) := by decide +kernel
theorem d_Md_fail_115 : decode b_Md_fail 115 = .ok (.goto (-100), 3) := by decide +kernel
theorem d_Md_fail_118 : decode b_Md_fail 118 = .ok (.iload_n 2, 1) := by decide +kernel
theorem d_Md_fail_119 : decode b_Md_fail 119 = .ok (.ireturn, 1) := by decide +kernel
theorem d_Md_licences_0 : decode b_Md_licences 0 = .ok (.iload_n 1, 1) := by decide +kernel
theorem d_Md_licences_1 : decode b_Md_licences 1 = .ok (.iconst 0, 1) := by decide +kernel
theorem d_Md_licences_2 : decode b_Md_licences 2 = .ok (.bipush (100), 2) := by decide +kernel
theorem d_Md_licences_4 : decode b_Md_licences 4 = .ok (.invokestatic 120, 3) := by decide +kernel
theorem d_Md_licences_7 : decode b_Md_licences 7 = .ok (.ifCond .ne (6), 3) := by decide +kernel
theorem d_Md_licences_10 : decode b_Md_licences 10 = .ok (.bipush (-3), 2) := by decide +kernel
theorem d_Md_licences_12 : decode b_Md_licences 12 = .ok (.ireturn, 1) := by decide +kernel
theorem d_Md_licences_13 : decode b_Md_licences 13 = .ok (.aload_n 0, 1) := by decide +kernel
theorem d_Md_licences_14 : decode b_Md_licences 14 = .ok (.getfield 13, 3) := by decide +kernel
theorem d_Md_licences_17 : decode b_Md_licences 17 = .ok (.istore_n 2, 1) := by decide +kernel
theorem d_Md_licences_18 : decode b_Md_licences 18 = .ok (.aload_n 0, 1) := by decide +kernel
theorem d_Md_licences_19 : decode b_Md_licences 19 = .ok (.iload_n 1, 1) := by decide +kernel
theorem d_Md_licences_20 : decode b_Md_licences 20 = .ok (.putfield 13, 3) := by decide +kernel
theorem d_Md_licences_23 : decode b_Md_licences 23 = .ok (.iload_n 2, 1) := by decide +kernel
theorem d_Md_licences_24 : decode b_Md_licences 24 = .ok (.ireturn, 1) := by decide +kernel
theorem d_Md_half_0 : decode b_Md_half 0 = .ok (.iload_n 1, 1) := by decide +kernel
theorem d_Md_half_1 : decode b_Md_half 1 = .ok (.iconst 1, 1) := by decide +kernel
theorem d_Md_half_2 : decode b_Md_half 2 = .ok (.sipush (1000), 3) := by decide +kernel
theorem d_Md_half_5 : decode b_Md_half 5 = .ok (.invokestatic 120, 3) := by decide +kernel
theorem d_Md_half_8 : decode b_Md_half 8 = .ok (.ifCond .ne (6), 3) := by decide +kernel
theorem d_Md_half_11 : decode b_Md_half 11 = .ok (.bipush (-3), 2) := by decide +kernel
theorem d_Md_half_13 : decode b_Md_half 13 = .ok (.ireturn, 1) := by decide +kernel
theorem d_Md_half_14 : decode b_Md_half 14 = .ok (.aload_n 0, 1) := by decide +kernel
theorem d_Md_half_15 : decode b_Md_half 15 = .ok (.getfield 7, 3) := by decide +kernel
theorem d_Md_half_18 : decode b_Md_half 18 = .ok (.istore_n 2, 1) := by decide +kernel
theorem d_Md_half_19 : decode b_Md_half 19 = .ok (.aload_n 0, 1) := by decide +kernel
theorem d_Md_half_20 : decode b_Md_half 20 = .ok (.iload_n 1, 1) := by decide +kernel
theorem d_Md_half_21 : decode b_Md_half 21 = .ok (.putfield 7, 3) := by decide +kernel
theorem d_Md_half_24 : decode b_Md_half 24 = .ok (.iload_n 2, 1) := by decide +kernel
theorem d_Md_half_25 : decode b_Md_half 25 = .ok (.ireturn, 1) := by decide +kernel
theorem d_Md_account_0 : decode b_Md_account 0 = .ok (.iload_n 1, 1) := by decide +kernel
theorem d_Md_account_1 : decode b_Md_account 1 = .ok (.iconst 1, 1) := by decide +kernel
theorem d_Md_account_2 : decode b_Md_account 2 = .ok (.bipush (100), 2) := by decide +kernel
theorem d_Md_account_4 : decode b_Md_account 4 = .ok (.invokestatic 120, 3) := by decide +kernel
theorem d_Md_account_7 : decode b_Md_account 7 = .ok (.ifCond .ne (6), 3) := by decide +kernel
theorem d_Md_account_10 : decode b_Md_account 10 = .ok (.bipush (-3), 2) := by decide +kernel
theorem d_Md_account_12 : decode b_Md_account 12 = .ok (.ireturn, 1) := by decide +kernel
theorem d_Md_account_13 : decode b_Md_account 13 = .ok (.aload_n 0, 1) := by decide +kernel
theorem d_Md_account_14 : decode b_Md_account 14 = .ok (.getfield 135, 3) := by decide +kernel
theorem d_Md_account_17 : decode b_Md_account 17 = .ok (.bipush (6), 2) := by decide +kernel
theorem d_Md_account_19 : decode b_Md_account 19 = .ok (.if_icmp .ne (6), 3) := by decide +kernel
theorem d_Md_account_22 : decode b_Md_account 22 = .ok (.bipush (-5), 2) := by decide +kernel
theorem d_Md_account_24 : decode b_Md_account 24 = .ok (.ireturn, 1) := by decide +kernel
theorem d_Md_account_25 : decode b_Md_account 25 = .ok (.aload_n 0, 1) := by decide +kernel
theorem d_Md_account_26 : decode b_Md_account 26 = .ok (.getfield 24, 3) := by decide +kernel
theorem d_Md_account_29 : decode b_Md_account 29 = .ok (.aload_n 0, 1) := by decide +kernel
theorem d_Md_account_30 : decode b_Md_account 30 = .ok (.getfield 135, 3) := by decide +kernel
theorem d_Md_account_33 : decode b_Md_account 33 = .ok (.iload_n 1, 1) := by decide +kernel
theorem d_Md_account_34 : decode b_Md_account 34 = .ok (.iastore, 1) := by decide +kernel
theorem d_Md_account_35 : decode b_Md_account 35 = .ok (.aload_n 0, 1) := by decide +kernel
theorem d_Md_account_36 : decode b_Md_account 36 = .ok (.dup, 1) := by decide +kernel
theorem d_Md_account_37 : decode b_Md_account 37 = .ok (.getfield 135, 3) := by decide +kernel
theorem d_Md_account_40 : decode b_Md_account 40 = .ok (.iconst 1, 1) := by decide +kernel
theorem d_Md_account_41 : decode b_Md_account 41 = .ok (.iadd, 1) := by decide +kernel
theorem d_Md_account_42 : decode b_Md_account 42 = .ok (.putfield 135, 3) := by decide +kernel
theorem d_Md_account_45 : decode b_Md_account 45 = .ok (.aload_n 0, 1) := by decide +kernel
theorem d_Md_account_46 : decode b_Md_account 46 = .ok (.getfield 135, 3) := by decide +kernel
theorem d_Md_account_49 : decode b_Md_account 49 = .ok (.iconst 1, 1) := by decide +kernel
theorem d_Md_account_50 : decode b_Md_account 50 = .ok (.isub, 1) := by decide +kernel
theorem d_Md_account_51 : decode b_Md_account 51 = .ok (.ireturn, 1) := by decide +kernel
theorem d_Md_job_0 : decode b_Md_job 0 = .ok (.iload_n 1, 1) := by decide +kernel
theorem d_Md_job_1 : decode b_Md_job 1 = .ok (.iconst 0, 1) := by decide +kernel
theorem d_Md_job_2 : decode b_Md_job 2 = .ok (.aload_n 0, 1) := by decide +kernel
theorem d_Md_job_3 : decode b_Md_job 3 = .ok (.getfield 135, 3) := by decide +kernel
theorem d_Md_job_6 : decode b_Md_job 6 = .ok (.iconst 1, 1) := by decide +kernel
theorem d_Md_job_7 : decode b_Md_job 7 = .ok (.isub, 1) := by decide +kernel
theorem d_Md_job_8 : decode b_Md_job 8 = .ok (.invokestatic 120, 3) := by decide +kernel
theorem d_Md_job_11 : decode b_Md_job 11 = .ok (.ifCond .ne (6), 3) := by decide +kernel
theorem d_Md_job_14 : decode b_Md_job 14 = .ok (.bipush (-2), 2) := by decide +kernel
theorem d_Md_job_16 : decode b_Md_job 16 = .ok (.ireturn, 1) := by decide +kernel
theorem d_Md_job_17 : decode b_Md_job 17 = .ok (.iload_n 2, 1) := by decide +kernel
theorem d_Md_job_18 : decode b_Md_job 18 = .ok (.iconst 1, 1) := by decide +kernel
theorem d_Md_job_19 : decode b_Md_job 19 = .ok (.bipush (64), 2) := by decide +kernel
theorem d_Md_job_21 : decode b_Md_job 21 = .ok (.invokestatic 120, 3) := by decide +kernel
theorem d_Md_job_24 : decode b_Md_job 24 = .ok (.ifCond .eq (46), 3) := by decide +kernel
theorem d_Md_job_27 : decode b_Md_job 27 = .ok (.iload_n 3, 1) := by decide +kernel
theorem d_Md_job_28 : decode b_Md_job 28 = .ok (.iconst 0, 1) := by decide +kernel
theorem d_Md_job_29 : decode b_Md_job 29 = .ok (.bipush (100), 2) := by decide +kernel
theorem d_Md_job_31 : decode b_Md_job 31 = .ok (.invokestatic 120, 3) := by decide +kernel
theorem d_Md_job_34 : decode b_Md_job 34 = .ok (.ifCond .eq (36), 3) := by decide +kernel
theorem d_Md_job_37 : decode b_Md_job 37 = .ok (.iload 4, 2) := by decide +kernel
theorem d_Md_job_39 : decode b_Md_job 39 = .ok (.iconst 1, 1) := by decide +kernel
theorem d_Md_job_40 : decode b_Md_job 40 = .ok (.bipush (50), 2) := by decide +kernel
theorem d_Md_job_42 : decode b_Md_job 42 = .ok (.invokestatic 120, 3) := by decide +kernel
theorem d_Md_job_45 : decode b_Md_job 45 = .ok (.ifCond .eq (25), 3) := by decide +kernel
theorem d_Md_job_48 : decode b_Md_job 48 = .ok (.iload 5, 2) := by decide +kernel
theorem d_Md_job_50 : decode b_Md_job 50 = .ok (.iconst 1, 1) := by decide +kernel
theorem d_Md_job_51 : decode b_Md_job 51 = .ok (.iload 4, 2) := by decide +kernel
theorem d_Md_job_53 : decode b_Md_job 53 = .ok (.invokestatic 120, 3) := by decide +kernel
theorem d_Md_job_56 : decode b_Md_job 56 = .ok (.ifCond .eq (14), 3) := by decide +kernel
theorem d_Md_job_59 : decode b_Md_job 59 = .ok (.iload 6, 2) := by decide +kernel
theorem d_Md_job_61 : decode b_Md_job 61 = .ok (.iconst 0, 1) := by decide +kernel
theorem d_Md_job_62 : decode b_Md_job 62 = .ok (.bipush (50), 2) := by decide +kernel
theorem d_Md_job_64 : decode b_Md_job 64 = .ok (.invokestatic 120, 3) := by decide +kernel
theorem d_Md_job_67 : decode b_Md_job 67 = .ok (.ifCond .ne (6), 3) := by decide +kernel
theorem d_Md_job_70 : decode b_Md_job 70 = .ok (.bipush (-3), 2) := by decide +kernel
theorem d_Md_job_72 : decode b_Md_job 72 = .ok (.ireturn, 1) := by decide +kernel
theorem d_Md_job_73 : decode b_Md_job 73 = .ok (.aload_n 0, 1) := by decide +kernel
theorem d_Md_job_74 : decode b_Md_job 74 = .ok (.getfield 124, 3) := by decide +kernel
theorem d_Md_job_77 : decode b_Md_job 77 = .ok (.bipush (30), 2) := by decide +kernel
theorem d_Md_job_79 : decode b_Md_job 79 = .ok (.if_icmp .ne (6), 3) := by decide +kernel
theorem d_Md_job_82 : decode b_Md_job 82 = .ok (.bipush (-5), 2) := by decide +kernel
theorem d_Md_job_84 : decode b_Md_job 84 = .ok (.ireturn, 1) := by decide +kernel
theorem d_Md_job_85 : decode b_Md_job 85 = .ok (.aload_n 0, 1) := by decide +kernel
theorem d_Md_job_86 : decode b_Md_job 86 = .ok (.getfield 30, 3) := by decide +kernel
theorem d_Md_job_89 : decode b_Md_job 89 = .ok (.aload_n 0, 1) := by decide +kernel
theorem d_Md_job_90 : decode b_Md_job 90 = .ok (.getfield 124, 3) := by decide +kernel
theorem d_Md_job_93 : decode b_Md_job 93 = .ok (.iload_n 1, 1) := by decide +kernel
theorem d_Md_job_94 : decode b_Md_job 94 = .ok (.iastore, 1) := by decide +kernel
theorem d_Md_job_95 : decode b_Md_job 95 = .ok (.aload_n 0, 1) := by decide +kernel
theorem d_Md_job_96 : decode b_Md_job 96 = .ok (.getfield 33, 3) := by decide +kernel
theorem d_Md_job_99 : decode b_Md_job 99 = .ok (.aload_n 0, 1) := by decide +kernel
theorem d_Md_job_100 : decode b_Md_job 100 = .ok (.getfield 124, 3) := by decide +kernel
theorem d_Md_job_103 : decode b_Md_job 103 = .ok (.iload_n 2, 1) := by decide +kernel
theorem d_Md_job_104 : decode b_Md_job 104 = .ok (.iastore, 1) := by decide +kernel
theorem d_Md_job_105 : decode b_Md_job 105 = .ok (.aload_n 0, 1) := by decide +kernel
theorem d_Md_job_106 : decode b_Md_job 106 = .ok (.getfield 36, 3) := by decide +kernel
theorem d_Md_job_109 : decode b_Md_job 109 = .ok (.aload_n 0, 1) := by decide +kernel
theorem d_Md_job_110 : decode b_Md_job 110 = .ok (.getfield 124, 3) := by decide +kernel
theorem d_Md_job_113 : decode b_Md_job 113 = .ok (.iload_n 3, 1) := by decide +kernel
theorem d_Md_job_114 : decode b_Md_job 114 = .ok (.iastore, 1) := by decide +kernel
theorem d_Md_job_115 : decode b_Md_job 115 = .ok (.aload_n 0, 1) := by decide +kernel
theorem d_Md_job_116 : decode b_Md_job 116 = .ok (.getfield 39, 3) := by decide +kernel
theorem d_Md_job_119 : decode b_Md_job 119 = .ok (.aload_n 0, 1) := by decide +kernel
theorem d_Md_job_120 : decode b_Md_job 120 = .ok (.getfield 124, 3) := by decide +kernel
theorem d_Md_job_123 : decode b_Md_job 123 = .ok (.iload 4, 2) := by decide +kernel
theorem d_Md_job_125 : decode b_Md_job 125 = .ok (.iastore, 1) := by decide +kernel
theorem d_Md_job_126 : decode b_Md_job 126 = .ok (.aload_n 0, 1) := by decide +kernel
theorem d_Md_job_127 : decode b_Md_job 127 = .ok (.getfield 42, 3) := by decide +kernel
theorem d_Md_job_130 : decode b_Md_job 130 = .ok (.aload_n 0, 1) := by decide +kernel
theorem d_Md_job_131 : decode b_Md_job 131 = .ok (.getfield 124, 3) := by decide +kernel
theorem d_Md_job_134 : decode b_Md_job 134 = .ok (.iload 5, 2) := by decide +kernel
theorem d_Md_job_136 : decode b_Md_job 136 = .ok (.iastore, 1) := by decide +kernel
theorem d_Md_job_137 : decode b_Md_job 137 = .ok (.aload_n 0, 1) := by decide +kernel
theorem d_Md_job_138 : decode b_Md_job 138 = .ok (.getfield 45, 3) := by decide +kernel
theorem d_Md_job_141 : decode b_Md_job 141 = .ok (.aload_n 0, 1) := by decide +kernel
theorem d_Md_job_142 : decode b_Md_job 142 = .ok (.getfield 124, 3) := by decide +kernel
theorem d_Md_job_145 : decode b_Md_job 145 = .ok (.iload 6, 2) := by decide +kernel
theorem d_Md_job_147 : decode b_Md_job 147 = .ok (.iastore, 1) := by decide +kernel
theorem d_Md_job_148 : decode b_Md_job 148 = .ok (.aload_n 0, 1) := by decide +kernel
theorem d_Md_job_149 : decode b_Md_job 149 = .ok (.getfield 48, 3) := by decide +kernel
theorem d_Md_job_152 : decode b_Md_job 152 = .ok (.aload_n 0, 1) := by decide +kernel
theorem d_Md_job_153 : decode b_Md_job 153 = .ok (.getfield 124, 3) := by decide +kernel
theorem d_Md_job_156 : decode b_Md_job 156 = .ok (.iconst (-1), 1) := by decide +kernel
theorem d_Md_job_157 : decode b_Md_job 157 = .ok (.iastore, 1) := by decide +kernel
theorem d_Md_job_158 : decode b_Md_job 158 = .ok (.aload_n 0, 1) := by decide +kernel
theorem d_Md_job_159 : decode b_Md_job 159 = .ok (.getfield 54, 3) := by decide +kernel
theorem d_Md_job_162 : decode b_Md_job 162 = .ok (.aload_n 0, 1) := by decide +kernel
theorem d_Md_job_163 : decode b_Md_job 163 = .ok (.getfield 124, 3) := by decide +kernel
theorem d_Md_job_166 : decode b_Md_job 166 = .ok (.iconst (-1), 1) := by decide +kernel
theorem d_Md_job_167 : decode b_Md_job 167 = .ok (.iastore, 1) := by decide +kernel
theorem d_Md_job_168 : decode b_Md_job 168 = .ok (.aload_n 0, 1) := by decide +kernel
theorem d_Md_job_169 : decode b_Md_job 169 = .ok (.getfield 57, 3) := by decide +kernel
theorem d_Md_job_172 : decode b_Md_job 172 = .ok (.aload_n 0, 1) := by decide +kernel
theorem d_Md_job_173 : decode b_Md_job 173 = .ok (.getfield 124, 3) := by decide +kernel
theorem d_Md_job_176 : decode b_Md_job 176 = .ok (.iconst (-1), 1) := by decide +kernel
theorem d_Md_job_177 : decode b_Md_job 177 = .ok (.iastore, 1) := by decide +kernel
theorem d_Md_job_178 : decode b_Md_job 178 = .ok (.aload_n 0, 1) := by decide +kernel
theorem d_Md_job_179 : decode b_Md_job 179 = .ok (.dup, 1) := by decide +kernel
theorem d_Md_job_180 : decode b_Md_job 180 = .ok (.getfield 124, 3) := by decide +kernel
theorem d_Md_job_183 : decode b_Md_job 183 = .ok (.iconst 1, 1) := by decide +kernel
theorem d_Md_job_184 : decode b_Md_job 184 = .ok (.iadd, 1) := by decide +kernel
theorem d_Md_job_185 : decode b_Md_job 185 = .ok (.putfield 124, 3) := by decide +kernel
theorem d_Md_job_188 : decode b_Md_job 188 = .ok (.aload_n 0, 1) := by decide +kernel
theorem d_Md_job_189 : decode b_Md_job 189 = .ok (.getfield 124, 3) := by decide +kernel
theorem d_Md_job_192 : decode b_Md_job 192 = .ok (.iconst 1, 1) := by decide +kernel
theorem d_Md_job_193 : decode b_Md_job 193 = .ok (.isub, 1) := by decide +kernel
theorem d_Md_job_194 : decode b_Md_job 194 = .ok (.ireturn, 1) := by decide +kernel
theorem d_Md_behind_0 : decode b_Md_behind 0 = .ok (.aload_n 0, 1) := by decide +kernel
theorem d_Md_behind_1 : decode b_Md_behind 1 = .ok (.iload_n 1, 1) := by decide +kernel
theorem d_Md_behind_2 : decode b_Md_behind 2 = .ok (.invokevirtual 138, 3) := by decide +kernel
theorem d_Md_behind_5 : decode b_Md_behind 5 = .ok (.ifCond .eq (16), 3) := by decide +kernel
theorem d_Md_behind_8 : decode b_Md_behind 8 = .ok (.iload_n 2, 1) := by decide +kernel
theorem d_Md_behind_9 : decode b_Md_behind 9 = .ok (.iconst (-1), 1) := by decide +kernel
theorem d_Md_behind_10 : decode b_Md_behind 10 = .ok (.if_icmp .eq (14), 3) := by decide +kernel
theorem d_Md_behind_13 : decode b_Md_behind 13 = .ok (.aload_n 0, 1) := by decide +kernel
theorem d_Md_behind_14 : decode b_Md_behind 14 = .ok (.iload_n 2, 1) := by decide +kernel
theorem d_Md_behind_15 : decode b_Md_behind 15 = .ok (.invokevirtual 138, 3) := by decide +kernel
theorem d_Md_behind_18 : decode b_Md_behind 18 = .ok (.ifCond .ne (6), 3) := by decide +kernel
theorem d_Md_behind_21 : decode b_Md_behind 21 = .ok (.bipush (-2), 2) := by decide +kernel
theorem d_Md_behind_23 : decode b_Md_behind 23 = .ok (.ireturn, 1) := by decide +kernel
theorem d_Md_behind_24 : decode b_Md_behind 24 = .ok (.iload_n 2, 1) := by decide +kernel
theorem d_Md_behind_25 : decode b_Md_behind 25 = .ok (.iload_n 1, 1) := by decide +kernel
theorem d_Md_behind_26 : decode b_Md_behind 26 = .ok (.if_icmp .lt (6), 3) := by decide +kernel
theorem d_Md_behind_29 : decode b_Md_behind 29 = .ok (.bipush (-3), 2) := by decide +kernel
theorem d_Md_behind_31 : decode b_Md_behind 31 = .ok (.ireturn, 1) := by decide +kernel
theorem d_Md_behind_32 : decode b_Md_behind 32 = .ok (.aload_n 0, 1) := by decide +kernel
theorem d_Md_behind_33 : decode b_Md_behind 33 = .ok (.getfield 51, 3) := by decide +kernel
theorem d_Md_behind_36 : decode b_Md_behind 36 = .ok (.iload_n 1, 1) := by decide +kernel
theorem d_Md_behind_37 : decode b_Md_behind 37 = .ok (.iaload, 1) := by decide +kernel
theorem d_Md_behind_38 : decode b_Md_behind 38 = .ok (.ifCond .eq (6), 3) := by decide +kernel
theorem d_Md_behind_41 : decode b_Md_behind 41 = .ok (.bipush (-4), 2) := by decide +kernel
theorem d_Md_behind_43 : decode b_Md_behind 43 = .ok (.ireturn, 1) := by decide +kernel
theorem d_Md_behind_44 : decode b_Md_behind 44 = .ok (.aload_n 0, 1) := by decide +kernel
theorem d_Md_behind_45 : decode b_Md_behind 45 = .ok (.getfield 48, 3) := by decide +kernel
theorem d_Md_behind_48 : decode b_Md_behind 48 = .ok (.iload_n 1, 1) := by decide +kernel
theorem d_Md_behind_49 : decode b_Md_behind 49 = .ok (.iload_n 2, 1) := by decide +kernel
theorem d_Md_behind_50 : decode b_Md_behind 50 = .ok (.iastore, 1) := by decide +kernel
theorem d_Md_behind_51 : decode b_Md_behind 51 = .ok (.iconst 1, 1) := by decide +kernel
theorem d_Md_behind_52 : decode b_Md_behind 52 = .ok (.ireturn, 1) := by decide +kernel
theorem d_Md_cancel_0 : decode b_Md_cancel 0 = .ok (.aload_n 0, 1) := by decide +kernel
theorem d_Md_cancel_1 : decode b_Md_cancel 1 = .ok (.iload_n 1, 1) := by decide +kernel
theorem d_Md_cancel_2 : decode b_Md_cancel 2 = .ok (.invokevirtual 138, 3) := by decide +kernel
theorem d_Md_cancel_5 : decode b_Md_cancel 5 = .ok (.ifCond .ne (6), 3) := by decide +kernel
theorem d_Md_cancel_8 : decode b_Md_cancel 8 = .ok (.bipush (-2), 2) := by decide +kernel
theorem d_Md_cancel_10 : decode b_Md_cancel 10 = .ok (.ireturn, 1) := by decide +kernel
theorem d_Md_cancel_11 : decode b_Md_cancel 11 = .ok (.aload_n 0, 1) := by decide +kernel
theorem d_Md_cancel_12 : decode b_Md_cancel 12 = .ok (.getfield 51, 3) := by decide +kernel
theorem d_Md_cancel_15 : decode b_Md_cancel 15 = .ok (.iload_n 1, 1) := by decide +kernel
theorem d_Md_cancel_16 : decode b_Md_cancel 16 = .ok (.iaload, 1) := by decide +kernel
theorem d_Md_cancel_17 : decode b_Md_cancel 17 = .ok (.iconst 1, 1) := by decide +kernel
theorem d_Md_cancel_18 : decode b_Md_cancel 18 = .ok (.if_icmp .le (6), 3) := by decide +kernel
theorem d_Md_cancel_21 : decode b_Md_cancel 21 = .ok (.bipush (-4), 2) := by decide +kernel
theorem d_Md_cancel_23 : decode b_Md_cancel 23 = .ok (.ireturn, 1) := by decide +kernel
theorem d_Md_cancel_24 : decode b_Md_cancel 24 = .ok (.aload_n 0, 1) := by decide +kernel
theorem d_Md_cancel_25 : decode b_Md_cancel 25 = .ok (.getfield 51, 3) := by decide +kernel
theorem d_Md_cancel_28 : decode b_Md_cancel 28 = .ok (.iload_n 1, 1) := by decide +kernel
theorem d_Md_cancel_29 : decode b_Md_cancel 29 = .ok (.iconst 3, 1) := by decide +kernel
theorem d_Md_cancel_30 : decode b_Md_cancel 30 = .ok (.iastore, 1) := by decide +kernel
theorem d_Md_cancel_31 : decode b_Md_cancel 31 = .ok (.aload_n 0, 1) := by decide +kernel
theorem d_Md_cancel_32 : decode b_Md_cancel 32 = .ok (.iload_n 1, 1) := by decide +kernel
theorem d_Md_cancel_33 : decode b_Md_cancel 33 = .ok (.invokevirtual 131, 3) := by decide +kernel
theorem d_Md_cancel_36 : decode b_Md_cancel 36 = .ok (.iconst 1, 1) := by decide +kernel
theorem d_Md_cancel_37 : decode b_Md_cancel 37 = .ok (.ireturn, 1) := by decide +kernel
theorem d_Md_room_0 : decode b_Md_room 0 = .ok (.iconst 0, 1) := by decide +kernel
theorem d_Md_room_1 : decode b_Md_room 1 = .ok (.istore_n 1, 1) := by decide +kernel
theorem d_Md_room_2 : decode b_Md_room 2 = .ok (.iconst 0, 1) := by decide +kernel
theorem d_Md_room_3 : decode b_Md_room 3 = .ok (.istore_n 2, 1) := by decide +kernel
theorem d_Md_room_4 : decode b_Md_room 4 = .ok (.iload_n 2, 1) := by decide +kernel
theorem d_Md_room_5 : decode b_Md_room 5 = .ok (.aload_n 0, 1) := by decide +kernel
theorem d_Md_room_6 : decode b_Md_room 6 = .ok (.getfield 117, 3) := by decide +kernel
theorem d_Md_room_9 : decode b_Md_room 9 = .ok (.if_icmp .ge (31), 3) := by decide +kernel
theorem d_Md_room_12 : decode b_Md_room 12 = .ok (.iload_n 1, 1) := by decide +kernel
theorem d_Md_room_13 : decode b_Md_room 13 = .ok (.aload_n 0, 1) := by decide +kernel
theorem d_Md_room_14 : decode b_Md_room 14 = .ok (.getfield 20, 3) := by decide +kernel
theorem d_Md_room_17 : decode b_Md_room 17 = .ok (.iload_n 2, 1) := by decide +kernel
theorem d_Md_room_18 : decode b_Md_room 18 = .ok (.baload, 1) := by decide +kernel
theorem d_Md_room_19 : decode b_Md_room 19 = .ok (.ifCond .eq (7), 3) := by decide +kernel
theorem d_Md_room_22 : decode b_Md_room 22 = .ok (.iconst 0, 1) := by decide +kernel
theorem d_Md_room_23 : decode b_Md_room 23 = .ok (.goto (9), 3) := by decide +kernel
theorem d_Md_room_26 : decode b_Md_room 26 = .ok (.aload_n 0, 1) := by decide +kernel
theorem d_Md_room_27 : decode b_Md_room 27 = .ok (.getfield 16, 3) := by decide +kernel
theorem d_Md_room_30 : decode b_Md_room 30 = .ok (.iload_n 2, 1) := by decide +kernel
theorem d_Md_room_31 : decode b_Md_room 31 = .ok (.iaload, 1) := by decide +kernel
theorem d_Md_room_32 : decode b_Md_room 32 = .ok (.iadd, 1) := by decide +kernel
theorem d_Md_room_33 : decode b_Md_room 33 = .ok (.istore_n 1, 1) := by decide +kernel
theorem d_Md_room_34 : decode b_Md_room 34 = .ok (.iinc 2 (1), 3) := by decide +kernel
theorem d_Md_room_37 : decode b_Md_room 37 = .ok (.goto (-33), 3) := by decide +kernel
theorem d_Md_room_40 : decode b_Md_room 40 = .ok (.iload_n 1, 1) := by decide +kernel
theorem d_Md_room_41 : decode b_Md_room 41 = .ok (.ireturn, 1) := by decide +kernel
theorem d_Md_runsAt_0 : decode b_Md_runsAt 0 = .ok (.aload_n 0, 1) := by decide +kernel
theorem d_Md_runsAt_1 : decode b_Md_runsAt 1 = .ok (.getfield 51, 3) := by decide +kernel
theorem d_Md_runsAt_4 : decode b_Md_runsAt 4 = .ok (.iload_n 1, 1) := by decide +kernel
theorem d_Md_runsAt_5 : decode b_Md_runsAt 5 = .ok (.iaload, 1) := by decide +kernel
theorem d_Md_runsAt_6 : decode b_Md_runsAt 6 = .ok (.iconst 1, 1) := by decide +kernel
theorem d_Md_runsAt_7 : decode b_Md_runsAt 7 = .ok (.if_icmp .ne (24), 3) := by decide +kernel
theorem d_Md_runsAt_10 : decode b_Md_runsAt 10 = .ok (.aload_n 0, 1) := by decide +kernel
theorem d_Md_runsAt_11 : decode b_Md_runsAt 11 = .ok (.getfield 54, 3) := by decide +kernel
theorem d_Md_runsAt_14 : decode b_Md_runsAt 14 = .ok (.iload_n 1, 1) := by decide +kernel
theorem d_Md_runsAt_15 : decode b_Md_runsAt 15 = .ok (.iaload, 1) := by decide +kernel
theorem d_Md_runsAt_16 : decode b_Md_runsAt 16 = .ok (.aload_n 0, 1) := by decide +kernel
theorem d_Md_runsAt_17 : decode b_Md_runsAt 17 = .ok (.getfield 66, 3) := by decide +kernel
theorem d_Md_runsAt_20 : decode b_Md_runsAt 20 = .ok (.iload_n 1, 1) := by decide +kernel
theorem d_Md_runsAt_21 : decode b_Md_runsAt 21 = .ok (.iaload, 1) := by decide +kernel
theorem d_Md_runsAt_22 : decode b_Md_runsAt 22 = .ok (.iadd, 1) := by decide +kernel
theorem d_Md_runsAt_23 : decode b_Md_runsAt 23 = .ok (.iload_n 2, 1) := by decide +kernel
theorem d_Md_runsAt_24 : decode b_Md_runsAt 24 = .ok (.if_icmp .le (7), 3) := by decide +kernel
theorem d_Md_runsAt_27 : decode b_Md_runsAt 27 = .ok (.iconst 1, 1) := by decide +kernel
theorem d_Md_runsAt_28 : decode b_Md_runsAt 28 = .ok (.goto (4), 3) := by decide +kernel
theorem d_Md_runsAt_31 : decode b_Md_runsAt 31 = .ok (.iconst 0, 1) := by decide +kernel
theorem d_Md_runsAt_32 : decode b_Md_runsAt 32 = .ok (.ireturn, 1) := by decide +kernel
theorem d_Md_takenNodes_0 : decode b_Md_takenNodes 0 = .ok (.iconst 0, 1) := by decide +kernel
theorem d_Md_takenNodes_1 : decode b_Md_takenNodes 1 = .ok (.istore_n 2, 1) := by decide +kernel
theorem d_Md_takenNodes_2 : decode b_Md_takenNodes 2 = .ok (.iconst 0, 1) := by decide +kernel
theorem d_Md_takenNodes_3 : decode b_Md_takenNodes 3 = .ok (.istore_n 3, 1) := by decide +kernel
theorem d_Md_takenNodes_4 : decode b_Md_takenNodes 4 = .ok (.iload_n 3, 1) := by decide +kernel
theorem d_Md_takenNodes_5 : decode b_Md_takenNodes 5 = .ok (.aload_n 0, 1) := by decide +kernel
theorem d_Md_takenNodes_6 : decode b_Md_takenNodes 6 = .ok (.getfield 124, 3) := by decide +kernel
theorem d_Md_takenNodes_9 : decode b_Md_takenNodes 9 = .ok (.if_icmp .ge (64), 3) := by decide +kernel
theorem d_Md_takenNodes_12 : decode b_Md_takenNodes 12 = .ok (.iconst 0, 1) := by decide +kernel
theorem d_Md_takenNodes_13 : decode b_Md_takenNodes 13 = .ok (.istore 4, 2) := by decide +kernel
theorem d_Md_takenNodes_15 : decode b_Md_takenNodes 15 = .ok (.iload 4, 2) := by decide +kernel
theorem d_Md_takenNodes_17 : decode b_Md_takenNodes 17 = .ok (.aload_n 0, 1) := by decide +kernel
theorem d_Md_takenNodes_18 : decode b_Md_takenNodes 18 = .ok (.getfield 117, 3) := by decide +kernel
theorem d_Md_takenNodes_21 : decode b_Md_takenNodes 21 = .ok (.if_icmp .ge (46), 3) := by decide +kernel
theorem d_Md_takenNodes_24 : decode b_Md_takenNodes 24 = .ok (.aload_n 0, 1) := by decide +kernel
theorem d_Md_takenNodes_25 : decode b_Md_takenNodes 25 = .ok (.iload_n 3, 1) := by decide +kernel
theorem d_Md_takenNodes_26 : decode b_Md_takenNodes 26 = .ok (.iload_n 1, 1) := by decide +kernel
theorem d_Md_takenNodes_27 : decode b_Md_takenNodes 27 = .ok (.invokevirtual 141, 3) := by decide +kernel
theorem d_Md_takenNodes_30 : decode b_Md_takenNodes 30 = .ok (.ifCond .eq (37), 3) := by decide +kernel
theorem d_Md_takenNodes_33 : decode b_Md_takenNodes 33 = .ok (.iload_n 2, 1) := by decide +kernel
theorem d_Md_takenNodes_34 : decode b_Md_takenNodes 34 = .ok (.aload_n 0, 1) := by decide +kernel
theorem d_Md_takenNodes_35 : decode b_Md_takenNodes 35 = .ok (.getfield 20, 3) := by decide +kernel
theorem d_Md_takenNodes_38 : decode b_Md_takenNodes 38 = .ok (.iload 4, 2) := by decide +kernel
theorem d_Md_takenNodes_40 : decode b_Md_takenNodes 40 = .ok (.baload, 1) := by decide +kernel
theorem d_Md_takenNodes_41 : decode b_Md_takenNodes 41 = .ok (.ifCond .eq (7), 3) := by decide +kernel
theorem d_Md_takenNodes_44 : decode b_Md_takenNodes 44 = .ok (.iconst 0, 1) := by decide +kernel
theorem d_Md_takenNodes_45 : decode b_Md_takenNodes 45 = .ok (.goto (14), 3) := by decide +kernel
theorem d_Md_takenNodes_48 : decode b_Md_takenNodes 48 = .ok (.aload_n 0, 1) := by decide +kernel
theorem d_Md_takenNodes_49 : decode b_Md_takenNodes 49 = .ok (.getfield 69, 3) := by decide +kernel
theorem d_Md_takenNodes_52 : decode b_Md_takenNodes 52 = .ok (.iconst 4, 1) := by decide +kernel
theorem d_Md_takenNodes_53 : decode b_Md_takenNodes 53 = .ok (.iload_n 3, 1) := by decide +kernel
theorem d_Md_takenNodes_54 : decode b_Md_takenNodes 54 = .ok (.imul, 1) := by decide +kernel
theorem d_Md_takenNodes_55 : decode b_Md_takenNodes 55 = .ok (.iload 4, 2) := by decide +kernel
theorem d_Md_takenNodes_57 : decode b_Md_takenNodes 57 = .ok (.iadd, 1) := by decide +kernel
theorem d_Md_takenNodes_58 : decode b_Md_takenNodes 58 = .ok (.iaload, 1) := by decide +kernel
theorem d_Md_takenNodes_59 : decode b_Md_takenNodes 59 = .ok (.iadd, 1) := by decide +kernel
theorem d_Md_takenNodes_60 : decode b_Md_takenNodes 60 = .ok (.istore_n 2, 1) := by decide +kernel
theorem d_Md_takenNodes_61 : decode b_Md_takenNodes 61 = .ok (.iinc 4 (1), 3) := by decide +kernel
theorem d_Md_takenNodes_64 : decode b_Md_takenNodes 64 = .ok (.goto (-49), 3) := by decide +kernel
theorem d_Md_takenNodes_67 : decode b_Md_takenNodes 67 = .ok (.iinc 3 (1), 3) := by decide +kernel
theorem d_Md_takenNodes_70 : decode b_Md_takenNodes 70 = .ok (.goto (-66), 3) := by decide +kernel
theorem d_Md_takenNodes_73 : decode b_Md_takenNodes 73 = .ok (.iconst 0, 1) := by decide +kernel
theorem d_Md_takenNodes_74 : decode b_Md_takenNodes 74 = .ok (.istore_n 3, 1) := by decide +kernel
theorem d_Md_takenNodes_75 : decode b_Md_takenNodes 75 = .ok (.iload_n 3, 1) := by decide +kernel
theorem d_Md_takenNodes_76 : decode b_Md_takenNodes 76 = .ok (.aload_n 0, 1) := by decide +kernel
theorem d_Md_takenNodes_77 : decode b_Md_takenNodes 77 = .ok (.getfield 145, 3) := by decide +kernel
theorem d_Md_takenNodes_80 : decode b_Md_takenNodes 80 = .ok (.if_icmp .ge (42), 3) := by decide +kernel
theorem d_Md_takenNodes_83 : decode b_Md_takenNodes 83 = .ok (.iload_n 2, 1) := by decide +kernel
theorem d_Md_takenNodes_84 : decode b_Md_takenNodes 84 = .ok (.iload_n 1, 1) := by decide +kernel
theorem d_Md_takenNodes_85 : decode b_Md_takenNodes 85 = .ok (.aload_n 0, 1) := by decide +kernel
theorem d_Md_takenNodes_86 : decode b_Md_takenNodes 86 = .ok (.getfield 75, 3) := by decide +kernel
theorem d_Md_takenNodes_89 : decode b_Md_takenNodes 89 = .ok (.iload_n 3, 1) := by decide +kernel
theorem d_Md_takenNodes_90 : decode b_Md_takenNodes 90 = .ok (.iaload, 1) := by decide +kernel
theorem d_Md_takenNodes_91 : decode b_Md_takenNodes 91 = .ok (.if_icmp .lt (22), 3) := by decide +kernel
theorem d_Md_takenNodes_94 : decode b_Md_takenNodes 94 = .ok (.iload_n 1, 1) := by decide +kernel
theorem d_Md_takenNodes_95 : decode b_Md_takenNodes 95 = .ok (.aload_n 0, 1) := by decide +kernel
theorem d_Md_takenNodes_96 : decode b_Md_takenNodes 96 = .ok (.getfield 78, 3) := by decide +kernel
theorem d_Md_takenNodes_99 : decode b_Md_takenNodes 99 = .ok (.iload_n 3, 1) := by decide +kernel
theorem d_Md_takenNodes_100 : decode b_Md_takenNodes 100 = .ok (.iaload, 1) := by decide +kernel
theorem d_Md_takenNodes_101 : decode b_Md_takenNodes 101 = .ok (.if_icmp .ge (12), 3) := by decide +kernel
theorem d_Md_takenNodes_104 : decode b_Md_takenNodes 104 = .ok (.aload_n 0, 1) := by decide +kernel
theorem d_Md_takenNodes_105 : decode b_Md_takenNodes 105 = .ok (.getfield 72, 3) := by decide +kernel
theorem d_Md_takenNodes_108 : decode b_Md_takenNodes 108 = .ok (.iload_n 3, 1) := by decide +kernel
theorem d_Md_takenNodes_109 : decode b_Md_takenNodes 109 = .ok (.iaload, 1) := by decide +kernel
theorem d_Md_takenNodes_110 : decode b_Md_takenNodes 110 = .ok (.goto (4), 3) := by decide +kernel
theorem d_Md_takenNodes_113 : decode b_Md_takenNodes 113 = .ok (.iconst 0, 1) := by decide +kernel
theorem d_Md_takenNodes_114 : decode b_Md_takenNodes 114 = .ok (.iadd, 1) := by decide +kernel
theorem d_Md_takenNodes_115 : decode b_Md_takenNodes 115 = .ok (.istore_n 2, 1) := by decide +kernel
theorem d_Md_takenNodes_116 : decode b_Md_takenNodes 116 = .ok (.iinc 3 (1), 3) := by decide +kernel
theorem d_Md_takenNodes_119 : decode b_Md_takenNodes 119 = .ok (.goto (-44), 3) := by decide +kernel
theorem d_Md_takenNodes_122 : decode b_Md_takenNodes 122 = .ok (.iload_n 2, 1) := by decide +kernel
theorem d_Md_takenNodes_123 : decode b_Md_takenNodes 123 = .ok (.ireturn, 1) := by decide +kernel
theorem d_Md_takenLicences_0 : decode b_Md_takenLicences 0 = .ok (.iconst 0, 1) := by decide +kernel
theorem d_Md_takenLicences_1 : decode b_Md_takenLicences 1 = .ok (.istore_n 2, 1) := by decide +kernel
theorem d_Md_takenLicences_2 : decode b_Md_takenLicences 2 = .ok (.iconst 0, 1) := by decide +kernel
theorem d_Md_takenLicences_3 : decode b_Md_takenLicences 3 = .ok (.istore_n 3, 1) := by decide +kernel
theorem d_Md_takenLicences_4 : decode b_Md_takenLicences 4 = .ok (.iload_n 3, 1) := by decide +kernel
theorem d_Md_takenLicences_5 : decode b_Md_takenLicences 5 = .ok (.aload_n 0, 1) := by decide +kernel
theorem d_Md_takenLicences_6 : decode b_Md_takenLicences 6 = .ok (.getfield 124, 3) := by decide +kernel
theorem d_Md_takenLicences_9 : decode b_Md_takenLicences 9 = .ok (.if_icmp .ge (31), 3) := by decide +kernel
theorem d_Md_takenLicences_12 : decode b_Md_takenLicences 12 = .ok (.iload_n 2, 1) := by decide +kernel
theorem d_Md_takenLicences_13 : decode b_Md_takenLicences 13 = .ok (.aload_n 0, 1) := by decide +kernel
theorem d_Md_takenLicences_14 : decode b_Md_takenLicences 14 = .ok (.iload_n 3, 1) := by decide +kernel
theorem d_Md_takenLicences_15 : decode b_Md_takenLicences 15 = .ok (.iload_n 1, 1) := by decide +kernel
theorem d_Md_takenLicences_16 : decode b_Md_takenLicences 16 = .ok (.invokevirtual 141, 3) := by decide +kernel
theorem d_Md_takenLicences_19 : decode b_Md_takenLicences 19 = .ok (.ifCond .eq (12), 3) := by decide +kernel
theorem d_Md_takenLicences_22 : decode b_Md_takenLicences 22 = .ok (.aload_n 0, 1) := by decide +kernel
theorem d_Md_takenLicences_23 : decode b_Md_takenLicences 23 = .ok (.getfield 36, 3) := by decide +kernel
theorem d_Md_takenLicences_26 : decode b_Md_takenLicences 26 = .ok (.iload_n 3, 1) := by decide +kernel
theorem d_Md_takenLicences_27 : decode b_Md_takenLicences 27 = .ok (.iaload, 1) := by decide +kernel
theorem d_Md_takenLicences_28 : decode b_Md_takenLicences 28 = .ok (.goto (4), 3) := by decide +kernel
theorem d_Md_takenLicences_31 : decode b_Md_takenLicences 31 = .ok (.iconst 0, 1) := by decide +kernel
theorem d_Md_takenLicences_32 : decode b_Md_takenLicences 32 = .ok (.iadd, 1) := by decide +kernel
theorem d_Md_takenLicences_33 : decode b_Md_takenLicences 33 = .ok (.istore_n 2, 1) := by decide +kernel
theorem d_Md_takenLicences_34 : decode b_Md_takenLicences 34 = .ok (.iinc 3 (1), 3) := by decide +kernel
theorem d_Md_takenLicences_37 : decode b_Md_takenLicences 37 = .ok (.goto (-33), 3) := by decide +kernel
theorem d_Md_takenLicences_40 : decode b_Md_takenLicences 40 = .ok (.iload_n 2, 1) := by decide +kernel
theorem d_Md_takenLicences_41 : decode b_Md_takenLicences 41 = .ok (.ireturn, 1) := by decide +kernel
theorem d_Md_book_0 : decode b_Md_book 0 = .ok (.iload_n 1, 1) := by decide +kernel
theorem d_Md_book_1 : decode b_Md_book 1 = .ok (.iconst 1, 1) := by decide +kernel
theorem d_Md_book_2 : decode b_Md_book 2 = .ok (.bipush (64), 2) := by decide +kernel
theorem d_Md_book_4 : decode b_Md_book 4 = .ok (.invokestatic 120, 3) := by decide +kernel
theorem d_Md_book_7 : decode b_Md_book 7 = .ok (.ifCond .eq (23), 3) := by decide +kernel
theorem d_Md_book_10 : decode b_Md_book 10 = .ok (.iload_n 2, 1) := by decide +kernel
theorem d_Md_book_11 : decode b_Md_book 11 = .ok (.aload_n 0, 1) := by decide +kernel
theorem d_Md_book_12 : decode b_Md_book 12 = .ok (.getfield 148, 3) := by decide +kernel
theorem d_Md_book_15 : decode b_Md_book 15 = .ok (.if_icmp .lt (15), 3) := by decide +kernel
theorem d_Md_book_18 : decode b_Md_book 18 = .ok (.iload_n 3, 1) := by decide +kernel
theorem d_Md_book_19 : decode b_Md_book 19 = .ok (.iload_n 2, 1) := by decide +kernel
theorem d_Md_book_20 : decode b_Md_book 20 = .ok (.if_icmp .le (10), 3) := by decide +kernel
theorem d_Md_book_23 : decode b_Md_book 23 = .ok (.iload_n 3, 1) := by decide +kernel
theorem d_Md_book_24 : decode b_Md_book 24 = .ok (.sipush (3000), 3) := by decide +kernel
theorem d_Md_book_27 : decode b_Md_book 27 = .ok (.if_icmp .le (6), 3) := by decide +kernel
theorem d_Md_book_30 : decode b_Md_book 30 = .ok (.bipush (-3), 2) := by decide +kernel
theorem d_Md_book_32 : decode b_Md_book 32 = .ok (.ireturn, 1) := by decide +kernel
theorem d_Md_book_33 : decode b_Md_book 33 = .ok (.aload_n 0, 1) := by decide +kernel
theorem d_Md_book_34 : decode b_Md_book 34 = .ok (.invokevirtual 151, 3) := by decide +kernel
theorem d_Md_book_37 : decode b_Md_book 37 = .ok (.istore 4, 2) := by decide +kernel
theorem d_Md_book_39 : decode b_Md_book 39 = .ok (.iload_n 2, 1) := by decide +kernel
theorem d_Md_book_40 : decode b_Md_book 40 = .ok (.istore 5, 2) := by decide +kernel
theorem d_Md_book_42 : decode b_Md_book 42 = .ok (.iload 5, 2) := by decide +kernel
theorem d_Md_book_44 : decode b_Md_book 44 = .ok (.iload_n 3, 1) := by decide +kernel
theorem d_Md_book_45 : decode b_Md_book 45 = .ok (.if_icmp .ge (25), 3) := by decide +kernel
theorem d_Md_book_48 : decode b_Md_book 48 = .ok (.aload_n 0, 1) := by decide +kernel
theorem d_Md_book_49 : decode b_Md_book 49 = .ok (.iload 5, 2) := by decide +kernel
theorem d_Md_book_51 : decode b_Md_book 51 = .ok (.invokevirtual 155, 3) := by decide +kernel
theorem d_Md_book_54 : decode b_Md_book 54 = .ok (.iload_n 1, 1) := by decide +kernel
theorem d_Md_book_55 : decode b_Md_book 55 = .ok (.iadd, 1) := by decide +kernel
theorem d_Md_book_56 : decode b_Md_book 56 = .ok (.iload 4, 2) := by decide +kernel
theorem d_Md_book_58 : decode b_Md_book 58 = .ok (.if_icmp .le (6), 3) := by decide +kernel
theorem d_Md_book_61 : decode b_Md_book 61 = .ok (.bipush (-4), 2) := by decide +kernel
theorem d_Md_book_63 : decode b_Md_book 63 = .ok (.ireturn, 1) := by decide +kernel
theorem d_Md_book_64 : decode b_Md_book 64 = .ok (.iinc 5 (1), 3) := by decide +kernel
theorem d_Md_book_67 : decode b_Md_book 67 = .ok (.goto (-25), 3) := by decide +kernel
theorem d_Md_book_70 : decode b_Md_book 70 = .ok (.aload_n 0, 1) := by decide +kernel
theorem d_Md_book_71 : decode b_Md_book 71 = .ok (.getfield 145, 3) := by decide +kernel
theorem d_Md_book_74 : decode b_Md_book 74 = .ok (.bipush (8), 2) := by decide +kernel
theorem d_Md_book_76 : decode b_Md_book 76 = .ok (.if_icmp .ne (6), 3) := by decide +kernel
theorem d_Md_book_79 : decode b_Md_book 79 = .ok (.bipush (-5), 2) := by decide +kernel
theorem d_Md_book_81 : decode b_Md_book 81 = .ok (.ireturn, 1) := by decide +kernel
theorem d_Md_book_82 : decode b_Md_book 82 = .ok (.aload_n 0, 1) := by decide +kernel
theorem d_Md_book_83 : decode b_Md_book 83 = .ok (.getfield 72, 3) := by decide +kernel
theorem d_Md_book_86 : decode b_Md_book 86 = .ok (.aload_n 0, 1) := by decide +kernel
theorem d_Md_book_87 : decode b_Md_book 87 = .ok (.getfield 145, 3) := by decide +kernel
theorem d_Md_book_90 : decode b_Md_book 90 = .ok (.iload_n 1, 1) := by decide +kernel
theorem d_Md_book_91 : decode b_Md_book 91 = .ok (.iastore, 1) := by decide +kernel
theorem d_Md_book_92 : decode b_Md_book 92 = .ok (.aload_n 0, 1) := by decide +kernel
theorem d_Md_book_93 : decode b_Md_book 93 = .ok (.getfield 75, 3) := by decide +kernel
theorem d_Md_book_96 : decode b_Md_book 96 = .ok (.aload_n 0, 1) := by decide +kernel
theorem d_Md_book_97 : decode b_Md_book 97 = .ok (.getfield 145, 3) := by decide +kernel
theorem d_Md_book_100 : decode b_Md_book 100 = .ok (.iload_n 2, 1) := by decide +kernel
theorem d_Md_book_101 : decode b_Md_book 101 = .ok (.iastore, 1) := by decide +kernel
theorem d_Md_book_102 : decode b_Md_book 102 = .ok (.aload_n 0, 1) := by decide +kernel
theorem d_Md_book_103 : decode b_Md_book 103 = .ok (.getfield 78, 3) := by decide +kernel
theorem d_Md_book_106 : decode b_Md_book 106 = .ok (.aload_n 0, 1) := by decide +kernel
theorem d_Md_book_107 : decode b_Md_book 107 = .ok (.getfield 145, 3) := by decide +kernel
theorem d_Md_book_110 : decode b_Md_book 110 = .ok (.iload_n 3, 1) := by decide +kernel
theorem d_Md_book_111 : decode b_Md_book 111 = .ok (.iastore, 1) := by decide +kernel
theorem d_Md_book_112 : decode b_Md_book 112 = .ok (.aload_n 0, 1) := by decide +kernel
theorem d_Md_book_113 : decode b_Md_book 113 = .ok (.dup, 1) := by decide +kernel
theorem d_Md_book_114 : decode b_Md_book 114 = .ok (.getfield 145, 3) := by decide +kernel
theorem d_Md_book_117 : decode b_Md_book 117 = .ok (.iconst 1, 1) := by decide +kernel
theorem d_Md_book_118 : decode b_Md_book 118 = .ok (.iadd, 1) := by decide +kernel
theorem d_Md_book_119 : decode b_Md_book 119 = .ok (.putfield 145, 3) := by decide +kernel
theorem d_Md_book_122 : decode b_Md_book 122 = .ok (.aload_n 0, 1) := by decide +kernel
theorem d_Md_book_123 : decode b_Md_book 123 = .ok (.getfield 145, 3) := by decide +kernel
theorem d_Md_book_126 : decode b_Md_book 126 = .ok (.iconst 1, 1) := by decide +kernel
theorem d_Md_book_127 : decode b_Md_book 127 = .ok (.isub, 1) := by decide +kernel
theorem d_Md_book_128 : decode b_Md_book 128 = .ok (.ireturn, 1) := by decide +kernel
theorem d_Md_unbook_0 : decode b_Md_unbook 0 = .ok (.iload_n 1, 1) := by decide +kernel
theorem d_Md_unbook_1 : decode b_Md_unbook 1 = .ok (.iconst 0, 1) := by decide +kernel
theorem d_Md_unbook_2 : decode b_Md_unbook 2 = .ok (.aload_n 0, 1) := by decide +kernel
theorem d_Md_unbook_3 : decode b_Md_unbook 3 = .ok (.getfield 145, 3) := by decide +kernel
theorem d_Md_unbook_6 : decode b_Md_unbook 6 = .ok (.iconst 1, 1) := by decide +kernel
theorem d_Md_unbook_7 : decode b_Md_unbook 7 = .ok (.isub, 1) := by decide +kernel
theorem d_Md_unbook_8 : decode b_Md_unbook 8 = .ok (.invokestatic 120, 3) := by decide +kernel
theorem d_Md_unbook_11 : decode b_Md_unbook 11 = .ok (.ifCond .ne (6), 3) := by decide +kernel
theorem d_Md_unbook_14 : decode b_Md_unbook 14 = .ok (.bipush (-2), 2) := by decide +kernel
theorem d_Md_unbook_16 : decode b_Md_unbook 16 = .ok (.ireturn, 1) := by decide +kernel
theorem d_Md_unbook_17 : decode b_Md_unbook 17 = .ok (.aload_n 0, 1) := by decide +kernel
theorem d_Md_unbook_18 : decode b_Md_unbook 18 = .ok (.dup, 1) := by decide +kernel
theorem d_Md_unbook_19 : decode b_Md_unbook 19 = .ok (.getfield 145, 3) := by decide +kernel
theorem d_Md_unbook_22 : decode b_Md_unbook 22 = .ok (.iconst 1, 1) := by decide +kernel
theorem d_Md_unbook_23 : decode b_Md_unbook 23 = .ok (.isub, 1) := by decide +kernel
theorem d_Md_unbook_24 : decode b_Md_unbook 24 = .ok (.putfield 145, 3) := by decide +kernel
theorem d_Md_unbook_27 : decode b_Md_unbook 27 = .ok (.iload_n 1, 1) := by decide +kernel
theorem d_Md_unbook_28 : decode b_Md_unbook 28 = .ok (.istore_n 2, 1) := by decide +kernel
theorem d_Md_unbook_29 : decode b_Md_unbook 29 = .ok (.iload_n 2, 1) := by decide +kernel
theorem d_Md_unbook_30 : decode b_Md_unbook 30 = .ok (.aload_n 0, 1) := by decide +kernel
theorem d_Md_unbook_31 : decode b_Md_unbook 31 = .ok (.getfield 145, 3) := by decide +kernel
theorem d_Md_unbook_34 : decode b_Md_unbook 34 = .ok (.if_icmp .ge (51), 3) := by decide +kernel
theorem d_Md_unbook_37 : decode b_Md_unbook 37 = .ok (.aload_n 0, 1) := by decide +kernel
theorem d_Md_unbook_38 : decode b_Md_unbook 38 = .ok (.getfield 72, 3) := by decide +kernel
theorem d_Md_unbook_41 : decode b_Md_unbook 41 = .ok (.iload_n 2, 1) := by decide +kernel
theorem d_Md_unbook_42 : decode b_Md_unbook 42 = .ok (.aload_n 0, 1) := by decide +kernel
theorem d_Md_unbook_43 : decode b_Md_unbook 43 = .ok (.getfield 72, 3) := by decide +kernel
theorem d_Md_unbook_46 : decode b_Md_unbook 46 = .ok (.iload_n 2, 1) := by decide +kernel
theorem d_Md_unbook_47 : decode b_Md_unbook 47 = .ok (.iconst 1, 1) := by decide +kernel
theorem d_Md_unbook_48 : decode b_Md_unbook 48 = .ok (.iadd, 1) := by decide +kernel
theorem d_Md_unbook_49 : decode b_Md_unbook 49 = .ok (.iaload, 1) := by decide +kernel
theorem d_Md_unbook_50 : decode b_Md_unbook 50 = .ok (.iastore, 1) := by decide +kernel
theorem d_Md_unbook_51 : decode b_Md_unbook 51 = .ok (.aload_n 0, 1) := by decide +kernel
theorem d_Md_unbook_52 : decode b_Md_unbook 52 = .ok (.getfield 75, 3) := by decide +kernel
theorem d_Md_unbook_55 : decode b_Md_unbook 55 = .ok (.iload_n 2, 1) := by decide +kernel
theorem d_Md_unbook_56 : decode b_Md_unbook 56 = .ok (.aload_n 0, 1) := by decide +kernel
theorem d_Md_unbook_57 : decode b_Md_unbook 57 = .ok (.getfield 75, 3) := by decide +kernel
theorem d_Md_unbook_60 : decode b_Md_unbook 60 = .ok (.iload_n 2, 1) := by decide +kernel
theorem d_Md_unbook_61 : decode b_Md_unbook 61 = .ok (.iconst 1, 1) := by decide +kernel
theorem d_Md_unbook_62 : decode b_Md_unbook 62 = .ok (.iadd, 1) := by decide +kernel
theorem d_Md_unbook_63 : decode b_Md_unbook 63 = .ok (.iaload, 1) := by decide +kernel
theorem d_Md_unbook_64 : decode b_Md_unbook 64 = .ok (.iastore, 1) := by decide +kernel
theorem d_Md_unbook_65 : decode b_Md_unbook 65 = .ok (.aload_n 0, 1) := by decide +kernel
theorem d_Md_unbook_66 : decode b_Md_unbook 66 = .ok (.getfield 78, 3) := by decide +kernel
theorem d_Md_unbook_69 : decode b_Md_unbook 69 = .ok (.iload_n 2, 1) := by decide +kernel
theorem d_Md_unbook_70 : decode b_Md_unbook 70 = .ok (.aload_n 0, 1) := by decide +kernel
theorem d_Md_unbook_71 : decode b_Md_unbook 71 = .ok (.getfield 78, 3) := by decide +kernel
theorem d_Md_unbook_74 : decode b_Md_unbook 74 = .ok (.iload_n 2, 1) := by decide +kernel
theorem d_Md_unbook_75 : decode b_Md_unbook 75 = .ok (.iconst 1, 1) := by decide +kernel
theorem d_Md_unbook_76 : decode b_Md_unbook 76 = .ok (.iadd, 1) := by decide +kernel
theorem d_Md_unbook_77 : decode b_Md_unbook 77 = .ok (.iaload, 1) := by decide +kernel
theorem d_Md_unbook_78 : decode b_Md_unbook 78 = .ok (.iastore, 1) := by decide +kernel
theorem d_Md_unbook_79 : decode b_Md_unbook 79 = .ok (.iinc 2 (1), 3) := by decide +kernel
theorem d_Md_unbook_82 : decode b_Md_unbook 82 = .ok (.goto (-53), 3) := by decide +kernel
theorem d_Md_unbook_85 : decode b_Md_unbook 85 = .ok (.iconst 1, 1) := by decide +kernel
theorem d_Md_unbook_86 : decode b_Md_unbook 86 = .ok (.ireturn, 1) := by decide +kernel
theorem d_Md_leftOf_0 : decode b_Md_leftOf 0 = .ok (.aload_n 0, 1) := by decide +kernel
theorem d_Md_leftOf_1 : decode b_Md_leftOf 1 = .ok (.getfield 39, 3) := by decide +kernel
theorem d_Md_leftOf_4 : decode b_Md_leftOf 4 = .ok (.iload_n 1, 1) := by decide +kernel
theorem d_Md_leftOf_5 : decode b_Md_leftOf 5 = .ok (.iaload, 1) := by decide +kernel
theorem d_Md_leftOf_6 : decode b_Md_leftOf 6 = .ok (.aload_n 0, 1) := by decide +kernel
theorem d_Md_leftOf_7 : decode b_Md_leftOf 7 = .ok (.getfield 60, 3) := by decide +kernel
theorem d_Md_leftOf_10 : decode b_Md_leftOf 10 = .ok (.iload_n 1, 1) := by decide +kernel
theorem d_Md_leftOf_11 : decode b_Md_leftOf 11 = .ok (.iaload, 1) := by decide +kernel
theorem d_Md_leftOf_12 : decode b_Md_leftOf 12 = .ok (.isub, 1) := by decide +kernel
theorem d_Md_leftOf_13 : decode b_Md_leftOf 13 = .ok (.ireturn, 1) := by decide +kernel
theorem d_Md_fits_0 : decode b_Md_fits 0 = .ok (.iconst 1, 1) := by decide +kernel
theorem d_Md_fits_1 : decode b_Md_fits 1 = .ok (.istore 4, 2) := by decide +kernel
theorem d_Md_fits_3 : decode b_Md_fits 3 = .ok (.iload_n 2, 1) := by decide +kernel
theorem d_Md_fits_4 : decode b_Md_fits 4 = .ok (.istore 5, 2) := by decide +kernel
theorem d_Md_fits_6 : decode b_Md_fits 6 = .ok (.iload 5, 2) := by decide +kernel
theorem d_Md_fits_8 : decode b_Md_fits 8 = .ok (.iload_n 2, 1) := by decide +kernel
theorem d_Md_fits_9 : decode b_Md_fits 9 = .ok (.aload_n 0, 1) := by decide +kernel
theorem d_Md_fits_10 : decode b_Md_fits 10 = .ok (.iload_n 1, 1) := by decide +kernel
theorem d_Md_fits_11 : decode b_Md_fits 11 = .ok (.invokevirtual 159, 3) := by decide +kernel
theorem d_Md_fits_14 : decode b_Md_fits 14 = .ok (.iadd, 1) := by decide +kernel
theorem d_Md_fits_15 : decode b_Md_fits 15 = .ok (.if_icmp .ge (161), 3) := by decide +kernel
theorem d_Md_fits_18 : decode b_Md_fits 18 = .ok (.iload 4, 2) := by decide +kernel
theorem d_Md_fits_20 : decode b_Md_fits 20 = .ok (.ifCond .eq (156), 3) := by decide +kernel
theorem d_Md_fits_23 : decode b_Md_fits 23 = .ok (.iload_n 3, 1) := by decide +kernel
theorem d_Md_fits_24 : decode b_Md_fits 24 = .ok (.ifCond .eq (38), 3) := by decide +kernel
theorem d_Md_fits_27 : decode b_Md_fits 27 = .ok (.aload_n 0, 1) := by decide +kernel
theorem d_Md_fits_28 : decode b_Md_fits 28 = .ok (.getfield 84, 3) := by decide +kernel
theorem d_Md_fits_31 : decode b_Md_fits 31 = .ok (.iconst (-1), 1) := by decide +kernel
theorem d_Md_fits_32 : decode b_Md_fits 32 = .ok (.if_icmp .eq (30), 3) := by decide +kernel
theorem d_Md_fits_35 : decode b_Md_fits 35 = .ok (.iload 5, 2) := by decide +kernel
theorem d_Md_fits_37 : decode b_Md_fits 37 = .ok (.aload_n 0, 1) := by decide +kernel
theorem d_Md_fits_38 : decode b_Md_fits 38 = .ok (.getfield 84, 3) := by decide +kernel
theorem d_Md_fits_41 : decode b_Md_fits 41 = .ok (.if_icmp .lt (21), 3) := by decide +kernel
theorem d_Md_fits_44 : decode b_Md_fits 44 = .ok (.iload 5, 2) := by decide +kernel
theorem d_Md_fits_46 : decode b_Md_fits 46 = .ok (.aload_n 0, 1) := by decide +kernel
theorem d_Md_fits_47 : decode b_Md_fits 47 = .ok (.getfield 84, 3) := by decide +kernel
theorem d_Md_fits_50 : decode b_Md_fits 50 = .ok (.aload_n 0, 1) := by decide +kernel
theorem d_Md_fits_51 : decode b_Md_fits 51 = .ok (.getfield 162, 3) := by decide +kernel
theorem d_Md_fits_54 : decode b_Md_fits 54 = .ok (.iadd, 1) := by decide +kernel
theorem d_Md_fits_55 : decode b_Md_fits 55 = .ok (.if_icmp .ge (7), 3) := by decide +kernel
theorem d_Md_fits_58 : decode b_Md_fits 58 = .ok (.iconst 1, 1) := by decide +kernel
theorem d_Md_fits_59 : decode b_Md_fits 59 = .ok (.goto (4), 3) := by decide +kernel
theorem d_Md_fits_62 : decode b_Md_fits 62 = .ok (.iconst 0, 1) := by decide +kernel
theorem d_Md_fits_63 : decode b_Md_fits 63 = .ok (.istore 6, 2) := by decide +kernel
theorem d_Md_fits_65 : decode b_Md_fits 65 = .ok (.aload_n 0, 1) := by decide +kernel
theorem d_Md_fits_66 : decode b_Md_fits 66 = .ok (.getfield 87, 3) := by decide +kernel
theorem d_Md_fits_69 : decode b_Md_fits 69 = .ok (.iload 5, 2) := by decide +kernel
theorem d_Md_fits_71 : decode b_Md_fits 71 = .ok (.aload_n 0, 1) := by decide +kernel
theorem d_Md_fits_72 : decode b_Md_fits 72 = .ok (.getfield 148, 3) := by decide +kernel
theorem d_Md_fits_75 : decode b_Md_fits 75 = .ok (.isub, 1) := by decide +kernel
theorem d_Md_fits_76 : decode b_Md_fits 76 = .ok (.iaload, 1) := by decide +kernel
theorem d_Md_fits_77 : decode b_Md_fits 77 = .ok (.aload_n 0, 1) := by decide +kernel
theorem d_Md_fits_78 : decode b_Md_fits 78 = .ok (.getfield 33, 3) := by decide +kernel
theorem d_Md_fits_81 : decode b_Md_fits 81 = .ok (.iload_n 1, 1) := by decide +kernel
theorem d_Md_fits_82 : decode b_Md_fits 82 = .ok (.iaload, 1) := by decide +kernel
theorem d_Md_fits_83 : decode b_Md_fits 83 = .ok (.iadd, 1) := by decide +kernel
theorem d_Md_fits_84 : decode b_Md_fits 84 = .ok (.iload 6, 2) := by decide +kernel
theorem d_Md_fits_86 : decode b_Md_fits 86 = .ok (.ifCond .eq (15), 3) := by decide +kernel
theorem d_Md_fits_89 : decode b_Md_fits 89 = .ok (.aload_n 0, 1) := by decide +kernel
theorem d_Md_fits_90 : decode b_Md_fits 90 = .ok (.getfield 33, 3) := by decide +kernel
theorem d_Md_fits_93 : decode b_Md_fits 93 = .ok (.aload_n 0, 1) := by decide +kernel
theorem d_Md_fits_94 : decode b_Md_fits 94 = .ok (.getfield 81, 3) := by decide +kernel
theorem d_Md_fits_97 : decode b_Md_fits 97 = .ok (.iaload, 1) := by decide +kernel
theorem d_Md_fits_98 : decode b_Md_fits 98 = .ok (.goto (4), 3) := by decide +kernel
theorem d_Md_fits_101 : decode b_Md_fits 101 = .ok (.iconst 0, 1) := by decide +kernel
theorem d_Md_fits_102 : decode b_Md_fits 102 = .ok (.iadd, 1) := by decide +kernel
theorem d_Md_fits_103 : decode b_Md_fits 103 = .ok (.istore 7, 2) := by decide +kernel
theorem d_Md_fits_105 : decode b_Md_fits 105 = .ok (.aload_n 0, 1) := by decide +kernel
theorem d_Md_fits_106 : decode b_Md_fits 106 = .ok (.getfield 90, 3) := by decide +kernel
theorem d_Md_fits_109 : decode b_Md_fits 109 = .ok (.iload 5, 2) := by decide +kernel
theorem d_Md_fits_111 : decode b_Md_fits 111 = .ok (.aload_n 0, 1) := by decide +kernel
theorem d_Md_fits_112 : decode b_Md_fits 112 = .ok (.getfield 148, 3) := by decide +kernel
theorem d_Md_fits_115 : decode b_Md_fits 115 = .ok (.isub, 1) := by decide +kernel
theorem d_Md_fits_116 : decode b_Md_fits 116 = .ok (.iaload, 1) := by decide +kernel
theorem d_Md_fits_117 : decode b_Md_fits 117 = .ok (.aload_n 0, 1) := by decide +kernel
theorem d_Md_fits_118 : decode b_Md_fits 118 = .ok (.getfield 36, 3) := by decide +kernel
theorem d_Md_fits_121 : decode b_Md_fits 121 = .ok (.iload_n 1, 1) := by decide +kernel
theorem d_Md_fits_122 : decode b_Md_fits 122 = .ok (.iaload, 1) := by decide +kernel
theorem d_Md_fits_123 : decode b_Md_fits 123 = .ok (.iadd, 1) := by decide +kernel
theorem d_Md_fits_124 : decode b_Md_fits 124 = .ok (.iload 6, 2) := by decide +kernel
theorem d_Md_fits_126 : decode b_Md_fits 126 = .ok (.ifCond .eq (15), 3) := by decide +kernel
theorem d_Md_fits_129 : decode b_Md_fits 129 = .ok (.aload_n 0, 1) := by decide +kernel
theorem d_Md_fits_130 : decode b_Md_fits 130 = .ok (.getfield 36, 3) := by decide +kernel
theorem d_Md_fits_133 : decode b_Md_fits 133 = .ok (.aload_n 0, 1) := by decide +kernel
theorem d_Md_fits_134 : decode b_Md_fits 134 = .ok (.getfield 81, 3) := by decide +kernel
theorem d_Md_fits_137 : decode b_Md_fits 137 = .ok (.iaload, 1) := by decide +kernel
theorem d_Md_fits_138 : decode b_Md_fits 138 = .ok (.goto (4), 3) := by decide +kernel
theorem d_Md_fits_141 : decode b_Md_fits 141 = .ok (.iconst 0, 1) := by decide +kernel
theorem d_Md_fits_142 : decode b_Md_fits 142 = .ok (.iadd, 1) := by decide +kernel
theorem d_Md_fits_143 : decode b_Md_fits 143 = .ok (.istore 8, 2) := by decide +kernel
theorem d_Md_fits_145 : decode b_Md_fits 145 = .ok (.iload 7, 2) := by decide +kernel
theorem d_Md_fits_147 : decode b_Md_fits 147 = .ok (.aload_n 0, 1) := by decide +kernel
theorem d_Md_fits_148 : decode b_Md_fits 148 = .ok (.getfield 165, 3) := by decide +kernel
theorem d_Md_fits_151 : decode b_Md_fits 151 = .ok (.if_icmp .gt (16), 3) := by decide +kernel
theorem d_Md_fits_154 : decode b_Md_fits 154 = .ok (.iload 8, 2) := by decide +kernel
theorem d_Md_fits_156 : decode b_Md_fits 156 = .ok (.aload_n 0, 1) := by decide +kernel
theorem d_Md_fits_157 : decode b_Md_fits 157 = .ok (.getfield 13, 3) := by decide +kernel
theorem d_Md_fits_160 : decode b_Md_fits 160 = .ok (.if_icmp .gt (7), 3) := by decide +kernel
theorem d_Md_fits_163 : decode b_Md_fits 163 = .ok (.iconst 1, 1) := by decide +kernel
theorem d_Md_fits_164 : decode b_Md_fits 164 = .ok (.goto (4), 3) := by decide +kernel
theorem d_Md_fits_167 : decode b_Md_fits 167 = .ok (.iconst 0, 1) := by decide +kernel
theorem d_Md_fits_168 : decode b_Md_fits 168 = .ok (.istore 4, 2) := by decide +kernel
theorem d_Md_fits_170 : decode b_Md_fits 170 = .ok (.iinc 5 (1), 3) := by decide +kernel
theorem d_Md_fits_173 : decode b_Md_fits 173 = .ok (.goto (-167), 3) := by decide +kernel
theorem d_Md_fits_176 : decode b_Md_fits 176 = .ok (.iload 4, 2) := by decide +kernel
theorem d_Md_fits_178 : decode b_Md_fits 178 = .ok (.ireturn, 1) := by decide +kernel
theorem d_Md_freeOn_0 : decode b_Md_freeOn 0 = .ok (.aload_n 0, 1) := by decide +kernel
theorem d_Md_freeOn_1 : decode b_Md_freeOn 1 = .ok (.getfield 16, 3) := by decide +kernel
theorem d_Md_freeOn_4 : decode b_Md_freeOn 4 = .ok (.iload_n 1, 1) := by decide +kernel
theorem d_Md_freeOn_5 : decode b_Md_freeOn 5 = .ok (.iaload, 1) := by decide +kernel
theorem d_Md_freeOn_6 : decode b_Md_freeOn 6 = .ok (.istore_n 2, 1) := by decide +kernel
theorem d_Md_freeOn_7 : decode b_Md_freeOn 7 = .ok (.iconst 0, 1) := by decide +kernel
theorem d_Md_freeOn_8 : decode b_Md_freeOn 8 = .ok (.istore_n 3, 1) := by decide +kernel
theorem d_Md_freeOn_9 : decode b_Md_freeOn 9 = .ok (.iload_n 3, 1) := by decide +kernel
theorem d_Md_freeOn_10 : decode b_Md_freeOn 10 = .ok (.aload_n 0, 1) := by decide +kernel
theorem d_Md_freeOn_11 : decode b_Md_freeOn 11 = .ok (.getfield 124, 3) := by decide +kernel
theorem d_Md_freeOn_14 : decode b_Md_freeOn 14 = .ok (.if_icmp .ge (22), 3) := by decide +kernel
theorem d_Md_freeOn_17 : decode b_Md_freeOn 17 = .ok (.iload_n 2, 1) := by decide +kernel
theorem d_Md_freeOn_18 : decode b_Md_freeOn 18 = .ok (.aload_n 0, 1) := by decide +kernel
theorem d_Md_freeOn_19 : decode b_Md_freeOn 19 = .ok (.getfield 69, 3) := by decide +kernel
theorem d_Md_freeOn_22 : decode b_Md_freeOn 22 = .ok (.iconst 4, 1) := by decide +kernel
theorem d_Md_freeOn_23 : decode b_Md_freeOn 23 = .ok (.iload_n 3, 1) := by decide +kernel
theorem d_Md_freeOn_24 : decode b_Md_freeOn 24 = .ok (.imul, 1) := by decide +kernel
theorem d_Md_freeOn_25 : decode b_Md_freeOn 25 = .ok (.iload_n 1, 1) := by decide +kernel
theorem d_Md_freeOn_26 : decode b_Md_freeOn 26 = .ok (.iadd, 1) := by decide +kernel
theorem d_Md_freeOn_27 : decode b_Md_freeOn 27 = .ok (.iaload, 1) := by decide +kernel
theorem d_Md_freeOn_28 : decode b_Md_freeOn 28 = .ok (.isub, 1) := by decide +kernel
theorem d_Md_freeOn_29 : decode b_Md_freeOn 29 = .ok (.istore_n 2, 1) := by decide +kernel
theorem d_Md_freeOn_30 : decode b_Md_freeOn 30 = .ok (.iinc 3 (1), 3) := by decide +kernel
theorem d_Md_freeOn_33 : decode b_Md_freeOn 33 = .ok (.goto (-24), 3) := by decide +kernel
theorem d_Md_freeOn_36 : decode b_Md_freeOn 36 = .ok (.iload_n 2, 1) := by decide +kernel
theorem d_Md_freeOn_37 : decode b_Md_freeOn 37 = .ok (.ireturn, 1) := by decide +kernel
theorem d_Md_begin_0 : decode b_Md_begin 0 = .ok (.iconst 0, 1) := by decide +kernel
theorem d_Md_begin_1 : decode b_Md_begin 1 = .ok (.istore_n 2, 1) := by decide +kernel
theorem d_Md_begin_2 : decode b_Md_begin 2 = .ok (.iconst 5, 1) := by decide +kernel
theorem d_Md_begin_3 : decode b_Md_begin 3 = .ok (.istore_n 3, 1) := by decide +kernel
theorem d_Md_begin_4 : decode b_Md_begin 4 = .ok (.iconst 1, 1) := by decide +kernel
theorem d_Md_begin_5 : decode b_Md_begin 5 = .ok (.istore 4, 2) := by decide +kernel
theorem d_Md_begin_7 : decode b_Md_begin 7 = .ok (.iload 4, 2) := by decide +kernel
theorem d_Md_begin_9 : decode b_Md_begin 9 = .ok (.iconst 1, 1) := by decide +kernel
theorem d_Md_begin_10 : decode b_Md_begin 10 = .ok (.aload_n 0, 1) := by decide +kernel
theorem d_Md_begin_11 : decode b_Md_begin 11 = .ok (.getfield 117, 3) := by decide +kernel
theorem d_Md_begin_14 : decode b_Md_begin 14 = .ok (.ishl, 1) := by decide +kernel
theorem d_Md_begin_15 : decode b_Md_begin 15 = .ok (.if_icmp .ge (111), 3) := by decide +kernel
theorem d_Md_begin_18 : decode b_Md_begin 18 = .ok (.iconst 0, 1) := by decide +kernel
theorem d_Md_begin_19 : decode b_Md_begin 19 = .ok (.istore 5, 2) := by decide +kernel
theorem d_Md_begin_21 : decode b_Md_begin 21 = .ok (.iconst 0, 1) := by decide +kernel
theorem d_Md_begin_22 : decode b_Md_begin 22 = .ok (.istore 6, 2) := by decide +kernel
theorem d_Md_begin_24 : decode b_Md_begin 24 = .ok (.iconst 1, 1) := by decide +kernel
theorem d_Md_begin_25 : decode b_Md_begin 25 = .ok (.istore 7, 2) := by decide +kernel
theorem d_Md_begin_27 : decode b_Md_begin 27 = .ok (.iconst 0, 1) := by decide +kernel
theorem d_Md_begin_28 : decode b_Md_begin 28 = .ok (.istore 8, 2) := by decide +kernel
theorem d_Md_begin_30 : decode b_Md_begin 30 = .ok (.iload 8, 2) := by decide +kernel
theorem d_Md_begin_32 : decode b_Md_begin 32 = .ok (.aload_n 0, 1) := by decide +kernel
theorem d_Md_begin_33 : decode b_Md_begin 33 = .ok (.getfield 117, 3) := by decide +kernel
theorem d_Md_begin_36 : decode b_Md_begin 36 = .ok (.if_icmp .ge (56), 3) := by decide +kernel
theorem d_Md_begin_39 : decode b_Md_begin 39 = .ok (.iload 4, 2) := by decide +kernel
theorem d_Md_begin_41 : decode b_Md_begin 41 = .ok (.iload 8, 2) := by decide +kernel
theorem d_Md_begin_43 : decode b_Md_begin 43 = .ok (.ishr, 1) := by decide +kernel
theorem d_Md_begin_44 : decode b_Md_begin 44 = .ok (.iconst 1, 1) := by decide +kernel
theorem d_Md_begin_45 : decode b_Md_begin 45 = .ok (.iand, 1) := by decide +kernel
theorem d_Md_begin_46 : decode b_Md_begin 46 = .ok (.iconst 1, 1) := by decide +kernel
theorem d_Md_begin_47 : decode b_Md_begin 47 = .ok (.if_icmp .ne (39), 3) := by decide +kernel
theorem d_Md_begin_50 : decode b_Md_begin 50 = .ok (.iload 5, 2) := by decide +kernel
theorem d_Md_begin_52 : decode b_Md_begin 52 = .ok (.aload_n 0, 1) := by decide +kernel
theorem d_Md_begin_53 : decode b_Md_begin 53 = .ok (.iload 8, 2) := by decide +kernel
theorem d_Md_begin_55 : decode b_Md_begin 55 = .ok (.invokevirtual 168, 3) := by decide +kernel
theorem d_Md_begin_58 : decode b_Md_begin 58 = .ok (.iadd, 1) := by decide +kernel
theorem d_Md_begin_59 : decode b_Md_begin 59 = .ok (.istore 5, 2) := by decide +kernel
theorem d_Md_begin_61 : decode b_Md_begin 61 = .ok (.iinc 6 (1), 3) := by decide +kernel
theorem d_Md_begin_64 : decode b_Md_begin 64 = .ok (.iload 7, 2) := by decide +kernel
theorem d_Md_begin_66 : decode b_Md_begin 66 = .ok (.ifCond .eq (17), 3) := by decide +kernel
theorem d_Md_begin_69 : decode b_Md_begin 69 = .ok (.aload_n 0, 1) := by decide +kernel
theorem d_Md_begin_70 : decode b_Md_begin 70 = .ok (.getfield 20, 3) := by decide +kernel
theorem d_Md_begin_73 : decode b_Md_begin 73 = .ok (.iload 8, 2) := by decide +kernel
theorem d_Md_begin_75 : decode b_Md_begin 75 = .ok (.baload, 1) := by decide +kernel
theorem d_Md_begin_76 : decode b_Md_begin 76 = .ok (.ifCond .ne (7), 3) := by decide +kernel
theorem d_Md_begin_79 : decode b_Md_begin 79 = .ok (.iconst 1, 1) := by decide +kernel
theorem d_Md_begin_80 : decode b_Md_begin 80 = .ok (.goto (4), 3) := by decide +kernel
theorem d_Md_begin_83 : decode b_Md_begin 83 = .ok (.iconst 0, 1) := by decide +kernel
theorem d_Md_begin_84 : decode b_Md_begin 84 = .ok (.istore 7, 2) := by decide +kernel
theorem d_Md_begin_86 : decode b_Md_begin 86 = .ok (.iinc 8 (1), 3) := by decide +kernel
theorem d_Md_begin_89 : decode b_Md_begin 89 = .ok (.goto (-59), 3) := by decide +kernel
theorem d_Md_begin_92 : decode b_Md_begin 92 = .ok (.iload 7, 2) := by decide +kernel
theorem d_Md_begin_94 : decode b_Md_begin 94 = .ok (.ifCond .eq (26), 3) := by decide +kernel
theorem d_Md_begin_97 : decode b_Md_begin 97 = .ok (.iload 5, 2) := by decide +kernel
theorem d_Md_begin_99 : decode b_Md_begin 99 = .ok (.aload_n 0, 1) := by decide +kernel
theorem d_Md_begin_100 : decode b_Md_begin 100 = .ok (.getfield 33, 3) := by decide +kernel
theorem d_Md_begin_103 : decode b_Md_begin 103 = .ok (.iload_n 1, 1) := by decide +kernel
theorem d_Md_begin_104 : decode b_Md_begin 104 = .ok (.iaload, 1) := by decide +kernel
theorem d_Md_begin_105 : decode b_Md_begin 105 = .ok (.if_icmp .lt (15), 3) := by decide +kernel
theorem d_Md_begin_108 : decode b_Md_begin 108 = .ok (.iload 6, 2) := by decide +kernel
theorem d_Md_begin_110 : decode b_Md_begin 110 = .ok (.iload_n 3, 1) := by decide +kernel
theorem d_Md_begin_111 : decode b_Md_begin 111 = .ok (.if_icmp .ge (9), 3) := by decide +kernel
theorem d_Md_begin_114 : decode b_Md_begin 114 = .ok (.iload 6, 2) := by decide +kernel
theorem d_Md_begin_116 : decode b_Md_begin 116 = .ok (.istore_n 3, 1) := by decide +kernel
theorem d_Md_begin_117 : decode b_Md_begin 117 = .ok (.iload 4, 2) := by decide +kernel
theorem d_Md_begin_119 : decode b_Md_begin 119 = .ok (.istore_n 2, 1) := by decide +kernel
theorem d_Md_begin_120 : decode b_Md_begin 120 = .ok (.iinc 4 (1), 3) := by decide +kernel
theorem d_Md_begin_123 : decode b_Md_begin 123 = .ok (.goto (-116), 3) := by decide +kernel
theorem d_Md_begin_126 : decode b_Md_begin 126 = .ok (.aload_n 0, 1) := by decide +kernel
theorem d_Md_begin_127 : decode b_Md_begin 127 = .ok (.getfield 33, 3) := by decide +kernel
theorem d_Md_begin_130 : decode b_Md_begin 130 = .ok (.iload_n 1, 1) := by decide +kernel
theorem d_Md_begin_131 : decode b_Md_begin 131 = .ok (.iaload, 1) := by decide +kernel
theorem d_Md_begin_132 : decode b_Md_begin 132 = .ok (.istore 4, 2) := by decide +kernel
theorem d_Md_begin_134 : decode b_Md_begin 134 = .ok (.iconst 0, 1) := by decide +kernel
theorem d_Md_begin_135 : decode b_Md_begin 135 = .ok (.istore 5, 2) := by decide +kernel
theorem d_Md_begin_137 : decode b_Md_begin 137 = .ok (.iload 5, 2) := by decide +kernel
theorem d_Md_begin_139 : decode b_Md_begin 139 = .ok (.aload_n 0, 1) := by decide +kernel
theorem d_Md_begin_140 : decode b_Md_begin 140 = .ok (.getfield 117, 3) := by decide +kernel
theorem d_Md_begin_143 : decode b_Md_begin 143 = .ok (.if_icmp .ge (63), 3) := by decide +kernel
theorem d_Md_begin_146 : decode b_Md_begin 146 = .ok (.iload_n 2, 1) := by decide +kernel
theorem d_Md_begin_147 : decode b_Md_begin 147 = .ok (.iload 5, 2) := by decide +kernel
theorem d_Md_begin_149 : decode b_Md_begin 149 = .ok (.ishr, 1) := by decide +kernel
theorem d_Md_begin_150 : decode b_Md_begin 150 = .ok (.iconst 1, 1) := by decide +kernel
theorem d_Md_begin_151 : decode b_Md_begin 151 = .ok (.iand, 1) := by decide +kernel
theorem d_Md_begin_152 : decode b_Md_begin 152 = .ok (.iconst 1, 1) := by decide +kernel
theorem d_Md_begin_153 : decode b_Md_begin 153 = .ok (.if_icmp .ne (47), 3) := by decide +kernel
theorem d_Md_begin_156 : decode b_Md_begin 156 = .ok (.aload_n 0, 1) := by decide +kernel
theorem d_Md_begin_157 : decode b_Md_begin 157 = .ok (.iload 5, 2) := by decide +kernel
theorem d_Md_begin_159 : decode b_Md_begin 159 = .ok (.invokevirtual 168, 3) := by decide +kernel
theorem d_Md_begin_162 : decode b_Md_begin 162 = .ok (.istore 6, 2) := by decide +kernel
theorem d_Md_begin_164 : decode b_Md_begin 164 = .ok (.iload 6, 2) := by decide +kernel
theorem d_Md_begin_166 : decode b_Md_begin 166 = .ok (.iload 4, 2) := by decide +kernel
theorem d_Md_begin_168 : decode b_Md_begin 168 = .ok (.if_icmp .ge (8), 3) := by decide +kernel
theorem d_Md_begin_171 : decode b_Md_begin 171 = .ok (.iload 6, 2) := by decide +kernel
theorem d_Md_begin_173 : decode b_Md_begin 173 = .ok (.goto (5), 3) := by decide +kernel
theorem d_Md_begin_176 : decode b_Md_begin 176 = .ok (.iload 4, 2) := by decide +kernel
theorem d_Md_begin_178 : decode b_Md_begin 178 = .ok (.istore 7, 2) := by decide +kernel
theorem d_Md_begin_180 : decode b_Md_begin 180 = .ok (.aload_n 0, 1) := by decide +kernel
theorem d_Md_begin_181 : decode b_Md_begin 181 = .ok (.getfield 69, 3) := by decide +kernel
theorem d_Md_begin_184 : decode b_Md_begin 184 = .ok (.iconst 4, 1) := by decide +kernel
theorem d_Md_begin_185 : decode b_Md_begin 185 = .ok (.iload_n 1, 1) := by decide +kernel
theorem d_Md_begin_186 : decode b_Md_begin 186 = .ok (.imul, 1) := by decide +kernel
theorem d_Md_begin_187 : decode b_Md_begin 187 = .ok (.iload 5, 2) := by decide +kernel
theorem d_Md_begin_189 : decode b_Md_begin 189 = .ok (.iadd, 1) := by decide +kernel
theorem d_Md_begin_190 : decode b_Md_begin 190 = .ok (.iload 7, 2) := by decide +kernel
theorem d_Md_begin_192 : decode b_Md_begin 192 = .ok (.iastore, 1) := by decide +kernel
theorem d_Md_begin_193 : decode b_Md_begin 193 = .ok (.iload 4, 2) := by decide +kernel
theorem d_Md_begin_195 : decode b_Md_begin 195 = .ok (.iload 7, 2) := by decide +kernel
theorem d_Md_begin_197 : decode b_Md_begin 197 = .ok (.isub, 1) := by decide +kernel
theorem d_Md_begin_198 : decode b_Md_begin 198 = .ok (.istore 4, 2) := by decide +kernel
theorem d_Md_begin_200 : decode b_Md_begin 200 = .ok (.iinc 5 (1), 3) := by decide +kernel
theorem d_Md_begin_203 : decode b_Md_begin 203 = .ok (.goto (-66), 3) := by decide +kernel
theorem d_Md_begin_206 : decode b_Md_begin 206 = .ok (.aload_n 0, 1) := by decide +kernel
theorem d_Md_begin_207 : decode b_Md_begin 207 = .ok (.getfield 51, 3) := by decide +kernel
theorem d_Md_begin_210 : decode b_Md_begin 210 = .ok (.iload_n 1, 1) := by decide +kernel
theorem d_Md_begin_211 : decode b_Md_begin 211 = .ok (.iconst 1, 1) := by decide +kernel
theorem d_Md_begin_212 : decode b_Md_begin 212 = .ok (.iastore, 1) := by decide +kernel
theorem d_Md_begin_213 : decode b_Md_begin 213 = .ok (.aload_n 0, 1) := by decide +kernel
theorem d_Md_begin_214 : decode b_Md_begin 214 = .ok (.getfield 54, 3) := by decide +kernel
theorem d_Md_begin_217 : decode b_Md_begin 217 = .ok (.iload_n 1, 1) := by decide +kernel
theorem d_Md_begin_218 : decode b_Md_begin 218 = .ok (.aload_n 0, 1) := by decide +kernel
theorem d_Md_begin_219 : decode b_Md_begin 219 = .ok (.getfield 148, 3) := by decide +kernel
theorem d_Md_begin_222 : decode b_Md_begin 222 = .ok (.iastore, 1) := by decide +kernel
theorem d_Md_begin_223 : decode b_Md_begin 223 = .ok (.aload_n 0, 1) := by decide +kernel
theorem d_Md_begin_224 : decode b_Md_begin 224 = .ok (.getfield 63, 3) := by decide +kernel
theorem d_Md_begin_227 : decode b_Md_begin 227 = .ok (.iload_n 1, 1) := by decide +kernel
theorem d_Md_begin_228 : decode b_Md_begin 228 = .ok (.iconst 0, 1) := by decide +kernel
theorem d_Md_begin_229 : decode b_Md_begin 229 = .ok (.iastore, 1) := by decide +kernel
theorem d_Md_begin_230 : decode b_Md_begin 230 = .ok (.aload_n 0, 1) := by decide +kernel
theorem d_Md_begin_231 : decode b_Md_begin 231 = .ok (.getfield 66, 3) := by decide +kernel
theorem d_Md_begin_234 : decode b_Md_begin 234 = .ok (.iload_n 1, 1) := by decide +kernel
theorem d_Md_begin_235 : decode b_Md_begin 235 = .ok (.aload_n 0, 1) := by decide +kernel
theorem d_Md_begin_236 : decode b_Md_begin 236 = .ok (.iload_n 1, 1) := by decide +kernel
theorem d_Md_begin_237 : decode b_Md_begin 237 = .ok (.invokevirtual 159, 3) := by decide +kernel
theorem d_Md_begin_240 : decode b_Md_begin 240 = .ok (.iastore, 1) := by decide +kernel
theorem d_Md_begin_241 : decode b_Md_begin 241 = .ok (.iconst 0, 1) := by decide +kernel
theorem d_Md_begin_242 : decode b_Md_begin 242 = .ok (.istore 5, 2) := by decide +kernel
theorem d_Md_begin_244 : decode b_Md_begin 244 = .ok (.iload 5, 2) := by decide +kernel
theorem d_Md_begin_246 : decode b_Md_begin 246 = .ok (.aload_n 0, 1) := by decide +kernel
theorem d_Md_begin_247 : decode b_Md_begin 247 = .ok (.getfield 66, 3) := by decide +kernel
theorem d_Md_begin_250 : decode b_Md_begin 250 = .ok (.iload_n 1, 1) := by decide +kernel
theorem d_Md_begin_251 : decode b_Md_begin 251 = .ok (.iaload, 1) := by decide +kernel
theorem d_Md_begin_252 : decode b_Md_begin 252 = .ok (.if_icmp .ge (41), 3) := by decide +kernel
theorem d_Md_begin_255 : decode b_Md_begin 255 = .ok (.aload_n 0, 1) := by decide +kernel
theorem d_Md_begin_256 : decode b_Md_begin 256 = .ok (.getfield 87, 3) := by decide +kernel
theorem d_Md_begin_259 : decode b_Md_begin 259 = .ok (.iload 5, 2) := by decide +kernel
theorem d_Md_begin_261 : decode b_Md_begin 261 = .ok (.dup2, 1) := by decide +kernel
theorem d_Md_begin_262 : decode b_Md_begin 262 = .ok (.iaload, 1) := by decide +kernel
theorem d_Md_begin_263 : decode b_Md_begin 263 = .ok (.aload_n 0, 1) := by decide +kernel
theorem d_Md_begin_264 : decode b_Md_begin 264 = .ok (.getfield 33, 3) := by decide +kernel
theorem d_Md_begin_267 : decode b_Md_begin 267 = .ok (.iload_n 1, 1) := by decide +kernel
theorem d_Md_begin_268 : decode b_Md_begin 268 = .ok (.iaload, 1) := by decide +kernel
theorem d_Md_begin_269 : decode b_Md_begin 269 = .ok (.iadd, 1) := by decide +kernel
theorem d_Md_begin_270 : decode b_Md_begin 270 = .ok (.iastore, 1) := by decide +kernel
theorem d_Md_begin_271 : decode b_Md_begin 271 = .ok (.aload_n 0, 1) := by decide +kernel
theorem d_Md_begin_272 : decode b_Md_begin 272 = .ok (.getfield 90, 3) := by decide +kernel
theorem d_Md_begin_275 : decode b_Md_begin 275 = .ok (.iload 5, 2) := by decide +kernel
theorem d_Md_begin_277 : decode b_Md_begin 277 = .ok (.dup2, 1) := by decide +kernel
theorem d_Md_begin_278 : decode b_Md_begin 278 = .ok (.iaload, 1) := by decide +kernel
theorem d_Md_begin_279 : decode b_Md_begin 279 = .ok (.aload_n 0, 1) := by decide +kernel
theorem d_Md_begin_280 : decode b_Md_begin 280 = .ok (.getfield 36, 3) := by decide +kernel
theorem d_Md_begin_283 : decode b_Md_begin 283 = .ok (.iload_n 1, 1) := by decide +kernel
theorem d_Md_begin_284 : decode b_Md_begin 284 = .ok (.iaload, 1) := by decide +kernel
theorem d_Md_begin_285 : decode b_Md_begin 285 = .ok (.iadd, 1) := by decide +kernel
theorem d_Md_begin_286 : decode b_Md_begin 286 = .ok (.iastore, 1) := by decide +kernel
theorem d_Md_begin_287 : decode b_Md_begin 287 = .ok (.iinc 5 (1), 3) := by decide +kernel
theorem d_Md_begin_290 : decode b_Md_begin 290 = .ok (.goto (-46), 3) := by decide +kernel
theorem d_Md_begin_293 : decode b_Md_begin 293 = .ok (.return_, 1) := by decide +kernel
theorem d_Md_findTaken_0 : decode b_Md_findTaken 0 = .ok (.aload_n 0, 1) := by decide +kernel
theorem d_Md_findTaken_1 : decode b_Md_findTaken 1 = .ok (.aload_n 0, 1) := by decide +kernel
theorem d_Md_findTaken_2 : decode b_Md_findTaken 2 = .ok (.invokevirtual 151, 3) := by decide +kernel
theorem d_Md_findTaken_5 : decode b_Md_findTaken 5 = .ok (.putfield 165, 3) := by decide +kernel
theorem d_Md_findTaken_8 : decode b_Md_findTaken 8 = .ok (.iconst 0, 1) := by decide +kernel
theorem d_Md_findTaken_9 : decode b_Md_findTaken 9 = .ok (.istore_n 1, 1) := by decide +kernel
theorem d_Md_findTaken_10 : decode b_Md_findTaken 10 = .ok (.iload_n 1, 1) := by decide +kernel
theorem d_Md_findTaken_11 : decode b_Md_findTaken 11 = .ok (.sipush (260), 3) := by decide +kernel
theorem d_Md_findTaken_14 : decode b_Md_findTaken 14 = .ok (.if_icmp .ge (23), 3) := by decide +kernel
theorem d_Md_findTaken_17 : decode b_Md_findTaken 17 = .ok (.aload_n 0, 1) := by decide +kernel
theorem d_Md_findTaken_18 : decode b_Md_findTaken 18 = .ok (.getfield 87, 3) := by decide +kernel
theorem d_Md_findTaken_21 : decode b_Md_findTaken 21 = .ok (.iload_n 1, 1) := by decide +kernel
theorem d_Md_findTaken_22 : decode b_Md_findTaken 22 = .ok (.iconst 0, 1) := by decide +kernel
theorem d_Md_findTaken_23 : decode b_Md_findTaken 23 = .ok (.iastore, 1) := by decide +kernel
theorem d_Md_findTaken_24 : decode b_Md_findTaken 24 = .ok (.aload_n 0, 1) := by decide +kernel
theorem d_Md_findTaken_25 : decode b_Md_findTaken 25 = .ok (.getfield 90, 3) := by decide +kernel
theorem d_Md_findTaken_28 : decode b_Md_findTaken 28 = .ok (.iload_n 1, 1) := by decide +kernel
theorem d_Md_findTaken_29 : decode b_Md_findTaken 29 = .ok (.iconst 0, 1) := by decide +kernel
theorem d_Md_findTaken_30 : decode b_Md_findTaken 30 = .ok (.iastore, 1) := by decide +kernel
theorem d_Md_findTaken_31 : decode b_Md_findTaken 31 = .ok (.iinc 1 (1), 3) := by decide +kernel
theorem d_Md_findTaken_34 : decode b_Md_findTaken 34 = .ok (.goto (-24), 3) := by decide +kernel
theorem d_Md_findTaken_37 : decode b_Md_findTaken 37 = .ok (.iconst 0, 1) := by decide +kernel
theorem d_Md_findTaken_38 : decode b_Md_findTaken 38 = .ok (.istore_n 1, 1) := by decide +kernel
theorem d_Md_findTaken_39 : decode b_Md_findTaken 39 = .ok (.iload_n 1, 1) := by decide +kernel
theorem d_Md_findTaken_40 : decode b_Md_findTaken 40 = .ok (.aload_n 0, 1) := by decide +kernel
theorem d_Md_findTaken_41 : decode b_Md_findTaken 41 = .ok (.getfield 124, 3) := by decide +kernel
theorem d_Md_findTaken_44 : decode b_Md_findTaken 44 = .ok (.if_icmp .ge (107), 3) := by decide +kernel
theorem d_Md_findTaken_47 : decode b_Md_findTaken 47 = .ok (.iconst 0, 1) := by decide +kernel
theorem d_Md_findTaken_48 : decode b_Md_findTaken 48 = .ok (.istore_n 2, 1) := by decide +kernel
theorem d_Md_findTaken_49 : decode b_Md_findTaken 49 = .ok (.iconst 0, 1) := by decide +kernel
theorem d_Md_findTaken_50 : decode b_Md_findTaken 50 = .ok (.istore_n 3, 1) := by decide +kernel
theorem d_Md_findTaken_51 : decode b_Md_findTaken 51 = .ok (.iload_n 3, 1) := by decide +kernel
theorem d_Md_findTaken_52 : decode b_Md_findTaken 52 = .ok (.aload_n 0, 1) := by decide +kernel
theorem d_Md_findTaken_53 : decode b_Md_findTaken 53 = .ok (.getfield 117, 3) := by decide +kernel
theorem d_Md_findTaken_56 : decode b_Md_findTaken 56 = .ok (.if_icmp .ge (35), 3) := by decide +kernel
theorem d_Md_findTaken_59 : decode b_Md_findTaken 59 = .ok (.iload_n 2, 1) := by decide +kernel
theorem d_Md_findTaken_60 : decode b_Md_findTaken 60 = .ok (.aload_n 0, 1) := by decide +kernel
theorem d_Md_findTaken_61 : decode b_Md_findTaken 61 = .ok (.getfield 20, 3) := by decide +kernel
theorem d_Md_findTaken_64 : decode b_Md_findTaken 64 = .ok (.iload_n 3, 1) := by decide +kernel
theorem d_Md_findTaken_65 : decode b_Md_findTaken 65 = .ok (.baload, 1) := by decide +kernel
theorem d_Md_findTaken_66 : decode b_Md_findTaken 66 = .ok (.ifCond .eq (7), 3) := by decide +kernel
theorem d_Md_findTaken_69 : decode b_Md_findTaken 69 = .ok (.iconst 0, 1) := by decide +kernel
theorem d_Md_findTaken_70 : decode b_Md_findTaken 70 = .ok (.goto (13), 3) := by decide +kernel
theorem d_Md_findTaken_73 : decode b_Md_findTaken 73 = .ok (.aload_n 0, 1) := by decide +kernel
theorem d_Md_findTaken_74 : decode b_Md_findTaken 74 = .ok (.getfield 69, 3) := by decide +kernel
theorem d_Md_findTaken_77 : decode b_Md_findTaken 77 = .ok (.iconst 4, 1) := by decide +kernel
theorem d_Md_findTaken_78 : decode b_Md_findTaken 78 = .ok (.iload_n 1, 1) := by decide +kernel
theorem d_Md_findTaken_79 : decode b_Md_findTaken 79 = .ok (.imul, 1) := by decide +kernel
theorem d_Md_findTaken_80 : decode b_Md_findTaken 80 = .ok (.iload_n 3, 1) := by decide +kernel
theorem d_Md_findTaken_81 : decode b_Md_findTaken 81 = .ok (.iadd, 1) := by decide +kernel
theorem d_Md_findTaken_82 : decode b_Md_findTaken 82 = .ok (.iaload, 1) := by decide +kernel
theorem d_Md_findTaken_83 : decode b_Md_findTaken 83 = .ok (.iadd, 1) := by decide +kernel
theorem d_Md_findTaken_84 : decode b_Md_findTaken 84 = .ok (.istore_n 2, 1) := by decide +kernel
theorem d_Md_findTaken_85 : decode b_Md_findTaken 85 = .ok (.iinc 3 (1), 3) := by decide +kernel
theorem d_Md_findTaken_88 : decode b_Md_findTaken 88 = .ok (.goto (-37), 3) := by decide +kernel
theorem d_Md_findTaken_91 : decode b_Md_findTaken 91 = .ok (.iconst 0, 1) := by decide +kernel
theorem d_Md_findTaken_92 : decode b_Md_findTaken 92 = .ok (.istore_n 3, 1) := by decide +kernel
theorem d_Md_findTaken_93 : decode b_Md_findTaken 93 = .ok (.iload_n 3, 1) := by decide +kernel
theorem d_Md_findTaken_94 : decode b_Md_findTaken 94 = .ok (.sipush (260), 3) := by decide +kernel
theorem d_Md_findTaken_97 : decode b_Md_findTaken 97 = .ok (.if_icmp .ge (48), 3) := by decide +kernel
theorem d_Md_findTaken_100 : decode b_Md_findTaken 100 = .ok (.aload_n 0, 1) := by decide +kernel
theorem d_Md_findTaken_101 : decode b_Md_findTaken 101 = .ok (.iload_n 1, 1) := by decide +kernel
theorem d_Md_findTaken_102 : decode b_Md_findTaken 102 = .ok (.aload_n 0, 1) := by decide +kernel
theorem d_Md_findTaken_103 : decode b_Md_findTaken 103 = .ok (.getfield 148, 3) := by decide +kernel
theorem d_Md_findTaken_106 : decode b_Md_findTaken 106 = .ok (.iload_n 3, 1) := by decide +kernel
theorem d_Md_findTaken_107 : decode b_Md_findTaken 107 = .ok (.iadd, 1) := by decide +kernel
theorem d_Md_findTaken_108 : decode b_Md_findTaken 108 = .ok (.invokevirtual 141, 3) := by decide +kernel
theorem d_Md_findTaken_111 : decode b_Md_findTaken 111 = .ok (.ifCond .eq (34), 3) := by decide +kernel
theorem d_Md_findTaken_114 : decode b_Md_findTaken 114 = .ok (.aload_n 0, 1) := by decide +kernel
theorem d_Md_findTaken_115 : decode b_Md_findTaken 115 = .ok (.getfield 87, 3) := by decide +kernel
theorem d_Md_findTaken_118 : decode b_Md_findTaken 118 = .ok (.iload_n 3, 1) := by decide +kernel
theorem d_Md_findTaken_119 : decode b_Md_findTaken 119 = .ok (.dup2, 1) := by decide +kernel
theorem d_Md_findTaken_120 : decode b_Md_findTaken 120 = .ok (.iaload, 1) := by decide +kernel
theorem d_Md_findTaken_121 : decode b_Md_findTaken 121 = .ok (.iload_n 2, 1) := by decide +kernel
theorem d_Md_findTaken_122 : decode b_Md_findTaken 122 = .ok (.iadd, 1) := by decide +kernel
theorem d_Md_findTaken_123 : decode b_Md_findTaken 123 = .ok (.iastore, 1) := by decide +kernel
theorem d_Md_findTaken_124 : decode b_Md_findTaken 124 = .ok (.aload_n 0, 1) := by decide +kernel
theorem d_Md_findTaken_125 : decode b_Md_findTaken 125 = .ok (.getfield 90, 3) := by decide +kernel
theorem d_Md_findTaken_128 : decode b_Md_findTaken 128 = .ok (.iload_n 3, 1) := by decide +kernel
theorem d_Md_findTaken_129 : decode b_Md_findTaken 129 = .ok (.dup2, 1) := by decide +kernel
theorem d_Md_findTaken_130 : decode b_Md_findTaken 130 = .ok (.iaload, 1) := by decide +kernel
theorem d_Md_findTaken_131 : decode b_Md_findTaken 131 = .ok (.aload_n 0, 1) := by decide +kernel
theorem d_Md_findTaken_132 : decode b_Md_findTaken 132 = .ok (.getfield 36, 3) := by decide +kernel
theorem d_Md_findTaken_135 : decode b_Md_findTaken 135 = .ok (.iload_n 1, 1) := by decide +kernel
theorem d_Md_findTaken_136 : decode b_Md_findTaken 136 = .ok (.iaload, 1) := by decide +kernel
theorem d_Md_findTaken_137 : decode b_Md_findTaken 137 = .ok (.iadd, 1) := by decide +kernel
theorem d_Md_findTaken_138 : decode b_Md_findTaken 138 = .ok (.iastore, 1) := by decide +kernel
theorem d_Md_findTaken_139 : decode b_Md_findTaken 139 = .ok (.iinc 3 (1), 3) := by decide +kernel
theorem d_Md_findTaken_142 : decode b_Md_findTaken 142 = .ok (.goto (-49), 3) := by decide +kernel
theorem d_Md_findTaken_145 : decode b_Md_findTaken 145 = .ok (.iinc 1 (1), 3) := by decide +kernel
theorem d_Md_findTaken_148 : decode b_Md_findTaken 148 = .ok (.goto (-109), 3) := by decide +kernel
theorem d_Md_findTaken_151 : decode b_Md_findTaken 151 = .ok (.iconst 0, 1) := by decide +kernel
theorem d_Md_findTaken_152 : decode b_Md_findTaken 152 = .ok (.istore_n 1, 1) := by decide +kernel
theorem d_Md_findTaken_153 : decode b_Md_findTaken 153 = .ok (.iload_n 1, 1) := by decide +kernel
theorem d_Md_findTaken_154 : decode b_Md_findTaken 154 = .ok (.aload_n 0, 1) := by decide +kernel
theorem d_Md_findTaken_155 : decode b_Md_findTaken 155 = .ok (.getfield 145, 3) := by decide +kernel
theorem d_Md_findTaken_158 : decode b_Md_findTaken 158 = .ok (.if_icmp .ge (83), 3) := by decide +kernel
theorem d_Md_findTaken_161 : decode b_Md_findTaken 161 = .ok (.aload_n 0, 1) := by decide +kernel
theorem d_Md_findTaken_162 : decode b_Md_findTaken 162 = .ok (.getfield 75, 3) := by decide +kernel
theorem d_Md_findTaken_165 : decode b_Md_findTaken 165 = .ok (.iload_n 1, 1) := by decide +kernel
theorem d_Md_findTaken_166 : decode b_Md_findTaken 166 = .ok (.iaload, 1) := by decide +kernel
theorem d_Md_findTaken_167 : decode b_Md_findTaken 167 = .ok (.aload_n 0, 1) := by decide +kernel
theorem d_Md_findTaken_168 : decode b_Md_findTaken 168 = .ok (.getfield 148, 3) := by decide +kernel
theorem d_Md_findTaken_171 : decode b_Md_findTaken 171 = .ok (.if_icmp .le (17), 3) := by decide +kernel
theorem d_Md_findTaken_174 : decode b_Md_findTaken 174 = .ok (.aload_n 0, 1) := by decide +kernel
theorem d_Md_findTaken_175 : decode b_Md_findTaken 175 = .ok (.getfield 75, 3) := by decide +kernel
theorem d_Md_findTaken_178 : decode b_Md_findTaken 178 = .ok (.iload_n 1, 1) := by decide +kernel
theorem d_Md_findTaken_179 : decode b_Md_findTaken 179 = .ok (.iaload, 1) := by decide +kernel
theorem d_Md_findTaken_180 : decode b_Md_findTaken 180 = .ok (.aload_n 0, 1) := by decide +kernel
theorem d_Md_findTaken_181 : decode b_Md_findTaken 181 = .ok (.getfield 148, 3) := by decide +kernel
theorem d_Md_findTaken_184 : decode b_Md_findTaken 184 = .ok (.isub, 1) := by decide +kernel
theorem d_Md_findTaken_185 : decode b_Md_findTaken 185 = .ok (.goto (4), 3) := by decide +kernel
theorem d_Md_findTaken_188 : decode b_Md_findTaken 188 = .ok (.iconst 0, 1) := by decide +kernel
theorem d_Md_findTaken_189 : decode b_Md_findTaken 189 = .ok (.istore_n 2, 1) := by decide +kernel
theorem d_Md_findTaken_190 : decode b_Md_findTaken 190 = .ok (.iload_n 2, 1) := by decide +kernel
theorem d_Md_findTaken_191 : decode b_Md_findTaken 191 = .ok (.istore_n 3, 1) := by decide +kernel
theorem d_Md_findTaken_192 : decode b_Md_findTaken 192 = .ok (.iload_n 3, 1) := by decide +kernel
theorem d_Md_findTaken_193 : decode b_Md_findTaken 193 = .ok (.sipush (260), 3) := by decide +kernel
theorem d_Md_findTaken_196 : decode b_Md_findTaken 196 = .ok (.if_icmp .ge (39), 3) := by decide +kernel
theorem d_Md_findTaken_199 : decode b_Md_findTaken 199 = .ok (.aload_n 0, 1) := by decide +kernel
theorem d_Md_findTaken_200 : decode b_Md_findTaken 200 = .ok (.getfield 148, 3) := by decide +kernel
theorem d_Md_findTaken_203 : decode b_Md_findTaken 203 = .ok (.iload_n 3, 1) := by decide +kernel
theorem d_Md_findTaken_204 : decode b_Md_findTaken 204 = .ok (.iadd, 1) := by decide +kernel
theorem d_Md_findTaken_205 : decode b_Md_findTaken 205 = .ok (.aload_n 0, 1) := by decide +kernel
theorem d_Md_findTaken_206 : decode b_Md_findTaken 206 = .ok (.getfield 78, 3) := by decide +kernel
theorem d_Md_findTaken_209 : decode b_Md_findTaken 209 = .ok (.iload_n 1, 1) := by decide +kernel
theorem d_Md_findTaken_210 : decode b_Md_findTaken 210 = .ok (.iaload, 1) := by decide +kernel
theorem d_Md_findTaken_211 : decode b_Md_findTaken 211 = .ok (.if_icmp .ge (24), 3) := by decide +kernel
theorem d_Md_findTaken_214 : decode b_Md_findTaken 214 = .ok (.aload_n 0, 1) := by decide +kernel
theorem d_Md_findTaken_215 : decode b_Md_findTaken 215 = .ok (.getfield 87, 3) := by decide +kernel
theorem d_Md_findTaken_218 : decode b_Md_findTaken 218 = .ok (.iload_n 3, 1) := by decide +kernel
theorem d_Md_findTaken_219 : decode b_Md_findTaken 219 = .ok (.dup2, 1) := by decide +kernel
theorem d_Md_findTaken_220 : decode b_Md_findTaken 220 = .ok (.iaload, 1) := by decide +kernel
theorem d_Md_findTaken_221 : decode b_Md_findTaken 221 = .ok (.aload_n 0, 1) := by decide +kernel
theorem d_Md_findTaken_222 : decode b_Md_findTaken 222 = .ok (.getfield 72, 3) := by decide +kernel
theorem d_Md_findTaken_225 : decode b_Md_findTaken 225 = .ok (.iload_n 1, 1) := by decide +kernel
theorem d_Md_findTaken_226 : decode b_Md_findTaken 226 = .ok (.iaload, 1) := by decide +kernel
theorem d_Md_findTaken_227 : decode b_Md_findTaken 227 = .ok (.iadd, 1) := by decide +kernel
theorem d_Md_findTaken_228 : decode b_Md_findTaken 228 = .ok (.iastore, 1) := by decide +kernel
theorem d_Md_findTaken_229 : decode b_Md_findTaken 229 = .ok (.iinc 3 (1), 3) := by decide +kernel
theorem d_Md_findTaken_232 : decode b_Md_findTaken 232 = .ok (.goto (-40), 3) := by decide +kernel
theorem d_Md_findTaken_235 : decode b_Md_findTaken 235 = .ok (.iinc 1 (1), 3) := by decide +kernel
theorem d_Md_findTaken_238 : decode b_Md_findTaken 238 = .ok (.goto (-85), 3) := by decide +kernel
theorem d_Md_findTaken_241 : decode b_Md_findTaken 241 = .ok (.return_, 1) := by decide +kernel
theorem d_Md_isAhead_0 : decode b_Md_isAhead 0 = .ok (.aload_n 0, 1) := by decide +kernel
theorem d_Md_isAhead_1 : decode b_Md_isAhead 1 = .ok (.getfield 27, 3) := by decide +kernel
theorem d_Md_isAhead_4 : decode b_Md_isAhead 4 = .ok (.aload_n 0, 1) := by decide +kernel
theorem d_Md_isAhead_5 : decode b_Md_isAhead 5 = .ok (.getfield 30, 3) := by decide +kernel
theorem d_Md_isAhead_8 : decode b_Md_isAhead 8 = .ok (.iload_n 1, 1) := by decide +kernel
theorem d_Md_isAhead_9 : decode b_Md_isAhead 9 = .ok (.iaload, 1) := by decide +kernel
theorem d_Md_isAhead_10 : decode b_Md_isAhead 10 = .ok (.iaload, 1) := by decide +kernel
theorem d_Md_isAhead_11 : decode b_Md_isAhead 11 = .ok (.i2l, 1) := by decide +kernel
theorem d_Md_isAhead_12 : decode b_Md_isAhead 12 = .ok (.aload_n 0, 1) := by decide +kernel
theorem d_Md_isAhead_13 : decode b_Md_isAhead 13 = .ok (.getfield 24, 3) := by decide +kernel
theorem d_Md_isAhead_16 : decode b_Md_isAhead 16 = .ok (.aload_n 0, 1) := by decide +kernel
theorem d_Md_isAhead_17 : decode b_Md_isAhead 17 = .ok (.getfield 30, 3) := by decide +kernel
theorem d_Md_isAhead_20 : decode b_Md_isAhead 20 = .ok (.iload_n 2, 1) := by decide +kernel
theorem d_Md_isAhead_21 : decode b_Md_isAhead 21 = .ok (.iaload, 1) := by decide +kernel
theorem d_Md_isAhead_22 : decode b_Md_isAhead 22 = .ok (.iaload, 1) := by decide +kernel
theorem d_Md_isAhead_23 : decode b_Md_isAhead 23 = .ok (.i2l, 1) := by decide +kernel
theorem d_Md_isAhead_24 : decode b_Md_isAhead 24 = .ok (.lmul, 1) := by decide +kernel
theorem d_Md_isAhead_25 : decode b_Md_isAhead 25 = .ok (.lstore_n 3, 1) := by decide +kernel
theorem d_Md_isAhead_26 : decode b_Md_isAhead 26 = .ok (.aload_n 0, 1) := by decide +kernel
theorem d_Md_isAhead_27 : decode b_Md_isAhead 27 = .ok (.getfield 27, 3) := by decide +kernel
theorem d_Md_isAhead_30 : decode b_Md_isAhead 30 = .ok (.aload_n 0, 1) := by decide +kernel
theorem d_Md_isAhead_31 : decode b_Md_isAhead 31 = .ok (.getfield 30, 3) := by decide +kernel
theorem d_Md_isAhead_34 : decode b_Md_isAhead 34 = .ok (.iload_n 2, 1) := by decide +kernel
theorem d_Md_isAhead_35 : decode b_Md_isAhead 35 = .ok (.iaload, 1) := by decide +kernel
theorem d_Md_isAhead_36 : decode b_Md_isAhead 36 = .ok (.iaload, 1) := by decide +kernel
theorem d_Md_isAhead_37 : decode b_Md_isAhead 37 = .ok (.i2l, 1) := by decide +kernel
theorem d_Md_isAhead_38 : decode b_Md_isAhead 38 = .ok (.aload_n 0, 1) := by decide +kernel
theorem d_Md_isAhead_39 : decode b_Md_isAhead 39 = .ok (.getfield 24, 3) := by decide +kernel
theorem d_Md_isAhead_42 : decode b_Md_isAhead 42 = .ok (.aload_n 0, 1) := by decide +kernel
theorem d_Md_isAhead_43 : decode b_Md_isAhead 43 = .ok (.getfield 30, 3) := by decide +kernel
theorem d_Md_isAhead_46 : decode b_Md_isAhead 46 = .ok (.iload_n 1, 1) := by decide +kernel
theorem d_Md_isAhead_47 : decode b_Md_isAhead 47 = .ok (.iaload, 1) := by decide +kernel
theorem d_Md_isAhead_48 : decode b_Md_isAhead 48 = .ok (.iaload, 1) := by decide +kernel
theorem d_Md_isAhead_49 : decode b_Md_isAhead 49 = .ok (.i2l, 1) := by decide +kernel
theorem d_Md_isAhead_50 : decode b_Md_isAhead 50 = .ok (.lmul, 1) := by decide +kernel
theorem d_Md_isAhead_51 : decode b_Md_isAhead 51 = .ok (.lstore 5, 2) := by decide +kernel
theorem d_Md_isAhead_53 : decode b_Md_isAhead 53 = .ok (.lload_n 3, 1) := by decide +kernel
theorem d_Md_isAhead_54 : decode b_Md_isAhead 54 = .ok (.lload 5, 2) := by decide +kernel
theorem d_Md_isAhead_56 : decode b_Md_isAhead 56 = .ok (.lcmp, 1) := by decide +kernel
theorem d_Md_isAhead_57 : decode b_Md_isAhead 57 = .ok (.ifCond .lt (15), 3) := by decide +kernel
theorem d_Md_isAhead_60 : decode b_Md_isAhead 60 = .ok (.lload_n 3, 1) := by decide +kernel
theorem d_Md_isAhead_61 : decode b_Md_isAhead 61 = .ok (.lload 5, 2) := by decide +kernel
theorem d_Md_isAhead_63 : decode b_Md_isAhead 63 = .ok (.lcmp, 1) := by decide +kernel
theorem d_Md_isAhead_64 : decode b_Md_isAhead 64 = .ok (.ifCond .ne (12), 3) := by decide +kernel
theorem d_Md_isAhead_67 : decode b_Md_isAhead 67 = .ok (.iload_n 1, 1) := by decide +kernel
theorem d_Md_isAhead_68 : decode b_Md_isAhead 68 = .ok (.iload_n 2, 1) := by decide +kernel
theorem d_Md_isAhead_69 : decode b_Md_isAhead 69 = .ok (.if_icmp .ge (7), 3) := by decide +kernel
theorem d_Md_isAhead_72 : decode b_Md_isAhead 72 = .ok (.iconst 1, 1) := by decide +kernel
theorem d_Md_isAhead_73 : decode b_Md_isAhead 73 = .ok (.goto (4), 3) := by decide +kernel
theorem d_Md_isAhead_76 : decode b_Md_isAhead 76 = .ok (.iconst 0, 1) := by decide +kernel
theorem d_Md_isAhead_77 : decode b_Md_isAhead 77 = .ok (.ireturn, 1) := by decide +kernel
theorem d_Md_findQueue_0 : decode b_Md_findQueue 0 = .ok (.aload_n 0, 1) := by decide +kernel
theorem d_Md_findQueue_1 : decode b_Md_findQueue 1 = .ok (.iconst 0, 1) := by decide +kernel
theorem d_Md_findQueue_2 : decode b_Md_findQueue 2 = .ok (.putfield 171, 3) := by decide +kernel
theorem d_Md_findQueue_5 : decode b_Md_findQueue 5 = .ok (.iconst 0, 1) := by decide +kernel
theorem d_Md_findQueue_6 : decode b_Md_findQueue 6 = .ok (.istore_n 1, 1) := by decide +kernel
theorem d_Md_findQueue_7 : decode b_Md_findQueue 7 = .ok (.iload_n 1, 1) := by decide +kernel
theorem d_Md_findQueue_8 : decode b_Md_findQueue 8 = .ok (.aload_n 0, 1) := by decide +kernel
theorem d_Md_findQueue_9 : decode b_Md_findQueue 9 = .ok (.getfield 124, 3) := by decide +kernel
theorem d_Md_findQueue_12 : decode b_Md_findQueue 12 = .ok (.if_icmp .ge (105), 3) := by decide +kernel
theorem d_Md_findQueue_15 : decode b_Md_findQueue 15 = .ok (.aload_n 0, 1) := by decide +kernel
theorem d_Md_findQueue_16 : decode b_Md_findQueue 16 = .ok (.getfield 51, 3) := by decide +kernel
theorem d_Md_findQueue_19 : decode b_Md_findQueue 19 = .ok (.iload_n 1, 1) := by decide +kernel
theorem d_Md_findQueue_20 : decode b_Md_findQueue 20 = .ok (.iaload, 1) := by decide +kernel
theorem d_Md_findQueue_21 : decode b_Md_findQueue 21 = .ok (.ifCond .ne (90), 3) := by decide +kernel
theorem d_Md_findQueue_24 : decode b_Md_findQueue 24 = .ok (.aload_n 0, 1) := by decide +kernel
theorem d_Md_findQueue_25 : decode b_Md_findQueue 25 = .ok (.getfield 48, 3) := by decide +kernel
theorem d_Md_findQueue_28 : decode b_Md_findQueue 28 = .ok (.iload_n 1, 1) := by decide +kernel
theorem d_Md_findQueue_29 : decode b_Md_findQueue 29 = .ok (.iaload, 1) := by decide +kernel
theorem d_Md_findQueue_30 : decode b_Md_findQueue 30 = .ok (.iconst (-1), 1) := by decide +kernel
theorem d_Md_findQueue_31 : decode b_Md_findQueue 31 = .ok (.if_icmp .eq (18), 3) := by decide +kernel
theorem d_Md_findQueue_34 : decode b_Md_findQueue 34 = .ok (.aload_n 0, 1) := by decide +kernel
theorem d_Md_findQueue_35 : decode b_Md_findQueue 35 = .ok (.getfield 51, 3) := by decide +kernel
theorem d_Md_findQueue_38 : decode b_Md_findQueue 38 = .ok (.aload_n 0, 1) := by decide +kernel
theorem d_Md_findQueue_39 : decode b_Md_findQueue 39 = .ok (.getfield 48, 3) := by decide +kernel
theorem d_Md_findQueue_42 : decode b_Md_findQueue 42 = .ok (.iload_n 1, 1) := by decide +kernel
theorem d_Md_findQueue_43 : decode b_Md_findQueue 43 = .ok (.iaload, 1) := by decide +kernel
theorem d_Md_findQueue_44 : decode b_Md_findQueue 44 = .ok (.iaload, 1) := by decide +kernel
theorem d_Md_findQueue_45 : decode b_Md_findQueue 45 = .ok (.iconst 2, 1) := by decide +kernel
theorem d_Md_findQueue_46 : decode b_Md_findQueue 46 = .ok (.if_icmp .ne (65), 3) := by decide +kernel
theorem d_Md_findQueue_49 : decode b_Md_findQueue 49 = .ok (.aload_n 0, 1) := by decide +kernel
theorem d_Md_findQueue_50 : decode b_Md_findQueue 50 = .ok (.getfield 171, 3) := by decide +kernel
theorem d_Md_findQueue_53 : decode b_Md_findQueue 53 = .ok (.istore_n 2, 1) := by decide +kernel
theorem d_Md_findQueue_54 : decode b_Md_findQueue 54 = .ok (.iload_n 2, 1) := by decide +kernel
theorem d_Md_findQueue_55 : decode b_Md_findQueue 55 = .ok (.ifCond .le (39), 3) := by decide +kernel
theorem d_Md_findQueue_58 : decode b_Md_findQueue 58 = .ok (.aload_n 0, 1) := by decide +kernel
theorem d_Md_findQueue_59 : decode b_Md_findQueue 59 = .ok (.iload_n 1, 1) := by decide +kernel
theorem d_Md_findQueue_60 : decode b_Md_findQueue 60 = .ok (.aload_n 0, 1) := by decide +kernel
theorem d_Md_findQueue_61 : decode b_Md_findQueue 61 = .ok (.getfield 93, 3) := by decide +kernel
theorem d_Md_findQueue_64 : decode b_Md_findQueue 64 = .ok (.iload_n 2, 1) := by decide +kernel
theorem d_Md_findQueue_65 : decode b_Md_findQueue 65 = .ok (.iconst 1, 1) := by decide +kernel
theorem d_Md_findQueue_66 : decode b_Md_findQueue 66 = .ok (.isub, 1) := by decide +kernel
theorem d_Md_findQueue_67 : decode b_Md_findQueue 67 = .ok (.iaload, 1) := by decide +kernel
theorem d_Md_findQueue_68 : decode b_Md_findQueue 68 = .ok (.invokevirtual 174, 3) := by decide +kernel
theorem d_Md_findQueue_71 : decode b_Md_findQueue 71 = .ok (.ifCond .eq (23), 3) := by decide +kernel
theorem d_Md_findQueue_74 : decode b_Md_findQueue 74 = .ok (.aload_n 0, 1) := by decide +kernel
theorem d_Md_findQueue_75 : decode b_Md_findQueue 75 = .ok (.getfield 93, 3) := by decide +kernel
theorem d_Md_findQueue_78 : decode b_Md_findQueue 78 = .ok (.iload_n 2, 1) := by decide +kernel
theorem d_Md_findQueue_79 : decode b_Md_findQueue 79 = .ok (.aload_n 0, 1) := by decide +kernel
theorem d_Md_findQueue_80 : decode b_Md_findQueue 80 = .ok (.getfield 93, 3) := by decide +kernel
theorem d_Md_findQueue_83 : decode b_Md_findQueue 83 = .ok (.iload_n 2, 1) := by decide +kernel
theorem d_Md_findQueue_84 : decode b_Md_findQueue 84 = .ok (.iconst 1, 1) := by decide +kernel
theorem d_Md_findQueue_85 : decode b_Md_findQueue 85 = .ok (.isub, 1) := by decide +kernel
theorem d_Md_findQueue_86 : decode b_Md_findQueue 86 = .ok (.iaload, 1) := by decide +kernel
theorem d_Md_findQueue_87 : decode b_Md_findQueue 87 = .ok (.iastore, 1) := by decide +kernel
theorem d_Md_findQueue_88 : decode b_Md_findQueue 88 = .ok (.iinc 2 (-1), 3) := by decide +kernel
theorem d_Md_findQueue_91 : decode b_Md_findQueue 91 = .ok (.goto (-37), 3) := by decide +kernel
theorem d_Md_findQueue_94 : decode b_Md_findQueue 94 = .ok (.aload_n 0, 1) := by decide +kernel
theorem d_Md_findQueue_95 : decode b_Md_findQueue 95 = .ok (.getfield 93, 3) := by decide +kernel
theorem d_Md_findQueue_98 : decode b_Md_findQueue 98 = .ok (.iload_n 2, 1) := by decide +kernel
theorem d_Md_findQueue_99 : decode b_Md_findQueue 99 = .ok (.iload_n 1, 1) := by decide +kernel
theorem d_Md_findQueue_100 : decode b_Md_findQueue 100 = .ok (.iastore, 1) := by decide +kernel
theorem d_Md_findQueue_101 : decode b_Md_findQueue 101 = .ok (.aload_n 0, 1) := by decide +kernel
theorem d_Md_findQueue_102 : decode b_Md_findQueue 102 = .ok (.dup, 1) := by decide +kernel
theorem d_Md_findQueue_103 : decode b_Md_findQueue 103 = .ok (.getfield 171, 3) := by decide +kernel
theorem d_Md_findQueue_106 : decode b_Md_findQueue 106 = .ok (.iconst 1, 1) := by decide +kernel
theorem d_Md_findQueue_107 : decode b_Md_findQueue 107 = .ok (.iadd, 1) := by decide +kernel
theorem d_Md_findQueue_108 : decode b_Md_findQueue 108 = .ok (.putfield 171, 3) := by decide +kernel
theorem d_Md_findQueue_111 : decode b_Md_findQueue 111 = .ok (.iinc 1 (1), 3) := by decide +kernel
theorem d_Md_findQueue_114 : decode b_Md_findQueue 114 = .ok (.goto (-107), 3) := by decide +kernel
theorem d_Md_findQueue_117 : decode b_Md_findQueue 117 = .ok (.return_, 1) := by decide +kernel
theorem d_Md_tick_0 : decode b_Md_tick 0 = .ok (.aload_n 0, 1) := by decide +kernel
theorem d_Md_tick_1 : decode b_Md_tick 1 = .ok (.invokevirtual 177, 3) := by decide +kernel
theorem d_Md_tick_4 : decode b_Md_tick 4 = .ok (.aload_n 0, 1) := by decide +kernel
theorem d_Md_tick_5 : decode b_Md_tick 5 = .ok (.invokevirtual 180, 3) := by decide +kernel
theorem d_Md_tick_8 : decode b_Md_tick 8 = .ok (.aload_n 0, 1) := by decide +kernel
theorem d_Md_tick_9 : decode b_Md_tick 9 = .ok (.iconst (-1), 1) := by decide +kernel
theorem d_Md_tick_10 : decode b_Md_tick 10 = .ok (.putfield 81, 3) := by decide +kernel
theorem d_Md_tick_13 : decode b_Md_tick 13 = .ok (.aload_n 0, 1) := by decide +kernel
theorem d_Md_tick_14 : decode b_Md_tick 14 = .ok (.iconst (-1), 1) := by decide +kernel
theorem d_Md_tick_15 : decode b_Md_tick 15 = .ok (.putfield 84, 3) := by decide +kernel
theorem d_Md_tick_18 : decode b_Md_tick 18 = .ok (.iconst 0, 1) := by decide +kernel
theorem d_Md_tick_19 : decode b_Md_tick 19 = .ok (.istore_n 1, 1) := by decide +kernel
theorem d_Md_tick_20 : decode b_Md_tick 20 = .ok (.iload_n 1, 1) := by decide +kernel
theorem d_Md_tick_21 : decode b_Md_tick 21 = .ok (.aload_n 0, 1) := by decide +kernel
theorem d_Md_tick_22 : decode b_Md_tick 22 = .ok (.getfield 171, 3) := by decide +kernel
theorem d_Md_tick_25 : decode b_Md_tick 25 = .ok (.if_icmp .ge (125), 3) := by decide +kernel
theorem d_Md_tick_28 : decode b_Md_tick 28 = .ok (.aload_n 0, 1) := by decide +kernel
theorem d_Md_tick_29 : decode b_Md_tick 29 = .ok (.getfield 93, 3) := by decide +kernel
theorem d_Md_tick_32 : decode b_Md_tick 32 = .ok (.iload_n 1, 1) := by decide +kernel
theorem d_Md_tick_33 : decode b_Md_tick 33 = .ok (.iaload, 1) := by decide +kernel
theorem d_Md_tick_34 : decode b_Md_tick 34 = .ok (.istore_n 2, 1) := by decide +kernel
theorem d_Md_tick_35 : decode b_Md_tick 35 = .ok (.aload_n 0, 1) := by decide +kernel
theorem d_Md_tick_36 : decode b_Md_tick 36 = .ok (.iload_n 2, 1) := by decide +kernel
theorem d_Md_tick_37 : decode b_Md_tick 37 = .ok (.aload_n 0, 1) := by decide +kernel
theorem d_Md_tick_38 : decode b_Md_tick 38 = .ok (.getfield 148, 3) := by decide +kernel
theorem d_Md_tick_41 : decode b_Md_tick 41 = .ok (.aload_n 0, 1) := by decide +kernel
theorem d_Md_tick_42 : decode b_Md_tick 42 = .ok (.getfield 81, 3) := by decide +kernel
theorem d_Md_tick_45 : decode b_Md_tick 45 = .ok (.iconst (-1), 1) := by decide +kernel
theorem d_Md_tick_46 : decode b_Md_tick 46 = .ok (.if_icmp .eq (7), 3) := by decide +kernel
theorem d_Md_tick_49 : decode b_Md_tick 49 = .ok (.iconst 1, 1) := by decide +kernel
theorem d_Md_tick_50 : decode b_Md_tick 50 = .ok (.goto (4), 3) := by decide +kernel
theorem d_Md_tick_53 : decode b_Md_tick 53 = .ok (.iconst 0, 1) := by decide +kernel
theorem d_Md_tick_54 : decode b_Md_tick 54 = .ok (.invokevirtual 183, 3) := by decide +kernel
theorem d_Md_tick_57 : decode b_Md_tick 57 = .ok (.ifCond .eq (11), 3) := by decide +kernel
theorem d_Md_tick_60 : decode b_Md_tick 60 = .ok (.aload_n 0, 1) := by decide +kernel
theorem d_Md_tick_61 : decode b_Md_tick 61 = .ok (.iload_n 2, 1) := by decide +kernel
theorem d_Md_tick_62 : decode b_Md_tick 62 = .ok (.invokevirtual 187, 3) := by decide +kernel
theorem d_Md_tick_65 : decode b_Md_tick 65 = .ok (.goto (79), 3) := by decide +kernel
theorem d_Md_tick_68 : decode b_Md_tick 68 = .ok (.aload_n 0, 1) := by decide +kernel
theorem d_Md_tick_69 : decode b_Md_tick 69 = .ok (.getfield 81, 3) := by decide +kernel
theorem d_Md_tick_72 : decode b_Md_tick 72 = .ok (.iconst (-1), 1) := by decide +kernel
theorem d_Md_tick_73 : decode b_Md_tick 73 = .ok (.if_icmp .ne (71), 3) := by decide +kernel
theorem d_Md_tick_76 : decode b_Md_tick 76 = .ok (.aload_n 0, 1) := by decide +kernel
theorem d_Md_tick_77 : decode b_Md_tick 77 = .ok (.iload_n 2, 1) := by decide +kernel
theorem d_Md_tick_78 : decode b_Md_tick 78 = .ok (.putfield 81, 3) := by decide +kernel
theorem d_Md_tick_81 : decode b_Md_tick 81 = .ok (.aload_n 0, 1) := by decide +kernel
theorem d_Md_tick_82 : decode b_Md_tick 82 = .ok (.aload_n 0, 1) := by decide +kernel
theorem d_Md_tick_83 : decode b_Md_tick 83 = .ok (.iload_n 2, 1) := by decide +kernel
theorem d_Md_tick_84 : decode b_Md_tick 84 = .ok (.invokevirtual 159, 3) := by decide +kernel
theorem d_Md_tick_87 : decode b_Md_tick 87 = .ok (.putfield 162, 3) := by decide +kernel
theorem d_Md_tick_90 : decode b_Md_tick 90 = .ok (.aload_n 0, 1) := by decide +kernel
theorem d_Md_tick_91 : decode b_Md_tick 91 = .ok (.getfield 148, 3) := by decide +kernel
theorem d_Md_tick_94 : decode b_Md_tick 94 = .ok (.istore_n 3, 1) := by decide +kernel
theorem d_Md_tick_95 : decode b_Md_tick 95 = .ok (.iload_n 3, 1) := by decide +kernel
theorem d_Md_tick_96 : decode b_Md_tick 96 = .ok (.aload_n 0, 1) := by decide +kernel
theorem d_Md_tick_97 : decode b_Md_tick 97 = .ok (.getfield 148, 3) := by decide +kernel
theorem d_Md_tick_100 : decode b_Md_tick 100 = .ok (.sipush (200), 3) := by decide +kernel
theorem d_Md_tick_103 : decode b_Md_tick 103 = .ok (.iadd, 1) := by decide +kernel
theorem d_Md_tick_104 : decode b_Md_tick 104 = .ok (.if_icmp .gt (19), 3) := by decide +kernel
theorem d_Md_tick_107 : decode b_Md_tick 107 = .ok (.aload_n 0, 1) := by decide +kernel
theorem d_Md_tick_108 : decode b_Md_tick 108 = .ok (.iload_n 2, 1) := by decide +kernel
theorem d_Md_tick_109 : decode b_Md_tick 109 = .ok (.iload_n 3, 1) := by decide +kernel
theorem d_Md_tick_110 : decode b_Md_tick 110 = .ok (.iconst 0, 1) := by decide +kernel
theorem d_Md_tick_111 : decode b_Md_tick 111 = .ok (.invokevirtual 183, 3) := by decide +kernel
theorem d_Md_tick_114 : decode b_Md_tick 114 = .ok (.ifCond .ne (9), 3) := by decide +kernel
theorem d_Md_tick_117 : decode b_Md_tick 117 = .ok (.iinc 3 (1), 3) := by decide +kernel
theorem d_Md_tick_120 : decode b_Md_tick 120 = .ok (.goto (-25), 3) := by decide +kernel
theorem d_Md_tick_123 : decode b_Md_tick 123 = .ok (.aload_n 0, 1) := by decide +kernel
theorem d_Md_tick_124 : decode b_Md_tick 124 = .ok (.iload_n 3, 1) := by decide +kernel
theorem d_Md_tick_125 : decode b_Md_tick 125 = .ok (.aload_n 0, 1) := by decide +kernel
theorem d_Md_tick_126 : decode b_Md_tick 126 = .ok (.getfield 148, 3) := by decide +kernel
theorem d_Md_tick_129 : decode b_Md_tick 129 = .ok (.sipush (200), 3) := by decide +kernel
theorem d_Md_tick_132 : decode b_Md_tick 132 = .ok (.iadd, 1) := by decide +kernel
theorem d_Md_tick_133 : decode b_Md_tick 133 = .ok (.if_icmp .gt (7), 3) := by decide +kernel
theorem d_Md_tick_136 : decode b_Md_tick 136 = .ok (.iload_n 3, 1) := by decide +kernel
theorem d_Md_tick_137 : decode b_Md_tick 137 = .ok (.goto (4), 3) := by decide +kernel
theorem d_Md_tick_140 : decode b_Md_tick 140 = .ok (.iconst (-1), 1) := by decide +kernel
theorem d_Md_tick_141 : decode b_Md_tick 141 = .ok (.putfield 84, 3) := by decide +kernel
theorem d_Md_tick_144 : decode b_Md_tick 144 = .ok (.iinc 1 (1), 3) := by decide +kernel
theorem d_Md_tick_147 : decode b_Md_tick 147 = .ok (.goto (-127), 3) := by decide +kernel
theorem d_Md_tick_150 : decode b_Md_tick 150 = .ok (.iconst 0, 1) := by decide +kernel
theorem d_Md_tick_151 : decode b_Md_tick 151 = .ok (.istore_n 1, 1) := by decide +kernel
theorem d_Md_tick_152 : decode b_Md_tick 152 = .ok (.iload_n 1, 1) := by decide +kernel
theorem d_Md_tick_153 : decode b_Md_tick 153 = .ok (.aload_n 0, 1) := by decide +kernel
theorem d_Md_tick_154 : decode b_Md_tick 154 = .ok (.getfield 124, 3) := by decide +kernel
theorem d_Md_tick_157 : decode b_Md_tick 157 = .ok (.if_icmp .ge (111), 3) := by decide +kernel
theorem d_Md_tick_160 : decode b_Md_tick 160 = .ok (.aload_n 0, 1) := by decide +kernel
theorem d_Md_tick_161 : decode b_Md_tick 161 = .ok (.getfield 51, 3) := by decide +kernel
theorem d_Md_tick_164 : decode b_Md_tick 164 = .ok (.iload_n 1, 1) := by decide +kernel
theorem d_Md_tick_165 : decode b_Md_tick 165 = .ok (.iaload, 1) := by decide +kernel
theorem d_Md_tick_166 : decode b_Md_tick 166 = .ok (.iconst 1, 1) := by decide +kernel
theorem d_Md_tick_167 : decode b_Md_tick 167 = .ok (.if_icmp .ne (95), 3) := by decide +kernel
theorem d_Md_tick_170 : decode b_Md_tick 170 = .ok (.aload_n 0, 1) := by decide +kernel
theorem d_Md_tick_171 : decode b_Md_tick 171 = .ok (.getfield 63, 3) := by decide +kernel
theorem d_Md_tick_174 : decode b_Md_tick 174 = .ok (.iload_n 1, 1) := by decide +kernel
theorem d_Md_tick_175 : decode b_Md_tick 175 = .ok (.dup2, 1) := by decide +kernel
theorem d_Md_tick_176 : decode b_Md_tick 176 = .ok (.iaload, 1) := by decide +kernel
theorem d_Md_tick_177 : decode b_Md_tick 177 = .ok (.iconst 1, 1) := by decide +kernel
theorem d_Md_tick_178 : decode b_Md_tick 178 = .ok (.iadd, 1) := by decide +kernel
theorem d_Md_tick_179 : decode b_Md_tick 179 = .ok (.iastore, 1) := by decide +kernel
theorem d_Md_tick_180 : decode b_Md_tick 180 = .ok (.aload_n 0, 1) := by decide +kernel
theorem d_Md_tick_181 : decode b_Md_tick 181 = .ok (.getfield 27, 3) := by decide +kernel
theorem d_Md_tick_184 : decode b_Md_tick 184 = .ok (.aload_n 0, 1) := by decide +kernel
theorem d_Md_tick_185 : decode b_Md_tick 185 = .ok (.getfield 30, 3) := by decide +kernel
theorem d_Md_tick_188 : decode b_Md_tick 188 = .ok (.iload_n 1, 1) := by decide +kernel
theorem d_Md_tick_189 : decode b_Md_tick 189 = .ok (.iaload, 1) := by decide +kernel
theorem d_Md_tick_190 : decode b_Md_tick 190 = .ok (.dup2, 1) := by decide +kernel
theorem d_Md_tick_191 : decode b_Md_tick 191 = .ok (.iaload, 1) := by decide +kernel
theorem d_Md_tick_192 : decode b_Md_tick 192 = .ok (.aload_n 0, 1) := by decide +kernel
theorem d_Md_tick_193 : decode b_Md_tick 193 = .ok (.getfield 33, 3) := by decide +kernel
theorem d_Md_tick_196 : decode b_Md_tick 196 = .ok (.iload_n 1, 1) := by decide +kernel
theorem d_Md_tick_197 : decode b_Md_tick 197 = .ok (.iaload, 1) := by decide +kernel
theorem d_Md_tick_198 : decode b_Md_tick 198 = .ok (.iadd, 1) := by decide +kernel
theorem d_Md_tick_199 : decode b_Md_tick 199 = .ok (.iastore, 1) := by decide +kernel
theorem d_Md_tick_200 : decode b_Md_tick 200 = .ok (.aload_n 0, 1) := by decide +kernel
theorem d_Md_tick_201 : decode b_Md_tick 201 = .ok (.getfield 63, 3) := by decide +kernel
theorem d_Md_tick_204 : decode b_Md_tick 204 = .ok (.iload_n 1, 1) := by decide +kernel
theorem d_Md_tick_205 : decode b_Md_tick 205 = .ok (.iaload, 1) := by decide +kernel
theorem d_Md_tick_206 : decode b_Md_tick 206 = .ok (.aload_n 0, 1) := by decide +kernel
theorem d_Md_tick_207 : decode b_Md_tick 207 = .ok (.getfield 190, 3) := by decide +kernel
theorem d_Md_tick_210 : decode b_Md_tick 210 = .ok (.ifCond .eq (12), 3) := by decide +kernel
theorem d_Md_tick_213 : decode b_Md_tick 213 = .ok (.aload_n 0, 1) := by decide +kernel
theorem d_Md_tick_214 : decode b_Md_tick 214 = .ok (.getfield 66, 3) := by decide +kernel
theorem d_Md_tick_217 : decode b_Md_tick 217 = .ok (.iload_n 1, 1) := by decide +kernel
theorem d_Md_tick_218 : decode b_Md_tick 218 = .ok (.iaload, 1) := by decide +kernel
theorem d_Md_tick_219 : decode b_Md_tick 219 = .ok (.goto (16), 3) := by decide +kernel
theorem d_Md_tick_222 : decode b_Md_tick 222 = .ok (.aload_n 0, 1) := by decide +kernel
theorem d_Md_tick_223 : decode b_Md_tick 223 = .ok (.getfield 42, 3) := by decide +kernel
theorem d_Md_tick_226 : decode b_Md_tick 226 = .ok (.iload_n 1, 1) := by decide +kernel
theorem d_Md_tick_227 : decode b_Md_tick 227 = .ok (.iaload, 1) := by decide +kernel
theorem d_Md_tick_228 : decode b_Md_tick 228 = .ok (.aload_n 0, 1) := by decide +kernel
theorem d_Md_tick_229 : decode b_Md_tick 229 = .ok (.getfield 60, 3) := by decide +kernel
theorem d_Md_tick_232 : decode b_Md_tick 232 = .ok (.iload_n 1, 1) := by decide +kernel
theorem d_Md_tick_233 : decode b_Md_tick 233 = .ok (.iaload, 1) := by decide +kernel
theorem d_Md_tick_234 : decode b_Md_tick 234 = .ok (.isub, 1) := by decide +kernel
theorem d_Md_tick_235 : decode b_Md_tick 235 = .ok (.if_icmp .ne (27), 3) := by decide +kernel
theorem d_Md_tick_238 : decode b_Md_tick 238 = .ok (.aload_n 0, 1) := by decide +kernel
theorem d_Md_tick_239 : decode b_Md_tick 239 = .ok (.getfield 51, 3) := by decide +kernel
theorem d_Md_tick_242 : decode b_Md_tick 242 = .ok (.iload_n 1, 1) := by decide +kernel
theorem d_Md_tick_243 : decode b_Md_tick 243 = .ok (.iconst 2, 1) := by decide +kernel
theorem d_Md_tick_244 : decode b_Md_tick 244 = .ok (.iastore, 1) := by decide +kernel
theorem d_Md_tick_245 : decode b_Md_tick 245 = .ok (.aload_n 0, 1) := by decide +kernel
theorem d_Md_tick_246 : decode b_Md_tick 246 = .ok (.getfield 57, 3) := by decide +kernel
theorem d_Md_tick_249 : decode b_Md_tick 249 = .ok (.iload_n 1, 1) := by decide +kernel
theorem d_Md_tick_250 : decode b_Md_tick 250 = .ok (.aload_n 0, 1) := by decide +kernel
theorem d_Md_tick_251 : decode b_Md_tick 251 = .ok (.getfield 148, 3) := by decide +kernel
theorem d_Md_tick_254 : decode b_Md_tick 254 = .ok (.iconst 1, 1) := by decide +kernel
theorem d_Md_tick_255 : decode b_Md_tick 255 = .ok (.iadd, 1) := by decide +kernel
theorem d_Md_tick_256 : decode b_Md_tick 256 = .ok (.iastore, 1) := by decide +kernel
theorem d_Md_tick_257 : decode b_Md_tick 257 = .ok (.aload_n 0, 1) := by decide +kernel
theorem d_Md_tick_258 : decode b_Md_tick 258 = .ok (.iload_n 1, 1) := by decide +kernel
theorem d_Md_tick_259 : decode b_Md_tick 259 = .ok (.invokevirtual 131, 3) := by decide +kernel
theorem d_Md_tick_262 : decode b_Md_tick 262 = .ok (.iinc 1 (1), 3) := by decide +kernel
theorem d_Md_tick_265 : decode b_Md_tick 265 = .ok (.goto (-113), 3) := by decide +kernel
theorem d_Md_tick_268 : decode b_Md_tick 268 = .ok (.aload_n 0, 1) := by decide +kernel
theorem d_Md_tick_269 : decode b_Md_tick 269 = .ok (.dup, 1) := by decide +kernel
theorem d_Md_tick_270 : decode b_Md_tick 270 = .ok (.getfield 148, 3) := by decide +kernel
theorem d_Md_tick_273 : decode b_Md_tick 273 = .ok (.iconst 1, 1) := by decide +kernel
theorem d_Md_tick_274 : decode b_Md_tick 274 = .ok (.iadd, 1) := by decide +kernel
theorem d_Md_tick_275 : decode b_Md_tick 275 = .ok (.putfield 148, 3) := by decide +kernel
theorem d_Md_tick_278 : decode b_Md_tick 278 = .ok (.iconst 0, 1) := by decide +kernel
theorem d_Md_tick_279 : decode b_Md_tick 279 = .ok (.istore_n 1, 1) := by decide +kernel
theorem d_Md_tick_280 : decode b_Md_tick 280 = .ok (.iload_n 1, 1) := by decide +kernel
theorem d_Md_tick_281 : decode b_Md_tick 281 = .ok (.aload_n 0, 1) := by decide +kernel
theorem d_Md_tick_282 : decode b_Md_tick 282 = .ok (.getfield 135, 3) := by decide +kernel
theorem d_Md_tick_285 : decode b_Md_tick 285 = .ok (.if_icmp .ge (35), 3) := by decide +kernel
theorem d_Md_tick_288 : decode b_Md_tick 288 = .ok (.aload_n 0, 1) := by decide +kernel
theorem d_Md_tick_289 : decode b_Md_tick 289 = .ok (.getfield 148, 3) := by decide +kernel
theorem d_Md_tick_292 : decode b_Md_tick 292 = .ok (.aload_n 0, 1) := by decide +kernel
theorem d_Md_tick_293 : decode b_Md_tick 293 = .ok (.getfield 7, 3) := by decide +kernel
theorem d_Md_tick_296 : decode b_Md_tick 296 = .ok (.irem, 1) := by decide +kernel
theorem d_Md_tick_297 : decode b_Md_tick 297 = .ok (.ifCond .ne (23), 3) := by decide +kernel
theorem d_Md_tick_300 : decode b_Md_tick 300 = .ok (.aload_n 0, 1) := by decide +kernel
theorem d_Md_tick_301 : decode b_Md_tick 301 = .ok (.getfield 27, 3) := by decide +kernel
theorem d_Md_tick_304 : decode b_Md_tick 304 = .ok (.iload_n 1, 1) := by decide +kernel
theorem d_Md_tick_305 : decode b_Md_tick 305 = .ok (.aload_n 0, 1) := by decide +kernel
theorem d_Md_tick_306 : decode b_Md_tick 306 = .ok (.getfield 27, 3) := by decide +kernel
theorem d_Md_tick_309 : decode b_Md_tick 309 = .ok (.iload_n 1, 1) := by decide +kernel
theorem d_Md_tick_310 : decode b_Md_tick 310 = .ok (.iaload, 1) := by decide +kernel
theorem d_Md_tick_311 : decode b_Md_tick 311 = .ok (.iconst 2, 1) := by decide +kernel
theorem d_Md_tick_312 : decode b_Md_tick 312 = .ok (.idiv, 1) := by decide +kernel
theorem d_Md_tick_313 : decode b_Md_tick 313 = .ok (.iastore, 1) := by decide +kernel
theorem d_Md_tick_314 : decode b_Md_tick 314 = .ok (.iinc 1 (1), 3) := by decide +kernel
theorem d_Md_tick_317 : decode b_Md_tick 317 = .ok (.goto (-37), 3) := by decide +kernel
theorem d_Md_tick_320 : decode b_Md_tick 320 = .ok (.return_, 1) := by decide +kernel
theorem d_Md_ticks_0 : decode b_Md_ticks 0 = .ok (.iload_n 1, 1) := by decide +kernel
theorem d_Md_ticks_1 : decode b_Md_ticks 1 = .ok (.iconst 1, 1) := by decide +kernel
theorem d_Md_ticks_2 : decode b_Md_ticks 2 = .ok (.bipush (100), 2) := by decide +kernel
theorem d_Md_ticks_4 : decode b_Md_ticks 4 = .ok (.invokestatic 120, 3) := by decide +kernel
theorem d_Md_ticks_7 : decode b_Md_ticks 7 = .ok (.ifCond .eq (15), 3) := by decide +kernel
theorem d_Md_ticks_10 : decode b_Md_ticks 10 = .ok (.aload_n 0, 1) := by decide +kernel
theorem d_Md_ticks_11 : decode b_Md_ticks 11 = .ok (.getfield 148, 3) := by decide +kernel
theorem d_Md_ticks_14 : decode b_Md_ticks 14 = .ok (.iload_n 1, 1) := by decide +kernel
theorem d_Md_ticks_15 : decode b_Md_ticks 15 = .ok (.iadd, 1) := by decide +kernel
theorem d_Md_ticks_16 : decode b_Md_ticks 16 = .ok (.sipush (2000), 3) := by decide +kernel
theorem d_Md_ticks_19 : decode b_Md_ticks 19 = .ok (.if_icmp .le (6), 3) := by decide +kernel
theorem d_Md_ticks_22 : decode b_Md_ticks 22 = .ok (.bipush (-3), 2) := by decide +kernel
theorem d_Md_ticks_24 : decode b_Md_ticks 24 = .ok (.ireturn, 1) := by decide +kernel
theorem d_Md_ticks_25 : decode b_Md_ticks 25 = .ok (.iconst 0, 1) := by decide +kernel
theorem d_Md_ticks_26 : decode b_Md_ticks 26 = .ok (.istore_n 2, 1) := by decide +kernel
theorem d_Md_ticks_27 : decode b_Md_ticks 27 = .ok (.iload_n 2, 1) := by decide +kernel
theorem d_Md_ticks_28 : decode b_Md_ticks 28 = .ok (.iload_n 1, 1) := by decide +kernel
theorem d_Md_ticks_29 : decode b_Md_ticks 29 = .ok (.if_icmp .ge (13), 3) := by decide +kernel
theorem d_Md_ticks_32 : decode b_Md_ticks 32 = .ok (.aload_n 0, 1) := by decide +kernel
theorem d_Md_ticks_33 : decode b_Md_ticks 33 = .ok (.invokevirtual 194, 3) := by decide +kernel
theorem d_Md_ticks_36 : decode b_Md_ticks 36 = .ok (.iinc 2 (1), 3) := by decide +kernel
theorem d_Md_ticks_39 : decode b_Md_ticks 39 = .ok (.goto (-12), 3) := by decide +kernel
theorem d_Md_ticks_42 : decode b_Md_ticks 42 = .ok (.aload_n 0, 1) := by decide +kernel
theorem d_Md_ticks_43 : decode b_Md_ticks 43 = .ok (.getfield 148, 3) := by decide +kernel
theorem d_Md_ticks_46 : decode b_Md_ticks 46 = .ok (.ireturn, 1) := by decide +kernel
theorem d_Md_told_0 : decode b_Md_told 0 = .ok (.aload_n 0, 1) := by decide +kernel
theorem d_Md_told_1 : decode b_Md_told 1 = .ok (.iload_n 1, 1) := by decide +kernel
theorem d_Md_told_2 : decode b_Md_told 2 = .ok (.invokevirtual 138, 3) := by decide +kernel
theorem d_Md_told_5 : decode b_Md_told 5 = .ok (.ifCond .ne (6), 3) := by decide +kernel
theorem d_Md_told_8 : decode b_Md_told 8 = .ok (.bipush (-2), 2) := by decide +kernel
theorem d_Md_told_10 : decode b_Md_told 10 = .ok (.ireturn, 1) := by decide +kernel
theorem d_Md_told_11 : decode b_Md_told 11 = .ok (.iload_n 2, 1) := by decide +kernel
theorem d_Md_told_12 : decode b_Md_told 12 = .ok (.tableswitch (116) 0 5 #[40, 47, 54, 61, 68, 75], 40) := by decide +kernel
theorem d_Md_told_52 : decode b_Md_told 52 = .ok (.aload_n 0, 1) := by decide +kernel
theorem d_Md_told_53 : decode b_Md_told 53 = .ok (.getfield 51, 3) := by decide +kernel
theorem d_Md_told_56 : decode b_Md_told 56 = .ok (.iload_n 1, 1) := by decide +kernel
theorem d_Md_told_57 : decode b_Md_told 57 = .ok (.iaload, 1) := by decide +kernel
theorem d_Md_told_58 : decode b_Md_told 58 = .ok (.ireturn, 1) := by decide +kernel
theorem d_Md_told_59 : decode b_Md_told 59 = .ok (.aload_n 0, 1) := by decide +kernel
theorem d_Md_told_60 : decode b_Md_told 60 = .ok (.getfield 54, 3) := by decide +kernel
theorem d_Md_told_63 : decode b_Md_told 63 = .ok (.iload_n 1, 1) := by decide +kernel
theorem d_Md_told_64 : decode b_Md_told 64 = .ok (.iaload, 1) := by decide +kernel
theorem d_Md_told_65 : decode b_Md_told 65 = .ok (.ireturn, 1) := by decide +kernel
theorem d_Md_told_66 : decode b_Md_told 66 = .ok (.aload_n 0, 1) := by decide +kernel
theorem d_Md_told_67 : decode b_Md_told 67 = .ok (.getfield 57, 3) := by decide +kernel
theorem d_Md_told_70 : decode b_Md_told 70 = .ok (.iload_n 1, 1) := by decide +kernel
theorem d_Md_told_71 : decode b_Md_told 71 = .ok (.iaload, 1) := by decide +kernel
theorem d_Md_told_72 : decode b_Md_told 72 = .ok (.ireturn, 1) := by decide +kernel
theorem d_Md_told_73 : decode b_Md_told 73 = .ok (.aload_n 0, 1) := by decide +kernel
theorem d_Md_told_74 : decode b_Md_told 74 = .ok (.getfield 60, 3) := by decide +kernel
theorem d_Md_told_77 : decode b_Md_told 77 = .ok (.iload_n 1, 1) := by decide +kernel
theorem d_Md_told_78 : decode b_Md_told 78 = .ok (.iaload, 1) := by decide +kernel
theorem d_Md_told_79 : decode b_Md_told 79 = .ok (.ireturn, 1) := by decide +kernel
theorem d_Md_told_80 : decode b_Md_told 80 = .ok (.aload_n 0, 1) := by decide +kernel
theorem d_Md_told_81 : decode b_Md_told 81 = .ok (.getfield 63, 3) := by decide +kernel
theorem d_Md_told_84 : decode b_Md_told 84 = .ok (.iload_n 1, 1) := by decide +kernel
theorem d_Md_told_85 : decode b_Md_told 85 = .ok (.iaload, 1) := by decide +kernel
theorem d_Md_told_86 : decode b_Md_told 86 = .ok (.ireturn, 1) := by decide +kernel
theorem d_Md_told_87 : decode b_Md_told 87 = .ok (.iconst 0, 1) := by decide +kernel
theorem d_Md_told_88 : decode b_Md_told 88 = .ok (.istore_n 3, 1) := by decide +kernel
theorem d_Md_told_89 : decode b_Md_told 89 = .ok (.iconst 0, 1) := by decide +kernel
theorem d_Md_told_90 : decode b_Md_told 90 = .ok (.istore 4, 2) := by decide +kernel
theorem d_Md_told_92 : decode b_Md_told 92 = .ok (.iload 4, 2) := by decide +kernel
theorem d_Md_told_94 : decode b_Md_told 94 = .ok (.iconst 4, 1) := by decide +kernel
theorem d_Md_told_95 : decode b_Md_told 95 = .ok (.if_icmp .ge (31), 3) := by decide +kernel
theorem d_Md_told_98 : decode b_Md_told 98 = .ok (.iload_n 3, 1) := by decide +kernel
theorem d_Md_told_99 : decode b_Md_told 99 = .ok (.aload_n 0, 1) := by decide +kernel
theorem d_Md_told_100 : decode b_Md_told 100 = .ok (.getfield 69, 3) := by decide +kernel
theorem d_Md_told_103 : decode b_Md_told 103 = .ok (.iconst 4, 1) := by decide +kernel
theorem d_Md_told_104 : decode b_Md_told 104 = .ok (.iload_n 1, 1) := by decide +kernel
theorem d_Md_told_105 : decode b_Md_told 105 = .ok (.imul, 1) := by decide +kernel
theorem d_Md_told_106 : decode b_Md_told 106 = .ok (.iload 4, 2) := by decide +kernel
theorem d_Md_told_108 : decode b_Md_told 108 = .ok (.iadd, 1) := by decide +kernel
theorem d_Md_told_109 : decode b_Md_told 109 = .ok (.iaload, 1) := by decide +kernel
theorem d_Md_told_110 : decode b_Md_told 110 = .ok (.ifCond .le (7), 3) := by decide +kernel
theorem d_Md_told_113 : decode b_Md_told 113 = .ok (.iconst 1, 1) := by decide +kernel
theorem d_Md_told_114 : decode b_Md_told 114 = .ok (.goto (4), 3) := by decide +kernel
theorem d_Md_told_117 : decode b_Md_told 117 = .ok (.iconst 0, 1) := by decide +kernel
theorem d_Md_told_118 : decode b_Md_told 118 = .ok (.iadd, 1) := by decide +kernel
theorem d_Md_told_119 : decode b_Md_told 119 = .ok (.istore_n 3, 1) := by decide +kernel
theorem d_Md_told_120 : decode b_Md_told 120 = .ok (.iinc 4 (1), 3) := by decide +kernel
theorem d_Md_told_123 : decode b_Md_told 123 = .ok (.goto (-31), 3) := by decide +kernel
theorem d_Md_told_126 : decode b_Md_told 126 = .ok (.iload_n 3, 1) := by decide +kernel
theorem d_Md_told_127 : decode b_Md_told 127 = .ok (.ireturn, 1) := by decide +kernel
theorem d_Md_told_128 : decode b_Md_told 128 = .ok (.bipush (-3), 2) := by decide +kernel
theorem d_Md_told_130 : decode b_Md_told 130 = .ok (.ireturn, 1) := by decide +kernel
theorem d_Md_on_0 : decode b_Md_on 0 = .ok (.aload_n 0, 1) := by decide +kernel
theorem d_Md_on_1 : decode b_Md_on 1 = .ok (.iload_n 1, 1) := by decide +kernel
theorem d_Md_on_2 : decode b_Md_on 2 = .ok (.invokevirtual 138, 3) := by decide +kernel
theorem d_Md_on_5 : decode b_Md_on 5 = .ok (.ifCond .eq (24), 3) := by decide +kernel
theorem d_Md_on_8 : decode b_Md_on 8 = .ok (.aload_n 0, 1) := by decide +kernel
theorem d_Md_on_9 : decode b_Md_on 9 = .ok (.iload_n 2, 1) := by decide +kernel
theorem d_Md_on_10 : decode b_Md_on 10 = .ok (.invokevirtual 127, 3) := by decide +kernel
theorem d_Md_on_13 : decode b_Md_on 13 = .ok (.ifCond .eq (16), 3) := by decide +kernel
theorem d_Md_on_16 : decode b_Md_on 16 = .ok (.aload_n 0, 1) := by decide +kernel
theorem d_Md_on_17 : decode b_Md_on 17 = .ok (.getfield 69, 3) := by decide +kernel
theorem d_Md_on_20 : decode b_Md_on 20 = .ok (.iconst 4, 1) := by decide +kernel
theorem d_Md_on_21 : decode b_Md_on 21 = .ok (.iload_n 1, 1) := by decide +kernel
theorem d_Md_on_22 : decode b_Md_on 22 = .ok (.imul, 1) := by decide +kernel
theorem d_Md_on_23 : decode b_Md_on 23 = .ok (.iload_n 2, 1) := by decide +kernel
theorem d_Md_on_24 : decode b_Md_on 24 = .ok (.iadd, 1) := by decide +kernel
theorem d_Md_on_25 : decode b_Md_on 25 = .ok (.iaload, 1) := by decide +kernel
theorem d_Md_on_26 : decode b_Md_on 26 = .ok (.goto (5), 3) := by decide +kernel
theorem d_Md_on_29 : decode b_Md_on 29 = .ok (.bipush (-2), 2) := by decide +kernel
theorem d_Md_on_31 : decode b_Md_on 31 = .ok (.ireturn, 1) := by decide +kernel
theorem d_Md_free_0 : decode b_Md_free 0 = .ok (.aload_n 0, 1) := by decide +kernel
theorem d_Md_free_1 : decode b_Md_free 1 = .ok (.iload_n 1, 1) := by decide +kernel
theorem d_Md_free_2 : decode b_Md_free 2 = .ok (.invokevirtual 127, 3) := by decide +kernel
theorem d_Md_free_5 : decode b_Md_free 5 = .ok (.ifCond .eq (11), 3) := by decide +kernel
theorem d_Md_free_8 : decode b_Md_free 8 = .ok (.aload_n 0, 1) := by decide +kernel
theorem d_Md_free_9 : decode b_Md_free 9 = .ok (.iload_n 1, 1) := by decide +kernel
theorem d_Md_free_10 : decode b_Md_free 10 = .ok (.invokevirtual 168, 3) := by decide +kernel
theorem d_Md_free_13 : decode b_Md_free 13 = .ok (.goto (5), 3) := by decide +kernel
theorem d_Md_free_16 : decode b_Md_free 16 = .ok (.bipush (-2), 2) := by decide +kernel
theorem d_Md_free_18 : decode b_Md_free 18 = .ok (.ireturn, 1) := by decide +kernel
theorem d_Md_used_0 : decode b_Md_used 0 = .ok (.iload_n 1, 1) := by decide +kernel
theorem d_Md_used_1 : decode b_Md_used 1 = .ok (.iconst 0, 1) := by decide +kernel
theorem d_Md_used_2 : decode b_Md_used 2 = .ok (.aload_n 0, 1) := by decide +kernel
theorem d_Md_used_3 : decode b_Md_used 3 = .ok (.getfield 135, 3) := by decide +kernel
theorem d_Md_used_6 : decode b_Md_used 6 = .ok (.iconst 1, 1) := by decide +kernel
theorem d_Md_used_7 : decode b_Md_used 7 = .ok (.isub, 1) := by decide +kernel
theorem d_Md_used_8 : decode b_Md_used 8 = .ok (.invokestatic 120, 3) := by decide +kernel
theorem d_Md_used_11 : decode b_Md_used 11 = .ok (.ifCond .eq (12), 3) := by decide +kernel
theorem d_Md_used_14 : decode b_Md_used 14 = .ok (.aload_n 0, 1) := by decide +kernel
theorem d_Md_used_15 : decode b_Md_used 15 = .ok (.getfield 27, 3) := by decide +kernel
theorem d_Md_used_18 : decode b_Md_used 18 = .ok (.iload_n 1, 1) := by decide +kernel
theorem d_Md_used_19 : decode b_Md_used 19 = .ok (.iaload, 1) := by decide +kernel
theorem d_Md_used_20 : decode b_Md_used 20 = .ok (.goto (5), 3) := by decide +kernel
theorem d_Md_used_23 : decode b_Md_used 23 = .ok (.bipush (-2), 2) := by decide +kernel
theorem d_Md_used_25 : decode b_Md_used 25 = .ok (.ireturn, 1) := by decide +kernel
theorem d_Md_blocked_0 : decode b_Md_blocked 0 = .ok (.iload_n 1, 1) := by decide +kernel
theorem d_Md_blocked_1 : decode b_Md_blocked 1 = .ok (.ifCond .ne (10), 3) := by decide +kernel
theorem d_Md_blocked_4 : decode b_Md_blocked 4 = .ok (.aload_n 0, 1) := by decide +kernel
theorem d_Md_blocked_5 : decode b_Md_blocked 5 = .ok (.getfield 81, 3) := by decide +kernel
theorem d_Md_blocked_8 : decode b_Md_blocked 8 = .ok (.goto (17), 3) := by decide +kernel
theorem d_Md_blocked_11 : decode b_Md_blocked 11 = .ok (.iload_n 1, 1) := by decide +kernel
theorem d_Md_blocked_12 : decode b_Md_blocked 12 = .ok (.iconst 1, 1) := by decide +kernel
theorem d_Md_blocked_13 : decode b_Md_blocked 13 = .ok (.if_icmp .ne (10), 3) := by decide +kernel
theorem d_Md_blocked_16 : decode b_Md_blocked 16 = .ok (.aload_n 0, 1) := by decide +kernel
theorem d_Md_blocked_17 : decode b_Md_blocked 17 = .ok (.getfield 84, 3) := by decide +kernel
theorem d_Md_blocked_20 : decode b_Md_blocked 20 = .ok (.goto (5), 3) := by decide +kernel
theorem d_Md_blocked_23 : decode b_Md_blocked 23 = .ok (.bipush (-3), 2) := by decide +kernel
theorem d_Md_blocked_25 : decode b_Md_blocked 25 = .ok (.ireturn, 1) := by decide +kernel
theorem d_Md_taken_0 : decode b_Md_taken 0 = .ok (.iload_n 1, 1) := by decide +kernel
theorem d_Md_taken_1 : decode b_Md_taken 1 = .ok (.iconst 0, 1) := by decide +kernel
theorem d_Md_taken_2 : decode b_Md_taken 2 = .ok (.iconst 1, 1) := by decide +kernel
theorem d_Md_taken_3 : decode b_Md_taken 3 = .ok (.invokestatic 120, 3) := by decide +kernel
theorem d_Md_taken_6 : decode b_Md_taken 6 = .ok (.ifCond .eq (22), 3) := by decide +kernel
theorem d_Md_taken_9 : decode b_Md_taken 9 = .ok (.iload_n 2, 1) := by decide +kernel
theorem d_Md_taken_10 : decode b_Md_taken 10 = .ok (.aload_n 0, 1) := by decide +kernel
theorem d_Md_taken_11 : decode b_Md_taken 11 = .ok (.getfield 148, 3) := by decide +kernel
theorem d_Md_taken_14 : decode b_Md_taken 14 = .ok (.aload_n 0, 1) := by decide +kernel
theorem d_Md_taken_15 : decode b_Md_taken 15 = .ok (.getfield 148, 3) := by decide +kernel
theorem d_Md_taken_18 : decode b_Md_taken 18 = .ok (.sipush (300), 3) := by decide +kernel
theorem d_Md_taken_21 : decode b_Md_taken 21 = .ok (.iadd, 1) := by decide +kernel
theorem d_Md_taken_22 : decode b_Md_taken 22 = .ok (.invokestatic 120, 3) := by decide +kernel
theorem d_Md_taken_25 : decode b_Md_taken 25 = .ok (.ifCond .ne (6), 3) := by decide +kernel
theorem d_Md_taken_28 : decode b_Md_taken 28 = .ok (.bipush (-3), 2) := by decide +kernel
theorem d_Md_taken_30 : decode b_Md_taken 30 = .ok (.ireturn, 1) := by decide +kernel
theorem d_Md_taken_31 : decode b_Md_taken 31 = .ok (.iload_n 1, 1) := by decide +kernel
theorem d_Md_taken_32 : decode b_Md_taken 32 = .ok (.ifCond .ne (11), 3) := by decide +kernel
theorem d_Md_taken_35 : decode b_Md_taken 35 = .ok (.aload_n 0, 1) := by decide +kernel
theorem d_Md_taken_36 : decode b_Md_taken 36 = .ok (.iload_n 2, 1) := by decide +kernel
theorem d_Md_taken_37 : decode b_Md_taken 37 = .ok (.invokevirtual 155, 3) := by decide +kernel
theorem d_Md_taken_40 : decode b_Md_taken 40 = .ok (.goto (8), 3) := by decide +kernel
theorem d_Md_taken_43 : decode b_Md_taken 43 = .ok (.aload_n 0, 1) := by decide +kernel
theorem d_Md_taken_44 : decode b_Md_taken 44 = .ok (.iload_n 2, 1) := by decide +kernel
theorem d_Md_taken_45 : decode b_Md_taken 45 = .ok (.invokevirtual 197, 3) := by decide +kernel
theorem d_Md_taken_48 : decode b_Md_taken 48 = .ok (.ireturn, 1) := by decide +kernel
theorem d_Md_keep_0 : decode b_Md_keep 0 = .ok (.iconst 0, 1) := by decide +kernel
theorem d_Md_keep_1 : decode b_Md_keep 1 = .ok (.istore_n 1, 1) := by decide +kernel
theorem d_Md_keep_2 : decode b_Md_keep 2 = .ok (.iload_n 1, 1) := by decide +kernel
theorem d_Md_keep_3 : decode b_Md_keep 3 = .ok (.bipush (30), 2) := by decide +kernel
theorem d_Md_keep_5 : decode b_Md_keep 5 = .ok (.if_icmp .ge (69), 3) := by decide +kernel
theorem d_Md_keep_8 : decode b_Md_keep 8 = .ok (.aload_n 0, 1) := by decide +kernel
theorem d_Md_keep_9 : decode b_Md_keep 9 = .ok (.getfield 96, 3) := by decide +kernel
theorem d_Md_keep_12 : decode b_Md_keep 12 = .ok (.iload_n 1, 1) := by decide +kernel
theorem d_Md_keep_13 : decode b_Md_keep 13 = .ok (.aload_n 0, 1) := by decide +kernel
theorem d_Md_keep_14 : decode b_Md_keep 14 = .ok (.getfield 51, 3) := by decide +kernel
theorem d_Md_keep_17 : decode b_Md_keep 17 = .ok (.iload_n 1, 1) := by decide +kernel
theorem d_Md_keep_18 : decode b_Md_keep 18 = .ok (.iaload, 1) := by decide +kernel
theorem d_Md_keep_19 : decode b_Md_keep 19 = .ok (.iastore, 1) := by decide +kernel
theorem d_Md_keep_20 : decode b_Md_keep 20 = .ok (.aload_n 0, 1) := by decide +kernel
theorem d_Md_keep_21 : decode b_Md_keep 21 = .ok (.getfield 99, 3) := by decide +kernel
theorem d_Md_keep_24 : decode b_Md_keep 24 = .ok (.iload_n 1, 1) := by decide +kernel
theorem d_Md_keep_25 : decode b_Md_keep 25 = .ok (.aload_n 0, 1) := by decide +kernel
theorem d_Md_keep_26 : decode b_Md_keep 26 = .ok (.getfield 54, 3) := by decide +kernel
theorem d_Md_keep_29 : decode b_Md_keep 29 = .ok (.iload_n 1, 1) := by decide +kernel
theorem d_Md_keep_30 : decode b_Md_keep 30 = .ok (.iaload, 1) := by decide +kernel
theorem d_Md_keep_31 : decode b_Md_keep 31 = .ok (.iastore, 1) := by decide +kernel
theorem d_Md_keep_32 : decode b_Md_keep 32 = .ok (.aload_n 0, 1) := by decide +kernel
theorem d_Md_keep_33 : decode b_Md_keep 33 = .ok (.getfield 102, 3) := by decide +kernel
theorem d_Md_keep_36 : decode b_Md_keep 36 = .ok (.iload_n 1, 1) := by decide +kernel
theorem d_Md_keep_37 : decode b_Md_keep 37 = .ok (.aload_n 0, 1) := by decide +kernel
theorem d_Md_keep_38 : decode b_Md_keep 38 = .ok (.getfield 57, 3) := by decide +kernel
theorem d_Md_keep_41 : decode b_Md_keep 41 = .ok (.iload_n 1, 1) := by decide +kernel
theorem d_Md_keep_42 : decode b_Md_keep 42 = .ok (.iaload, 1) := by decide +kernel
theorem d_Md_keep_43 : decode b_Md_keep 43 = .ok (.iastore, 1) := by decide +kernel
theorem d_Md_keep_44 : decode b_Md_keep 44 = .ok (.aload_n 0, 1) := by decide +kernel
theorem d_Md_keep_45 : decode b_Md_keep 45 = .ok (.getfield 105, 3) := by decide +kernel
theorem d_Md_keep_48 : decode b_Md_keep 48 = .ok (.iload_n 1, 1) := by decide +kernel
theorem d_Md_keep_49 : decode b_Md_keep 49 = .ok (.aload_n 0, 1) := by decide +kernel
theorem d_Md_keep_50 : decode b_Md_keep 50 = .ok (.getfield 63, 3) := by decide +kernel
theorem d_Md_keep_53 : decode b_Md_keep 53 = .ok (.iload_n 1, 1) := by decide +kernel
theorem d_Md_keep_54 : decode b_Md_keep 54 = .ok (.iaload, 1) := by decide +kernel
theorem d_Md_keep_55 : decode b_Md_keep 55 = .ok (.iastore, 1) := by decide +kernel
theorem d_Md_keep_56 : decode b_Md_keep 56 = .ok (.aload_n 0, 1) := by decide +kernel
theorem d_Md_keep_57 : decode b_Md_keep 57 = .ok (.getfield 108, 3) := by decide +kernel
theorem d_Md_keep_60 : decode b_Md_keep 60 = .ok (.iload_n 1, 1) := by decide +kernel
theorem d_Md_keep_61 : decode b_Md_keep 61 = .ok (.aload_n 0, 1) := by decide +kernel
theorem d_Md_keep_62 : decode b_Md_keep 62 = .ok (.getfield 66, 3) := by decide +kernel
theorem d_Md_keep_65 : decode b_Md_keep 65 = .ok (.iload_n 1, 1) := by decide +kernel
theorem d_Md_keep_66 : decode b_Md_keep 66 = .ok (.iaload, 1) := by decide +kernel
theorem d_Md_keep_67 : decode b_Md_keep 67 = .ok (.iastore, 1) := by decide +kernel
theorem d_Md_keep_68 : decode b_Md_keep 68 = .ok (.iinc 1 (1), 3) := by decide +kernel
theorem d_Md_keep_71 : decode b_Md_keep 71 = .ok (.goto (-69), 3) := by decide +kernel
theorem d_Md_keep_74 : decode b_Md_keep 74 = .ok (.iconst 0, 1) := by decide +kernel
theorem d_Md_keep_75 : decode b_Md_keep 75 = .ok (.istore_n 1, 1) := by decide +kernel
theorem d_Md_keep_76 : decode b_Md_keep 76 = .ok (.iload_n 1, 1) := by decide +kernel
theorem d_Md_keep_77 : decode b_Md_keep 77 = .ok (.bipush (120), 2) := by decide +kernel
theorem d_Md_keep_79 : decode b_Md_keep 79 = .ok (.if_icmp .ge (21), 3) := by decide +kernel
theorem d_Md_keep_82 : decode b_Md_keep 82 = .ok (.aload_n 0, 1) := by decide +kernel
theorem d_Md_keep_83 : decode b_Md_keep 83 = .ok (.getfield 111, 3) := by decide +kernel
theorem d_Md_keep_86 : decode b_Md_keep 86 = .ok (.iload_n 1, 1) := by decide +kernel
theorem d_Md_keep_87 : decode b_Md_keep 87 = .ok (.aload_n 0, 1) := by decide +kernel
theorem d_Md_keep_88 : decode b_Md_keep 88 = .ok (.getfield 69, 3) := by decide +kernel
theorem d_Md_keep_91 : decode b_Md_keep 91 = .ok (.iload_n 1, 1) := by decide +kernel
theorem d_Md_keep_92 : decode b_Md_keep 92 = .ok (.iaload, 1) := by decide +kernel
theorem d_Md_keep_93 : decode b_Md_keep 93 = .ok (.iastore, 1) := by decide +kernel
theorem d_Md_keep_94 : decode b_Md_keep 94 = .ok (.iinc 1 (1), 3) := by decide +kernel
theorem d_Md_keep_97 : decode b_Md_keep 97 = .ok (.goto (-21), 3) := by decide +kernel
theorem d_Md_keep_100 : decode b_Md_keep 100 = .ok (.iconst 0, 1) := by decide +kernel
theorem d_Md_keep_101 : decode b_Md_keep 101 = .ok (.istore_n 1, 1) := by decide +kernel
theorem d_Md_keep_102 : decode b_Md_keep 102 = .ok (.iload_n 1, 1) := by decide +kernel
theorem d_Md_keep_103 : decode b_Md_keep 103 = .ok (.bipush (6), 2) := by decide +kernel
theorem d_Md_keep_105 : decode b_Md_keep 105 = .ok (.if_icmp .ge (21), 3) := by decide +kernel
theorem d_Md_keep_108 : decode b_Md_keep 108 = .ok (.aload_n 0, 1) := by decide +kernel
theorem d_Md_keep_109 : decode b_Md_keep 109 = .ok (.getfield 114, 3) := by decide +kernel
theorem d_Md_keep_112 : decode b_Md_keep 112 = .ok (.iload_n 1, 1) := by decide +kernel
theorem d_Md_keep_113 : decode b_Md_keep 113 = .ok (.aload_n 0, 1) := by decide +kernel
theorem d_Md_keep_114 : decode b_Md_keep 114 = .ok (.getfield 27, 3) := by decide +kernel
theorem d_Md_keep_117 : decode b_Md_keep 117 = .ok (.iload_n 1, 1) := by decide +kernel
theorem d_Md_keep_118 : decode b_Md_keep 118 = .ok (.iaload, 1) := by decide +kernel
theorem d_Md_keep_119 : decode b_Md_keep 119 = .ok (.iastore, 1) := by decide +kernel
theorem d_Md_keep_120 : decode b_Md_keep 120 = .ok (.iinc 1 (1), 3) := by decide +kernel
theorem d_Md_keep_123 : decode b_Md_keep 123 = .ok (.goto (-21), 3) := by decide +kernel
theorem d_Md_keep_126 : decode b_Md_keep 126 = .ok (.return_, 1) := by decide +kernel
theorem d_Md_putBack_0 : decode b_Md_putBack 0 = .ok (.iconst 0, 1) := by decide +kernel
theorem d_Md_putBack_1 : decode b_Md_putBack 1 = .ok (.istore_n 1, 1) := by decide +kernel
theorem d_Md_putBack_2 : decode b_Md_putBack 2 = .ok (.iload_n 1, 1) := by decide +kernel
theorem d_Md_putBack_3 : decode b_Md_putBack 3 = .ok (.bipush (30), 2) := by decide +kernel
theorem d_Md_putBack_5 : decode b_Md_putBack 5 = .ok (.if_icmp .ge (69), 3) := by decide +kernel
theorem d_Md_putBack_8 : decode b_Md_putBack 8 = .ok (.aload_n 0, 1) := by decide +kernel
theorem d_Md_putBack_9 : decode b_Md_putBack 9 = .ok (.getfield 51, 3) := by decide +kernel
theorem d_Md_putBack_12 : decode b_Md_putBack 12 = .ok (.iload_n 1, 1) := by decide +kernel
theorem d_Md_putBack_13 : decode b_Md_putBack 13 = .ok (.aload_n 0, 1) := by decide +kernel
theorem d_Md_putBack_14 : decode b_Md_putBack 14 = .ok (.getfield 96, 3) := by decide +kernel
theorem d_Md_putBack_17 : decode b_Md_putBack 17 = .ok (.iload_n 1, 1) := by decide +kernel
theorem d_Md_putBack_18 : decode b_Md_putBack 18 = .ok (.iaload, 1) := by decide +kernel
theorem d_Md_putBack_19 : decode b_Md_putBack 19 = .ok (.iastore, 1) := by decide +kernel
theorem d_Md_putBack_20 : decode b_Md_putBack 20 = .ok (.aload_n 0, 1) := by decide +kernel
theorem d_Md_putBack_21 : decode b_Md_putBack 21 = .ok (.getfield 54, 3) := by decide +kernel
theorem d_Md_putBack_24 : decode b_Md_putBack 24 = .ok (.iload_n 1, 1) := by decide +kernel
theorem d_Md_putBack_25 : decode b_Md_putBack 25 = .ok (.aload_n 0, 1) := by decide +kernel
theorem d_Md_putBack_26 : decode b_Md_putBack 26 = .ok (.getfield 99, 3) := by decide +kernel
theorem d_Md_putBack_29 : decode b_Md_putBack 29 = .ok (.iload_n 1, 1) := by decide +kernel
theorem d_Md_putBack_30 : decode b_Md_putBack 30 = .ok (.iaload, 1) := by decide +kernel
theorem d_Md_putBack_31 : decode b_Md_putBack 31 = .ok (.iastore, 1) := by decide +kernel
theorem d_Md_putBack_32 : decode b_Md_putBack 32 = .ok (.aload_n 0, 1) := by decide +kernel
theorem d_Md_putBack_33 : decode b_Md_putBack 33 = .ok (.getfield 57, 3) := by decide +kernel
theorem d_Md_putBack_36 : decode b_Md_putBack 36 = .ok (.iload_n 1, 1) := by decide +kernel
theorem d_Md_putBack_37 : decode b_Md_putBack 37 = .ok (.aload_n 0, 1) := by decide +kernel
theorem d_Md_putBack_38 : decode b_Md_putBack 38 = .ok (.getfield 102, 3) := by decide +kernel
theorem d_Md_putBack_41 : decode b_Md_putBack 41 = .ok (.iload_n 1, 1) := by decide +kernel
theorem d_Md_putBack_42 : decode b_Md_putBack 42 = .ok (.iaload, 1) := by decide +kernel
theorem d_Md_putBack_43 : decode b_Md_putBack 43 = .ok (.iastore, 1) := by decide +kernel
theorem d_Md_putBack_44 : decode b_Md_putBack 44 = .ok (.aload_n 0, 1) := by decide +kernel
theorem d_Md_putBack_45 : decode b_Md_putBack 45 = .ok (.getfield 63, 3) := by decide +kernel
theorem d_Md_putBack_48 : decode b_Md_putBack 48 = .ok (.iload_n 1, 1) := by decide +kernel
theorem d_Md_putBack_49 : decode b_Md_putBack 49 = .ok (.aload_n 0, 1) := by decide +kernel
theorem d_Md_putBack_50 : decode b_Md_putBack 50 = .ok (.getfield 105, 3) := by decide +kernel
theorem d_Md_putBack_53 : decode b_Md_putBack 53 = .ok (.iload_n 1, 1) := by decide +kernel
theorem d_Md_putBack_54 : decode b_Md_putBack 54 = .ok (.iaload, 1) := by decide +kernel
theorem d_Md_putBack_55 : decode b_Md_putBack 55 = .ok (.iastore, 1) := by decide +kernel
theorem d_Md_putBack_56 : decode b_Md_putBack 56 = .ok (.aload_n 0, 1) := by decide +kernel
theorem d_Md_putBack_57 : decode b_Md_putBack 57 = .ok (.getfield 66, 3) := by decide +kernel
theorem d_Md_putBack_60 : decode b_Md_putBack 60 = .ok (.iload_n 1, 1) := by decide +kernel
theorem d_Md_putBack_61 : decode b_Md_putBack 61 = .ok (.aload_n 0, 1) := by decide +kernel
theorem d_Md_putBack_62 : decode b_Md_putBack 62 = .ok (.getfield 108, 3) := by decide +kernel
theorem d_Md_putBack_65 : decode b_Md_putBack 65 = .ok (.iload_n 1, 1) := by decide +kernel
theorem d_Md_putBack_66 : decode b_Md_putBack 66 = .ok (.iaload, 1) := by decide +kernel
theorem d_Md_putBack_67 : decode b_Md_putBack 67 = .ok (.iastore, 1) := by decide +kernel
theorem d_Md_putBack_68 : decode b_Md_putBack 68 = .ok (.iinc 1 (1), 3) := by decide +kernel
theorem d_Md_putBack_71 : decode b_Md_putBack 71 = .ok (.goto (-69), 3) := by decide +kernel
theorem d_Md_putBack_74 : decode b_Md_putBack 74 = .ok (.iconst 0, 1) := by decide +kernel
theorem d_Md_putBack_75 : decode b_Md_putBack 75 = .ok (.istore_n 1, 1) := by decide +kernel
theorem d_Md_putBack_76 : decode b_Md_putBack 76 = .ok (.iload_n 1, 1) := by decide +kernel
theorem d_Md_putBack_77 : decode b_Md_putBack 77 = .ok (.bipush (120), 2) := by decide +kernel
theorem d_Md_putBack_79 : decode b_Md_putBack 79 = .ok (.if_icmp .ge (21), 3) := by decide +kernel
theorem d_Md_putBack_82 : decode b_Md_putBack 82 = .ok (.aload_n 0, 1) := by decide +kernel
theorem d_Md_putBack_83 : decode b_Md_putBack 83 = .ok (.getfield 69, 3) := by decide +kernel
theorem d_Md_putBack_86 : decode b_Md_putBack 86 = .ok (.iload_n 1, 1) := by decide +kernel
theorem d_Md_putBack_87 : decode b_Md_putBack 87 = .ok (.aload_n 0, 1) := by decide +kernel
theorem d_Md_putBack_88 : decode b_Md_putBack 88 = .ok (.getfield 111, 3) := by decide +kernel
theorem d_Md_putBack_91 : decode b_Md_putBack 91 = .ok (.iload_n 1, 1) := by decide +kernel
theorem d_Md_putBack_92 : decode b_Md_putBack 92 = .ok (.iaload, 1) := by decide +kernel
theorem d_Md_putBack_93 : decode b_Md_putBack 93 = .ok (.iastore, 1) := by decide +kernel
theorem d_Md_putBack_94 : decode b_Md_putBack 94 = .ok (.iinc 1 (1), 3) := by decide +kernel
theorem d_Md_putBack_97 : decode b_Md_putBack 97 = .ok (.goto (-21), 3) := by decide +kernel
theorem d_Md_putBack_100 : decode b_Md_putBack 100 = .ok (.iconst 0, 1) := by decide +kernel
theorem d_Md_putBack_101 : decode b_Md_putBack 101 = .ok (.istore_n 1, 1) := by decide +kernel
theorem d_Md_putBack_102 : decode b_Md_putBack 102 = .ok (.iload_n 1, 1) := by decide +kernel
theorem d_Md_putBack_103 : decode b_Md_putBack 103 = .ok (.bipush (6), 2) := by decide +kernel
theorem d_Md_putBack_105 : decode b_Md_putBack 105 = .ok (.if_icmp .ge (21), 3) := by decide +kernel
theorem d_Md_putBack_108 : decode b_Md_putBack 108 = .ok (.aload_n 0, 1) := by decide +kernel
theorem d_Md_putBack_109 : decode b_Md_putBack 109 = .ok (.getfield 27, 3) := by decide +kernel
theorem d_Md_putBack_112 : decode b_Md_putBack 112 = .ok (.iload_n 1, 1) := by decide +kernel
theorem d_Md_putBack_113 : decode b_Md_putBack 113 = .ok (.aload_n 0, 1) := by decide +kernel
theorem d_Md_putBack_114 : decode b_Md_putBack 114 = .ok (.getfield 114, 3) := by decide +kernel
theorem d_Md_putBack_117 : decode b_Md_putBack 117 = .ok (.iload_n 1, 1) := by decide +kernel
theorem d_Md_putBack_118 : decode b_Md_putBack 118 = .ok (.iaload, 1) := by decide +kernel
theorem d_Md_putBack_119 : decode b_Md_putBack 119 = .ok (.iastore, 1) := by decide +kernel
theorem d_Md_putBack_120 : decode b_Md_putBack 120 = .ok (.iinc 1 (1), 3) := by decide +kernel
theorem d_Md_putBack_123 : decode b_Md_putBack 123 = .ok (.goto (-21), 3) := by decide +kernel
theorem d_Md_putBack_126 : decode b_Md_putBack 126 = .ok (.return_, 1) := by decide +kernel
theorem d_Md_foreseen_0 : decode b_Md_foreseen 0 = .ok (.aload_n 0, 1) := by decide +kernel
theorem d_Md_foreseen_1 : decode b_Md_foreseen 1 = .ok (.iload_n 1, 1) := by decide +kernel
theorem d_Md_foreseen_2 : decode b_Md_foreseen 2 = .ok (.invokevirtual 138, 3) := by decide +kernel
theorem d_Md_foreseen_5 : decode b_Md_foreseen 5 = .ok (.ifCond .ne (6), 3) := by decide +kernel
theorem d_Md_foreseen_8 : decode b_Md_foreseen 8 = .ok (.bipush (-2), 2) := by decide +kernel
theorem d_Md_foreseen_10 : decode b_Md_foreseen 10 = .ok (.ireturn, 1) := by decide +kernel
theorem d_Md_foreseen_11 : decode b_Md_foreseen 11 = .ok (.aload_n 0, 1) := by decide +kernel
theorem d_Md_foreseen_12 : decode b_Md_foreseen 12 = .ok (.getfield 51, 3) := by decide +kernel
theorem d_Md_foreseen_15 : decode b_Md_foreseen 15 = .ok (.iload_n 1, 1) := by decide +kernel
theorem d_Md_foreseen_16 : decode b_Md_foreseen 16 = .ok (.iaload, 1) := by decide +kernel
theorem d_Md_foreseen_17 : decode b_Md_foreseen 17 = .ok (.ifCond .eq (24), 3) := by decide +kernel
theorem d_Md_foreseen_20 : decode b_Md_foreseen 20 = .ok (.aload_n 0, 1) := by decide +kernel
theorem d_Md_foreseen_21 : decode b_Md_foreseen 21 = .ok (.getfield 51, 3) := by decide +kernel
theorem d_Md_foreseen_24 : decode b_Md_foreseen 24 = .ok (.iload_n 1, 1) := by decide +kernel
theorem d_Md_foreseen_25 : decode b_Md_foreseen 25 = .ok (.iaload, 1) := by decide +kernel
theorem d_Md_foreseen_26 : decode b_Md_foreseen 26 = .ok (.iconst 1, 1) := by decide +kernel
theorem d_Md_foreseen_27 : decode b_Md_foreseen 27 = .ok (.if_icmp .ne (12), 3) := by decide +kernel
theorem d_Md_foreseen_30 : decode b_Md_foreseen 30 = .ok (.aload_n 0, 1) := by decide +kernel
theorem d_Md_foreseen_31 : decode b_Md_foreseen 31 = .ok (.getfield 54, 3) := by decide +kernel
theorem d_Md_foreseen_34 : decode b_Md_foreseen 34 = .ok (.iload_n 1, 1) := by decide +kernel
theorem d_Md_foreseen_35 : decode b_Md_foreseen 35 = .ok (.iaload, 1) := by decide +kernel
theorem d_Md_foreseen_36 : decode b_Md_foreseen 36 = .ok (.goto (4), 3) := by decide +kernel
theorem d_Md_foreseen_39 : decode b_Md_foreseen 39 = .ok (.iconst (-1), 1) := by decide +kernel
theorem d_Md_foreseen_40 : decode b_Md_foreseen 40 = .ok (.ireturn, 1) := by decide +kernel
theorem d_Md_foreseen_41 : decode b_Md_foreseen 41 = .ok (.aload_n 0, 1) := by decide +kernel
theorem d_Md_foreseen_42 : decode b_Md_foreseen 42 = .ok (.getfield 148, 3) := by decide +kernel
theorem d_Md_foreseen_45 : decode b_Md_foreseen 45 = .ok (.istore_n 2, 1) := by decide +kernel
theorem d_Md_foreseen_46 : decode b_Md_foreseen 46 = .ok (.aload_n 0, 1) := by decide +kernel
theorem d_Md_foreseen_47 : decode b_Md_foreseen 47 = .ok (.getfield 81, 3) := by decide +kernel
theorem d_Md_foreseen_50 : decode b_Md_foreseen 50 = .ok (.istore_n 3, 1) := by decide +kernel
theorem d_Md_foreseen_51 : decode b_Md_foreseen 51 = .ok (.aload_n 0, 1) := by decide +kernel
theorem d_Md_foreseen_52 : decode b_Md_foreseen 52 = .ok (.getfield 84, 3) := by decide +kernel
theorem d_Md_foreseen_55 : decode b_Md_foreseen 55 = .ok (.istore 4, 2) := by decide +kernel
theorem d_Md_foreseen_57 : decode b_Md_foreseen 57 = .ok (.aload_n 0, 1) := by decide +kernel
theorem d_Md_foreseen_58 : decode b_Md_foreseen 58 = .ok (.getfield 162, 3) := by decide +kernel
theorem d_Md_foreseen_61 : decode b_Md_foreseen 61 = .ok (.istore 5, 2) := by decide +kernel
theorem d_Md_foreseen_63 : decode b_Md_foreseen 63 = .ok (.aload_n 0, 1) := by decide +kernel
theorem d_Md_foreseen_64 : decode b_Md_foreseen 64 = .ok (.invokevirtual 200, 3) := by decide +kernel
theorem d_Md_foreseen_67 : decode b_Md_foreseen 67 = .ok (.aload_n 0, 1) := by decide +kernel
theorem d_Md_foreseen_68 : decode b_Md_foreseen 68 = .ok (.iconst 1, 1) := by decide +kernel
theorem d_Md_foreseen_69 : decode b_Md_foreseen 69 = .ok (.putfield 190, 3) := by decide +kernel
theorem d_Md_foreseen_72 : decode b_Md_foreseen 72 = .ok (.iconst 0, 1) := by decide +kernel
theorem d_Md_foreseen_73 : decode b_Md_foreseen 73 = .ok (.istore 6, 2) := by decide +kernel
theorem d_Md_foreseen_75 : decode b_Md_foreseen 75 = .ok (.iload 6, 2) := by decide +kernel
theorem d_Md_foreseen_77 : decode b_Md_foreseen 77 = .ok (.sipush (300), 3) := by decide +kernel
theorem d_Md_foreseen_80 : decode b_Md_foreseen 80 = .ok (.if_icmp .ge (22), 3) := by decide +kernel
theorem d_Md_foreseen_83 : decode b_Md_foreseen 83 = .ok (.aload_n 0, 1) := by decide +kernel
theorem d_Md_foreseen_84 : decode b_Md_foreseen 84 = .ok (.getfield 51, 3) := by decide +kernel
theorem d_Md_foreseen_87 : decode b_Md_foreseen 87 = .ok (.iload_n 1, 1) := by decide +kernel
theorem d_Md_foreseen_88 : decode b_Md_foreseen 88 = .ok (.iaload, 1) := by decide +kernel
theorem d_Md_foreseen_89 : decode b_Md_foreseen 89 = .ok (.ifCond .ne (13), 3) := by decide +kernel
theorem d_Md_foreseen_92 : decode b_Md_foreseen 92 = .ok (.aload_n 0, 1) := by decide +kernel
theorem d_Md_foreseen_93 : decode b_Md_foreseen 93 = .ok (.invokevirtual 194, 3) := by decide +kernel
theorem d_Md_foreseen_96 : decode b_Md_foreseen 96 = .ok (.iinc 6 (1), 3) := by decide +kernel
theorem d_Md_foreseen_99 : decode b_Md_foreseen 99 = .ok (.goto (-24), 3) := by decide +kernel
theorem d_Md_foreseen_102 : decode b_Md_foreseen 102 = .ok (.aload_n 0, 1) := by decide +kernel
theorem d_Md_foreseen_103 : decode b_Md_foreseen 103 = .ok (.getfield 51, 3) := by decide +kernel
theorem d_Md_foreseen_106 : decode b_Md_foreseen 106 = .ok (.iload_n 1, 1) := by decide +kernel
theorem d_Md_foreseen_107 : decode b_Md_foreseen 107 = .ok (.iaload, 1) := by decide +kernel
theorem d_Md_foreseen_108 : decode b_Md_foreseen 108 = .ok (.ifCond .ne (7), 3) := by decide +kernel
theorem d_Md_foreseen_111 : decode b_Md_foreseen 111 = .ok (.iconst (-1), 1) := by decide +kernel
theorem d_Md_foreseen_112 : decode b_Md_foreseen 112 = .ok (.goto (9), 3) := by decide +kernel
theorem d_Md_foreseen_115 : decode b_Md_foreseen 115 = .ok (.aload_n 0, 1) := by decide +kernel
theorem d_Md_foreseen_116 : decode b_Md_foreseen 116 = .ok (.getfield 54, 3) := by decide +kernel
theorem d_Md_foreseen_119 : decode b_Md_foreseen 119 = .ok (.iload_n 1, 1) := by decide +kernel
theorem d_Md_foreseen_120 : decode b_Md_foreseen 120 = .ok (.iaload, 1) := by decide +kernel
theorem d_Md_foreseen_121 : decode b_Md_foreseen 121 = .ok (.istore 7, 2) := by decide +kernel
theorem d_Md_foreseen_123 : decode b_Md_foreseen 123 = .ok (.aload_n 0, 1) := by decide +kernel
theorem d_Md_foreseen_124 : decode b_Md_foreseen 124 = .ok (.iconst 0, 1) := by decide +kernel
theorem d_Md_foreseen_125 : decode b_Md_foreseen 125 = .ok (.putfield 190, 3) := by decide +kernel
theorem d_Md_foreseen_128 : decode b_Md_foreseen 128 = .ok (.aload_n 0, 1) := by decide +kernel
theorem d_Md_foreseen_129 : decode b_Md_foreseen 129 = .ok (.invokevirtual 203, 3) := by decide +kernel
theorem d_Md_foreseen_132 : decode b_Md_foreseen 132 = .ok (.aload_n 0, 1) := by decide +kernel
theorem d_Md_foreseen_133 : decode b_Md_foreseen 133 = .ok (.iload_n 2, 1) := by decide +kernel
theorem d_Md_foreseen_134 : decode b_Md_foreseen 134 = .ok (.putfield 148, 3) := by decide +kernel
theorem d_Md_foreseen_137 : decode b_Md_foreseen 137 = .ok (.aload_n 0, 1) := by decide +kernel
theorem d_Md_foreseen_138 : decode b_Md_foreseen 138 = .ok (.iload_n 3, 1) := by decide +kernel
theorem d_Md_foreseen_139 : decode b_Md_foreseen 139 = .ok (.putfield 81, 3) := by decide +kernel
theorem d_Md_foreseen_142 : decode b_Md_foreseen 142 = .ok (.aload_n 0, 1) := by decide +kernel
theorem d_Md_foreseen_143 : decode b_Md_foreseen 143 = .ok (.iload 4, 2) := by decide +kernel
theorem d_Md_foreseen_145 : decode b_Md_foreseen 145 = .ok (.putfield 84, 3) := by decide +kernel
theorem d_Md_foreseen_148 : decode b_Md_foreseen 148 = .ok (.aload_n 0, 1) := by decide +kernel
theorem d_Md_foreseen_149 : decode b_Md_foreseen 149 = .ok (.iload 5, 2) := by decide +kernel
theorem d_Md_foreseen_151 : decode b_Md_foreseen 151 = .ok (.putfield 162, 3) := by decide +kernel
theorem d_Md_foreseen_154 : decode b_Md_foreseen 154 = .ok (.iload 7, 2) := by decide +kernel
theorem d_Md_foreseen_156 : decode b_Md_foreseen 156 = .ok (.ireturn, 1) := by decide +kernel
theorem d_Md_count_0 : decode b_Md_count 0 = .ok (.iconst 0, 1) := by decide +kernel
theorem d_Md_count_1 : decode b_Md_count 1 = .ok (.istore_n 2, 1) := by decide +kernel
theorem d_Md_count_2 : decode b_Md_count 2 = .ok (.iload_n 1, 1) := by decide +kernel
theorem d_Md_count_3 : decode b_Md_count 3 = .ok (.tableswitch (147) 0 7 #[45, 50, 55, 60, 96, 132, 137, 142], 45) := by decide +kernel
theorem d_Md_count_48 : decode b_Md_count 48 = .ok (.aload_n 0, 1) := by decide +kernel
theorem d_Md_count_49 : decode b_Md_count 49 = .ok (.getfield 117, 3) := by decide +kernel
theorem d_Md_count_52 : decode b_Md_count 52 = .ok (.ireturn, 1) := by decide +kernel
theorem d_Md_count_53 : decode b_Md_count 53 = .ok (.aload_n 0, 1) := by decide +kernel
theorem d_Md_count_54 : decode b_Md_count 54 = .ok (.getfield 135, 3) := by decide +kernel
theorem d_Md_count_57 : decode b_Md_count 57 = .ok (.ireturn, 1) := by decide +kernel
theorem d_Md_count_58 : decode b_Md_count 58 = .ok (.aload_n 0, 1) := by decide +kernel
theorem d_Md_count_59 : decode b_Md_count 59 = .ok (.getfield 124, 3) := by decide +kernel
theorem d_Md_count_62 : decode b_Md_count 62 = .ok (.ireturn, 1) := by decide +kernel
theorem d_Md_count_63 : decode b_Md_count 63 = .ok (.iconst 0, 1) := by decide +kernel
theorem d_Md_count_64 : decode b_Md_count 64 = .ok (.istore_n 3, 1) := by decide +kernel
theorem d_Md_count_65 : decode b_Md_count 65 = .ok (.iload_n 3, 1) := by decide +kernel
theorem d_Md_count_66 : decode b_Md_count 66 = .ok (.aload_n 0, 1) := by decide +kernel
theorem d_Md_count_67 : decode b_Md_count 67 = .ok (.getfield 124, 3) := by decide +kernel
theorem d_Md_count_70 : decode b_Md_count 70 = .ok (.if_icmp .ge (27), 3) := by decide +kernel
theorem d_Md_count_73 : decode b_Md_count 73 = .ok (.iload_n 2, 1) := by decide +kernel
theorem d_Md_count_74 : decode b_Md_count 74 = .ok (.aload_n 0, 1) := by decide +kernel
theorem d_Md_count_75 : decode b_Md_count 75 = .ok (.getfield 51, 3) := by decide +kernel
theorem d_Md_count_78 : decode b_Md_count 78 = .ok (.iload_n 3, 1) := by decide +kernel
theorem d_Md_count_79 : decode b_Md_count 79 = .ok (.iaload, 1) := by decide +kernel
theorem d_Md_count_80 : decode b_Md_count 80 = .ok (.iconst 1, 1) := by decide +kernel
theorem d_Md_count_81 : decode b_Md_count 81 = .ok (.if_icmp .ne (7), 3) := by decide +kernel
theorem d_Md_count_84 : decode b_Md_count 84 = .ok (.iconst 1, 1) := by decide +kernel
theorem d_Md_count_85 : decode b_Md_count 85 = .ok (.goto (4), 3) := by decide +kernel
theorem d_Md_count_88 : decode b_Md_count 88 = .ok (.iconst 0, 1) := by decide +kernel
theorem d_Md_count_89 : decode b_Md_count 89 = .ok (.iadd, 1) := by decide +kernel
theorem d_Md_count_90 : decode b_Md_count 90 = .ok (.istore_n 2, 1) := by decide +kernel
theorem d_Md_count_91 : decode b_Md_count 91 = .ok (.iinc 3 (1), 3) := by decide +kernel
theorem d_Md_count_94 : decode b_Md_count 94 = .ok (.goto (-29), 3) := by decide +kernel
theorem d_Md_count_97 : decode b_Md_count 97 = .ok (.iload_n 2, 1) := by decide +kernel
theorem d_Md_count_98 : decode b_Md_count 98 = .ok (.ireturn, 1) := by decide +kernel
theorem d_Md_count_99 : decode b_Md_count 99 = .ok (.iconst 0, 1) := by decide +kernel
theorem d_Md_count_100 : decode b_Md_count 100 = .ok (.istore_n 3, 1) := by decide +kernel
theorem d_Md_count_101 : decode b_Md_count 101 = .ok (.iload_n 3, 1) := by decide +kernel
theorem d_Md_count_102 : decode b_Md_count 102 = .ok (.aload_n 0, 1) := by decide +kernel
theorem d_Md_count_103 : decode b_Md_count 103 = .ok (.getfield 124, 3) := by decide +kernel
theorem d_Md_count_106 : decode b_Md_count 106 = .ok (.if_icmp .ge (27), 3) := by decide +kernel
theorem d_Md_count_109 : decode b_Md_count 109 = .ok (.iload_n 2, 1) := by decide +kernel
theorem d_Md_count_110 : decode b_Md_count 110 = .ok (.aload_n 0, 1) := by decide +kernel
theorem d_Md_count_111 : decode b_Md_count 111 = .ok (.getfield 51, 3) := by decide +kernel
theorem d_Md_count_114 : decode b_Md_count 114 = .ok (.iload_n 3, 1) := by decide +kernel
theorem d_Md_count_115 : decode b_Md_count 115 = .ok (.iaload, 1) := by decide +kernel
theorem d_Md_count_116 : decode b_Md_count 116 = .ok (.iconst 2, 1) := by decide +kernel
theorem d_Md_count_117 : decode b_Md_count 117 = .ok (.if_icmp .ne (7), 3) := by decide +kernel
theorem d_Md_count_120 : decode b_Md_count 120 = .ok (.iconst 1, 1) := by decide +kernel
theorem d_Md_count_121 : decode b_Md_count 121 = .ok (.goto (4), 3) := by decide +kernel
theorem d_Md_count_124 : decode b_Md_count 124 = .ok (.iconst 0, 1) := by decide +kernel
theorem d_Md_count_125 : decode b_Md_count 125 = .ok (.iadd, 1) := by decide +kernel
theorem d_Md_count_126 : decode b_Md_count 126 = .ok (.istore_n 2, 1) := by decide +kernel
theorem d_Md_count_127 : decode b_Md_count 127 = .ok (.iinc 3 (1), 3) := by decide +kernel
theorem d_Md_count_130 : decode b_Md_count 130 = .ok (.goto (-29), 3) := by decide +kernel
theorem d_Md_count_133 : decode b_Md_count 133 = .ok (.iload_n 2, 1) := by decide +kernel
theorem d_Md_count_134 : decode b_Md_count 134 = .ok (.ireturn, 1) := by decide +kernel
theorem d_Md_count_135 : decode b_Md_count 135 = .ok (.aload_n 0, 1) := by decide +kernel
theorem d_Md_count_136 : decode b_Md_count 136 = .ok (.getfield 145, 3) := by decide +kernel
theorem d_Md_count_139 : decode b_Md_count 139 = .ok (.ireturn, 1) := by decide +kernel
theorem d_Md_count_140 : decode b_Md_count 140 = .ok (.aload_n 0, 1) := by decide +kernel
theorem d_Md_count_141 : decode b_Md_count 141 = .ok (.getfield 148, 3) := by decide +kernel
theorem d_Md_count_144 : decode b_Md_count 144 = .ok (.ireturn, 1) := by decide +kernel
theorem d_Md_count_145 : decode b_Md_count 145 = .ok (.aload_n 0, 1) := by decide +kernel
theorem d_Md_count_146 : decode b_Md_count 146 = .ok (.invokevirtual 151, 3) := by decide +kernel
theorem d_Md_count_149 : decode b_Md_count 149 = .ok (.ireturn, 1) := by decide +kernel
theorem d_Md_count_150 : decode b_Md_count 150 = .ok (.bipush (-3), 2) := by decide +kernel
theorem d_Md_count_152 : decode b_Md_count 152 = .ok (.ireturn, 1) := by decide +kernel
end
section
theorem d_La_law_0 : decode code 0 = .ok (.new 7, 3) := by decide +kernel
theorem d_La_law_3 : decode code 3 = .ok (.dup, 1) := by decide +kernel
theorem d_La_law_4 : decode code 4 = .ok (.invokespecial 9, 3) := by decide +kernel
theorem d_La_law_7 : decode code 7 = .ok (.astore_n 1, 1) := by decide +kernel
theorem d_La_law_8 : decode code 8 = .ok (.new 10, 3) := by decide +kernel
theorem d_La_law_11 : decode code 11 = .ok (.dup, 1) := by decide +kernel
theorem d_La_law_12 : decode code 12 = .ok (.invokespecial 12, 3) := by decide +kernel
theorem d_La_law_15 : decode code 15 = .ok (.astore_n 2, 1) := by decide +kernel
theorem d_La_law_16 : decode code 16 = .ok (.iconst 0, 1) := by decide +kernel
theorem d_La_law_17 : decode code 17 = .ok (.istore_n 3, 1) := by decide +kernel
theorem d_La_law_18 : decode code 18 = .ok (.iload_n 3, 1) := by decide +kernel
theorem d_La_law_19 : decode code 19 = .ok (.aload_n 0, 1) := by decide +kernel
theorem d_La_law_20 : decode code 20 = .ok (.arraylength, 1) := by decide +kernel
theorem d_La_law_21 : decode code 21 = .ok (.bipush (7), 2) := by decide +kernel
theorem d_La_law_23 : decode code 23 = .ok (.isub, 1) := by decide +kernel
theorem d_La_law_24 : decode code 24 = .ok (.if_icmp .gt (708), 3) := by decide +kernel
theorem d_La_law_27 : decode code 27 = .ok (.aload_n 0, 1) := by decide +kernel
theorem d_La_law_28 : decode code 28 = .ok (.iload_n 3, 1) := by decide +kernel
theorem d_La_law_29 : decode code 29 = .ok (.iaload, 1) := by decide +kernel
theorem d_La_law_30 : decode code 30 = .ok (.bipush (31), 2) := by decide +kernel
theorem d_La_law_32 : decode code 32 = .ok (.iand, 1) := by decide +kernel
theorem d_La_law_33 : decode code 33 = .ok (.tableswitch (693) 0 19 #[95, 118, 167, 190, 213, 236, 259, 334, 367, 390, 433, 456, 479, 512, 545, 568, 591, 614, 647, 670], 95) := by decide +kernel
theorem d_La_law_128 : decode code 128 = .ok (.aload_n 1, 1) := by decide +kernel
theorem d_La_law_129 : decode code 129 = .ok (.aload_n 0, 1) := by decide +kernel
theorem d_La_law_130 : decode code 130 = .ok (.iload_n 3, 1) := by decide +kernel
theorem d_La_law_131 : decode code 131 = .ok (.iconst 1, 1) := by decide +kernel
theorem d_La_law_132 : decode code 132 = .ok (.iadd, 1) := by decide +kernel
theorem d_La_law_133 : decode code 133 = .ok (.iaload, 1) := by decide +kernel
theorem d_La_law_134 : decode code 134 = .ok (.invokevirtual 13, 3) := by decide +kernel
theorem d_La_law_137 : decode code 137 = .ok (.aload_n 2, 1) := by decide +kernel
theorem d_La_law_138 : decode code 138 = .ok (.aload_n 0, 1) := by decide +kernel
theorem d_La_law_139 : decode code 139 = .ok (.iload_n 3, 1) := by decide +kernel
theorem d_La_law_140 : decode code 140 = .ok (.iconst 1, 1) := by decide +kernel
theorem d_La_law_141 : decode code 141 = .ok (.iadd, 1) := by decide +kernel
theorem d_La_law_142 : decode code 142 = .ok (.iaload, 1) := by decide +kernel
theorem d_La_law_143 : decode code 143 = .ok (.invokevirtual 17, 3) := by decide +kernel
theorem d_La_law_146 : decode code 146 = .ok (.if_icmp .eq (580), 3) := by decide +kernel
theorem d_La_law_149 : decode code 149 = .ok (.iconst 0, 1) := by decide +kernel
theorem d_La_law_150 : decode code 150 = .ok (.ireturn, 1) := by decide +kernel
theorem d_La_law_151 : decode code 151 = .ok (.aload_n 1, 1) := by decide +kernel
theorem d_La_law_152 : decode code 152 = .ok (.aload_n 0, 1) := by decide +kernel
theorem d_La_law_153 : decode code 153 = .ok (.iload_n 3, 1) := by decide +kernel
theorem d_La_law_154 : decode code 154 = .ok (.iconst 1, 1) := by decide +kernel
theorem d_La_law_155 : decode code 155 = .ok (.iadd, 1) := by decide +kernel
theorem d_La_law_156 : decode code 156 = .ok (.iaload, 1) := by decide +kernel
theorem d_La_law_157 : decode code 157 = .ok (.aload_n 0, 1) := by decide +kernel
theorem d_La_law_158 : decode code 158 = .ok (.iload_n 3, 1) := by decide +kernel
theorem d_La_law_159 : decode code 159 = .ok (.iconst 2, 1) := by decide +kernel
theorem d_La_law_160 : decode code 160 = .ok (.iadd, 1) := by decide +kernel
theorem d_La_law_161 : decode code 161 = .ok (.iaload, 1) := by decide +kernel
theorem d_La_law_162 : decode code 162 = .ok (.ifCond .eq (7), 3) := by decide +kernel
theorem d_La_law_165 : decode code 165 = .ok (.iconst 1, 1) := by decide +kernel
theorem d_La_law_166 : decode code 166 = .ok (.goto (4), 3) := by decide +kernel
theorem d_La_law_169 : decode code 169 = .ok (.iconst 0, 1) := by decide +kernel
theorem d_La_law_170 : decode code 170 = .ok (.invokevirtual 18, 3) := by decide +kernel
theorem d_La_law_173 : decode code 173 = .ok (.aload_n 2, 1) := by decide +kernel
theorem d_La_law_174 : decode code 174 = .ok (.aload_n 0, 1) := by decide +kernel
theorem d_La_law_175 : decode code 175 = .ok (.iload_n 3, 1) := by decide +kernel
theorem d_La_law_176 : decode code 176 = .ok (.iconst 1, 1) := by decide +kernel
theorem d_La_law_177 : decode code 177 = .ok (.iadd, 1) := by decide +kernel
theorem d_La_law_178 : decode code 178 = .ok (.iaload, 1) := by decide +kernel
theorem d_La_law_179 : decode code 179 = .ok (.aload_n 0, 1) := by decide +kernel
theorem d_La_law_180 : decode code 180 = .ok (.iload_n 3, 1) := by decide +kernel
theorem d_La_law_181 : decode code 181 = .ok (.iconst 2, 1) := by decide +kernel
theorem d_La_law_182 : decode code 182 = .ok (.iadd, 1) := by decide +kernel
theorem d_La_law_183 : decode code 183 = .ok (.iaload, 1) := by decide +kernel
theorem d_La_law_184 : decode code 184 = .ok (.ifCond .eq (7), 3) := by decide +kernel
theorem d_La_law_187 : decode code 187 = .ok (.iconst 1, 1) := by decide +kernel
theorem d_La_law_188 : decode code 188 = .ok (.goto (4), 3) := by decide +kernel
theorem d_La_law_191 : decode code 191 = .ok (.iconst 0, 1) := by decide +kernel
theorem d_La_law_192 : decode code 192 = .ok (.invokevirtual 22, 3) := by decide +kernel
theorem d_La_law_195 : decode code 195 = .ok (.if_icmp .eq (531), 3) := by decide +kernel
theorem d_La_law_198 : decode code 198 = .ok (.iconst 0, 1) := by decide +kernel
theorem d_La_law_199 : decode code 199 = .ok (.ireturn, 1) := by decide +kernel
theorem d_La_law_200 : decode code 200 = .ok (.aload_n 1, 1) := by decide +kernel
theorem d_La_law_201 : decode code 201 = .ok (.aload_n 0, 1) := by decide +kernel
theorem d_La_law_202 : decode code 202 = .ok (.iload_n 3, 1) := by decide +kernel
theorem d_La_law_203 : decode code 203 = .ok (.iconst 1, 1) := by decide +kernel
theorem d_La_law_204 : decode code 204 = .ok (.iadd, 1) := by decide +kernel
theorem d_La_law_205 : decode code 205 = .ok (.iaload, 1) := by decide +kernel
theorem d_La_law_206 : decode code 206 = .ok (.invokevirtual 23, 3) := by decide +kernel
theorem d_La_law_209 : decode code 209 = .ok (.aload_n 2, 1) := by decide +kernel
theorem d_La_law_210 : decode code 210 = .ok (.aload_n 0, 1) := by decide +kernel
theorem d_La_law_211 : decode code 211 = .ok (.iload_n 3, 1) := by decide +kernel
theorem d_La_law_212 : decode code 212 = .ok (.iconst 1, 1) := by decide +kernel
theorem d_La_law_213 : decode code 213 = .ok (.iadd, 1) := by decide +kernel
theorem d_La_law_214 : decode code 214 = .ok (.iaload, 1) := by decide +kernel
theorem d_La_law_215 : decode code 215 = .ok (.invokevirtual 26, 3) := by decide +kernel
theorem d_La_law_218 : decode code 218 = .ok (.if_icmp .eq (508), 3) := by decide +kernel
theorem d_La_law_221 : decode code 221 = .ok (.iconst 0, 1) := by decide +kernel
theorem d_La_law_222 : decode code 222 = .ok (.ireturn, 1) := by decide +kernel
theorem d_La_law_223 : decode code 223 = .ok (.aload_n 1, 1) := by decide +kernel
theorem d_La_law_224 : decode code 224 = .ok (.aload_n 0, 1) := by decide +kernel
theorem d_La_law_225 : decode code 225 = .ok (.iload_n 3, 1) := by decide +kernel
theorem d_La_law_226 : decode code 226 = .ok (.iconst 1, 1) := by decide +kernel
theorem d_La_law_227 : decode code 227 = .ok (.iadd, 1) := by decide +kernel
theorem d_La_law_228 : decode code 228 = .ok (.iaload, 1) := by decide +kernel
theorem d_La_law_229 : decode code 229 = .ok (.invokevirtual 27, 3) := by decide +kernel
theorem d_La_law_232 : decode code 232 = .ok (.aload_n 2, 1) := by decide +kernel
theorem d_La_law_233 : decode code 233 = .ok (.aload_n 0, 1) := by decide +kernel
theorem d_La_law_234 : decode code 234 = .ok (.iload_n 3, 1) := by decide +kernel
theorem d_La_law_235 : decode code 235 = .ok (.iconst 1, 1) := by decide +kernel
theorem d_La_law_236 : decode code 236 = .ok (.iadd, 1) := by decide +kernel
theorem d_La_law_237 : decode code 237 = .ok (.iaload, 1) := by decide +kernel
theorem d_La_law_238 : decode code 238 = .ok (.invokevirtual 30, 3) := by decide +kernel
theorem d_La_law_241 : decode code 241 = .ok (.if_icmp .eq (485), 3) := by decide +kernel
theorem d_La_law_244 : decode code 244 = .ok (.iconst 0, 1) := by decide +kernel
theorem d_La_law_245 : decode code 245 = .ok (.ireturn, 1) := by decide +kernel
theorem d_La_law_246 : decode code 246 = .ok (.aload_n 1, 1) := by decide +kernel
theorem d_La_law_247 : decode code 247 = .ok (.aload_n 0, 1) := by decide +kernel
theorem d_La_law_248 : decode code 248 = .ok (.iload_n 3, 1) := by decide +kernel
theorem d_La_law_249 : decode code 249 = .ok (.iconst 1, 1) := by decide +kernel
theorem d_La_law_250 : decode code 250 = .ok (.iadd, 1) := by decide +kernel
theorem d_La_law_251 : decode code 251 = .ok (.iaload, 1) := by decide +kernel
theorem d_La_law_252 : decode code 252 = .ok (.invokevirtual 31, 3) := by decide +kernel
theorem d_La_law_255 : decode code 255 = .ok (.aload_n 2, 1) := by decide +kernel
theorem d_La_law_256 : decode code 256 = .ok (.aload_n 0, 1) := by decide +kernel
theorem d_La_law_257 : decode code 257 = .ok (.iload_n 3, 1) := by decide +kernel
theorem d_La_law_258 : decode code 258 = .ok (.iconst 1, 1) := by decide +kernel
theorem d_La_law_259 : decode code 259 = .ok (.iadd, 1) := by decide +kernel
theorem d_La_law_260 : decode code 260 = .ok (.iaload, 1) := by decide +kernel
theorem d_La_law_261 : decode code 261 = .ok (.invokevirtual 34, 3) := by decide +kernel
theorem d_La_law_264 : decode code 264 = .ok (.if_icmp .eq (462), 3) := by decide +kernel
theorem d_La_law_267 : decode code 267 = .ok (.iconst 0, 1) := by decide +kernel
theorem d_La_law_268 : decode code 268 = .ok (.ireturn, 1) := by decide +kernel
theorem d_La_law_269 : decode code 269 = .ok (.aload_n 1, 1) := by decide +kernel
theorem d_La_law_270 : decode code 270 = .ok (.aload_n 0, 1) := by decide +kernel
theorem d_La_law_271 : decode code 271 = .ok (.iload_n 3, 1) := by decide +kernel
theorem d_La_law_272 : decode code 272 = .ok (.iconst 1, 1) := by decide +kernel
theorem d_La_law_273 : decode code 273 = .ok (.iadd, 1) := by decide +kernel
theorem d_La_law_274 : decode code 274 = .ok (.iaload, 1) := by decide +kernel
theorem d_La_law_275 : decode code 275 = .ok (.invokevirtual 35, 3) := by decide +kernel
theorem d_La_law_278 : decode code 278 = .ok (.aload_n 2, 1) := by decide +kernel
theorem d_La_law_279 : decode code 279 = .ok (.aload_n 0, 1) := by decide +kernel
theorem d_La_law_280 : decode code 280 = .ok (.iload_n 3, 1) := by decide +kernel
theorem d_La_law_281 : decode code 281 = .ok (.iconst 1, 1) := by decide +kernel
theorem d_La_law_282 : decode code 282 = .ok (.iadd, 1) := by decide +kernel
theorem d_La_law_283 : decode code 283 = .ok (.iaload, 1) := by decide +kernel
theorem d_La_law_284 : decode code 284 = .ok (.invokevirtual 38, 3) := by decide +kernel
theorem d_La_law_287 : decode code 287 = .ok (.if_icmp .eq (439), 3) := by decide +kernel
theorem d_La_law_290 : decode code 290 = .ok (.iconst 0, 1) := by decide +kernel
theorem d_La_law_291 : decode code 291 = .ok (.ireturn, 1) := by decide +kernel
theorem d_La_law_292 : decode code 292 = .ok (.aload_n 1, 1) := by decide +kernel
theorem d_La_law_293 : decode code 293 = .ok (.aload_n 0, 1) := by decide +kernel
theorem d_La_law_294 : decode code 294 = .ok (.iload_n 3, 1) := by decide +kernel
theorem d_La_law_295 : decode code 295 = .ok (.iconst 1, 1) := by decide +kernel
theorem d_La_law_296 : decode code 296 = .ok (.iadd, 1) := by decide +kernel
theorem d_La_law_297 : decode code 297 = .ok (.iaload, 1) := by decide +kernel
theorem d_La_law_298 : decode code 298 = .ok (.aload_n 0, 1) := by decide +kernel
theorem d_La_law_299 : decode code 299 = .ok (.iload_n 3, 1) := by decide +kernel
theorem d_La_law_300 : decode code 300 = .ok (.iconst 2, 1) := by decide +kernel
theorem d_La_law_301 : decode code 301 = .ok (.iadd, 1) := by decide +kernel
theorem d_La_law_302 : decode code 302 = .ok (.iaload, 1) := by decide +kernel
theorem d_La_law_303 : decode code 303 = .ok (.aload_n 0, 1) := by decide +kernel
theorem d_La_law_304 : decode code 304 = .ok (.iload_n 3, 1) := by decide +kernel
theorem d_La_law_305 : decode code 305 = .ok (.iconst 3, 1) := by decide +kernel
theorem d_La_law_306 : decode code 306 = .ok (.iadd, 1) := by decide +kernel
theorem d_La_law_307 : decode code 307 = .ok (.iaload, 1) := by decide +kernel
theorem d_La_law_308 : decode code 308 = .ok (.aload_n 0, 1) := by decide +kernel
theorem d_La_law_309 : decode code 309 = .ok (.iload_n 3, 1) := by decide +kernel
theorem d_La_law_310 : decode code 310 = .ok (.iconst 4, 1) := by decide +kernel
theorem d_La_law_311 : decode code 311 = .ok (.iadd, 1) := by decide +kernel
theorem d_La_law_312 : decode code 312 = .ok (.iaload, 1) := by decide +kernel
theorem d_La_law_313 : decode code 313 = .ok (.aload_n 0, 1) := by decide +kernel
theorem d_La_law_314 : decode code 314 = .ok (.iload_n 3, 1) := by decide +kernel
theorem d_La_law_315 : decode code 315 = .ok (.iconst 5, 1) := by decide +kernel
theorem d_La_law_316 : decode code 316 = .ok (.iadd, 1) := by decide +kernel
theorem d_La_law_317 : decode code 317 = .ok (.iaload, 1) := by decide +kernel
theorem d_La_law_318 : decode code 318 = .ok (.aload_n 0, 1) := by decide +kernel
theorem d_La_law_319 : decode code 319 = .ok (.iload_n 3, 1) := by decide +kernel
theorem d_La_law_320 : decode code 320 = .ok (.bipush (6), 2) := by decide +kernel
theorem d_La_law_322 : decode code 322 = .ok (.iadd, 1) := by decide +kernel
theorem d_La_law_323 : decode code 323 = .ok (.iaload, 1) := by decide +kernel
theorem d_La_law_324 : decode code 324 = .ok (.invokevirtual 39, 3) := by decide +kernel
theorem d_La_law_327 : decode code 327 = .ok (.aload_n 2, 1) := by decide +kernel
theorem d_La_law_328 : decode code 328 = .ok (.aload_n 0, 1) := by decide +kernel
theorem d_La_law_329 : decode code 329 = .ok (.iload_n 3, 1) := by decide +kernel
theorem d_La_law_330 : decode code 330 = .ok (.iconst 1, 1) := by decide +kernel
theorem d_La_law_331 : decode code 331 = .ok (.iadd, 1) := by decide +kernel
theorem d_La_law_332 : decode code 332 = .ok (.iaload, 1) := by decide +kernel
theorem d_La_law_333 : decode code 333 = .ok (.aload_n 0, 1) := by decide +kernel
theorem d_La_law_334 : decode code 334 = .ok (.iload_n 3, 1) := by decide +kernel
theorem d_La_law_335 : decode code 335 = .ok (.iconst 2, 1) := by decide +kernel
theorem d_La_law_336 : decode code 336 = .ok (.iadd, 1) := by decide +kernel
theorem d_La_law_337 : decode code 337 = .ok (.iaload, 1) := by decide +kernel
theorem d_La_law_338 : decode code 338 = .ok (.aload_n 0, 1) := by decide +kernel
theorem d_La_law_339 : decode code 339 = .ok (.iload_n 3, 1) := by decide +kernel
theorem d_La_law_340 : decode code 340 = .ok (.iconst 3, 1) := by decide +kernel
theorem d_La_law_341 : decode code 341 = .ok (.iadd, 1) := by decide +kernel
theorem d_La_law_342 : decode code 342 = .ok (.iaload, 1) := by decide +kernel
theorem d_La_law_343 : decode code 343 = .ok (.aload_n 0, 1) := by decide +kernel
theorem d_La_law_344 : decode code 344 = .ok (.iload_n 3, 1) := by decide +kernel
theorem d_La_law_345 : decode code 345 = .ok (.iconst 4, 1) := by decide +kernel
theorem d_La_law_346 : decode code 346 = .ok (.iadd, 1) := by decide +kernel
theorem d_La_law_347 : decode code 347 = .ok (.iaload, 1) := by decide +kernel
theorem d_La_law_348 : decode code 348 = .ok (.aload_n 0, 1) := by decide +kernel
theorem d_La_law_349 : decode code 349 = .ok (.iload_n 3, 1) := by decide +kernel
theorem d_La_law_350 : decode code 350 = .ok (.iconst 5, 1) := by decide +kernel
theorem d_La_law_351 : decode code 351 = .ok (.iadd, 1) := by decide +kernel
theorem d_La_law_352 : decode code 352 = .ok (.iaload, 1) := by decide +kernel
theorem d_La_law_353 : decode code 353 = .ok (.aload_n 0, 1) := by decide +kernel
theorem d_La_law_354 : decode code 354 = .ok (.iload_n 3, 1) := by decide +kernel
theorem d_La_law_355 : decode code 355 = .ok (.bipush (6), 2) := by decide +kernel
theorem d_La_law_357 : decode code 357 = .ok (.iadd, 1) := by decide +kernel
theorem d_La_law_358 : decode code 358 = .ok (.iaload, 1) := by decide +kernel
theorem d_La_law_359 : decode code 359 = .ok (.invokevirtual 43, 3) := by decide +kernel
theorem d_La_law_362 : decode code 362 = .ok (.if_icmp .eq (364), 3) := by decide +kernel
theorem d_La_law_365 : decode code 365 = .ok (.iconst 0, 1) := by decide +kernel
theorem d_La_law_366 : decode code 366 = .ok (.ireturn, 1) := by decide +kernel
theorem d_La_law_367 : decode code 367 = .ok (.aload_n 1, 1) := by decide +kernel
theorem d_La_law_368 : decode code 368 = .ok (.aload_n 0, 1) := by decide +kernel
theorem d_La_law_369 : decode code 369 = .ok (.iload_n 3, 1) := by decide +kernel
theorem d_La_law_370 : decode code 370 = .ok (.iconst 1, 1) := by decide +kernel
theorem d_La_law_371 : decode code 371 = .ok (.iadd, 1) := by decide +kernel
theorem d_La_law_372 : decode code 372 = .ok (.iaload, 1) := by decide +kernel
theorem d_La_law_373 : decode code 373 = .ok (.aload_n 0, 1) := by decide +kernel
theorem d_La_law_374 : decode code 374 = .ok (.iload_n 3, 1) := by decide +kernel
theorem d_La_law_375 : decode code 375 = .ok (.iconst 2, 1) := by decide +kernel
theorem d_La_law_376 : decode code 376 = .ok (.iadd, 1) := by decide +kernel
theorem d_La_law_377 : decode code 377 = .ok (.iaload, 1) := by decide +kernel
theorem d_La_law_378 : decode code 378 = .ok (.invokevirtual 44, 3) := by decide +kernel
theorem d_La_law_381 : decode code 381 = .ok (.aload_n 2, 1) := by decide +kernel
theorem d_La_law_382 : decode code 382 = .ok (.aload_n 0, 1) := by decide +kernel
theorem d_La_law_383 : decode code 383 = .ok (.iload_n 3, 1) := by decide +kernel
theorem d_La_law_384 : decode code 384 = .ok (.iconst 1, 1) := by decide +kernel
theorem d_La_law_385 : decode code 385 = .ok (.iadd, 1) := by decide +kernel
theorem d_La_law_386 : decode code 386 = .ok (.iaload, 1) := by decide +kernel
theorem d_La_law_387 : decode code 387 = .ok (.aload_n 0, 1) := by decide +kernel
theorem d_La_law_388 : decode code 388 = .ok (.iload_n 3, 1) := by decide +kernel
theorem d_La_law_389 : decode code 389 = .ok (.iconst 2, 1) := by decide +kernel
theorem d_La_law_390 : decode code 390 = .ok (.iadd, 1) := by decide +kernel
theorem d_La_law_391 : decode code 391 = .ok (.iaload, 1) := by decide +kernel
theorem d_La_law_392 : decode code 392 = .ok (.invokevirtual 48, 3) := by decide +kernel
theorem d_La_law_395 : decode code 395 = .ok (.if_icmp .eq (331), 3) := by decide +kernel
theorem d_La_law_398 : decode code 398 = .ok (.iconst 0, 1) := by decide +kernel
theorem d_La_law_399 : decode code 399 = .ok (.ireturn, 1) := by decide +kernel
theorem d_La_law_400 : decode code 400 = .ok (.aload_n 1, 1) := by decide +kernel
theorem d_La_law_401 : decode code 401 = .ok (.aload_n 0, 1) := by decide +kernel
theorem d_La_law_402 : decode code 402 = .ok (.iload_n 3, 1) := by decide +kernel
theorem d_La_law_403 : decode code 403 = .ok (.iconst 1, 1) := by decide +kernel
theorem d_La_law_404 : decode code 404 = .ok (.iadd, 1) := by decide +kernel
theorem d_La_law_405 : decode code 405 = .ok (.iaload, 1) := by decide +kernel
theorem d_La_law_406 : decode code 406 = .ok (.invokevirtual 49, 3) := by decide +kernel
theorem d_La_law_409 : decode code 409 = .ok (.aload_n 2, 1) := by decide +kernel
theorem d_La_law_410 : decode code 410 = .ok (.aload_n 0, 1) := by decide +kernel
theorem d_La_law_411 : decode code 411 = .ok (.iload_n 3, 1) := by decide +kernel
theorem d_La_law_412 : decode code 412 = .ok (.iconst 1, 1) := by decide +kernel
theorem d_La_law_413 : decode code 413 = .ok (.iadd, 1) := by decide +kernel
theorem d_La_law_414 : decode code 414 = .ok (.iaload, 1) := by decide +kernel
theorem d_La_law_415 : decode code 415 = .ok (.invokevirtual 52, 3) := by decide +kernel
theorem d_La_law_418 : decode code 418 = .ok (.if_icmp .eq (308), 3) := by decide +kernel
theorem d_La_law_421 : decode code 421 = .ok (.iconst 0, 1) := by decide +kernel
theorem d_La_law_422 : decode code 422 = .ok (.ireturn, 1) := by decide +kernel
theorem d_La_law_423 : decode code 423 = .ok (.aload_n 1, 1) := by decide +kernel
theorem d_La_law_424 : decode code 424 = .ok (.aload_n 0, 1) := by decide +kernel
theorem d_La_law_425 : decode code 425 = .ok (.iload_n 3, 1) := by decide +kernel
theorem d_La_law_426 : decode code 426 = .ok (.iconst 1, 1) := by decide +kernel
theorem d_La_law_427 : decode code 427 = .ok (.iadd, 1) := by decide +kernel
theorem d_La_law_428 : decode code 428 = .ok (.iaload, 1) := by decide +kernel
theorem d_La_law_429 : decode code 429 = .ok (.aload_n 0, 1) := by decide +kernel
theorem d_La_law_430 : decode code 430 = .ok (.iload_n 3, 1) := by decide +kernel
theorem d_La_law_431 : decode code 431 = .ok (.iconst 2, 1) := by decide +kernel
theorem d_La_law_432 : decode code 432 = .ok (.iadd, 1) := by decide +kernel
theorem d_La_law_433 : decode code 433 = .ok (.iaload, 1) := by decide +kernel
theorem d_La_law_434 : decode code 434 = .ok (.aload_n 0, 1) := by decide +kernel
theorem d_La_law_435 : decode code 435 = .ok (.iload_n 3, 1) := by decide +kernel
theorem d_La_law_436 : decode code 436 = .ok (.iconst 3, 1) := by decide +kernel
theorem d_La_law_437 : decode code 437 = .ok (.iadd, 1) := by decide +kernel
theorem d_La_law_438 : decode code 438 = .ok (.iaload, 1) := by decide +kernel
theorem d_La_law_439 : decode code 439 = .ok (.invokevirtual 53, 3) := by decide +kernel
theorem d_La_law_442 : decode code 442 = .ok (.aload_n 2, 1) := by decide +kernel
theorem d_La_law_443 : decode code 443 = .ok (.aload_n 0, 1) := by decide +kernel
theorem d_La_law_444 : decode code 444 = .ok (.iload_n 3, 1) := by decide +kernel
theorem d_La_law_445 : decode code 445 = .ok (.iconst 1, 1) := by decide +kernel
theorem d_La_law_446 : decode code 446 = .ok (.iadd, 1) := by decide +kernel
theorem d_La_law_447 : decode code 447 = .ok (.iaload, 1) := by decide +kernel
theorem d_La_law_448 : decode code 448 = .ok (.aload_n 0, 1) := by decide +kernel
theorem d_La_law_449 : decode code 449 = .ok (.iload_n 3, 1) := by decide +kernel
theorem d_La_law_450 : decode code 450 = .ok (.iconst 2, 1) := by decide +kernel
theorem d_La_law_451 : decode code 451 = .ok (.iadd, 1) := by decide +kernel
theorem d_La_law_452 : decode code 452 = .ok (.iaload, 1) := by decide +kernel
theorem d_La_law_453 : decode code 453 = .ok (.aload_n 0, 1) := by decide +kernel
theorem d_La_law_454 : decode code 454 = .ok (.iload_n 3, 1) := by decide +kernel
theorem d_La_law_455 : decode code 455 = .ok (.iconst 3, 1) := by decide +kernel
theorem d_La_law_456 : decode code 456 = .ok (.iadd, 1) := by decide +kernel
theorem d_La_law_457 : decode code 457 = .ok (.iaload, 1) := by decide +kernel
theorem d_La_law_458 : decode code 458 = .ok (.invokevirtual 57, 3) := by decide +kernel
theorem d_La_law_461 : decode code 461 = .ok (.if_icmp .eq (265), 3) := by decide +kernel
theorem d_La_law_464 : decode code 464 = .ok (.iconst 0, 1) := by decide +kernel
theorem d_La_law_465 : decode code 465 = .ok (.ireturn, 1) := by decide +kernel
theorem d_La_law_466 : decode code 466 = .ok (.aload_n 1, 1) := by decide +kernel
theorem d_La_law_467 : decode code 467 = .ok (.aload_n 0, 1) := by decide +kernel
theorem d_La_law_468 : decode code 468 = .ok (.iload_n 3, 1) := by decide +kernel
theorem d_La_law_469 : decode code 469 = .ok (.iconst 1, 1) := by decide +kernel
theorem d_La_law_470 : decode code 470 = .ok (.iadd, 1) := by decide +kernel
theorem d_La_law_471 : decode code 471 = .ok (.iaload, 1) := by decide +kernel
theorem d_La_law_472 : decode code 472 = .ok (.invokevirtual 58, 3) := by decide +kernel
theorem d_La_law_475 : decode code 475 = .ok (.aload_n 2, 1) := by decide +kernel
theorem d_La_law_476 : decode code 476 = .ok (.aload_n 0, 1) := by decide +kernel
theorem d_La_law_477 : decode code 477 = .ok (.iload_n 3, 1) := by decide +kernel
theorem d_La_law_478 : decode code 478 = .ok (.iconst 1, 1) := by decide +kernel
theorem d_La_law_479 : decode code 479 = .ok (.iadd, 1) := by decide +kernel
theorem d_La_law_480 : decode code 480 = .ok (.iaload, 1) := by decide +kernel
theorem d_La_law_481 : decode code 481 = .ok (.invokevirtual 61, 3) := by decide +kernel
theorem d_La_law_484 : decode code 484 = .ok (.if_icmp .eq (242), 3) := by decide +kernel
theorem d_La_law_487 : decode code 487 = .ok (.iconst 0, 1) := by decide +kernel
theorem d_La_law_488 : decode code 488 = .ok (.ireturn, 1) := by decide +kernel
theorem d_La_law_489 : decode code 489 = .ok (.aload_n 1, 1) := by decide +kernel
theorem d_La_law_490 : decode code 490 = .ok (.aload_n 0, 1) := by decide +kernel
theorem d_La_law_491 : decode code 491 = .ok (.iload_n 3, 1) := by decide +kernel
theorem d_La_law_492 : decode code 492 = .ok (.iconst 1, 1) := by decide +kernel
theorem d_La_law_493 : decode code 493 = .ok (.iadd, 1) := by decide +kernel
theorem d_La_law_494 : decode code 494 = .ok (.iaload, 1) := by decide +kernel
theorem d_La_law_495 : decode code 495 = .ok (.invokevirtual 62, 3) := by decide +kernel
theorem d_La_law_498 : decode code 498 = .ok (.aload_n 2, 1) := by decide +kernel
theorem d_La_law_499 : decode code 499 = .ok (.aload_n 0, 1) := by decide +kernel
theorem d_La_law_500 : decode code 500 = .ok (.iload_n 3, 1) := by decide +kernel
theorem d_La_law_501 : decode code 501 = .ok (.iconst 1, 1) := by decide +kernel
theorem d_La_law_502 : decode code 502 = .ok (.iadd, 1) := by decide +kernel
theorem d_La_law_503 : decode code 503 = .ok (.iaload, 1) := by decide +kernel
theorem d_La_law_504 : decode code 504 = .ok (.invokevirtual 65, 3) := by decide +kernel
theorem d_La_law_507 : decode code 507 = .ok (.if_icmp .eq (219), 3) := by decide +kernel
theorem d_La_law_510 : decode code 510 = .ok (.iconst 0, 1) := by decide +kernel
theorem d_La_law_511 : decode code 511 = .ok (.ireturn, 1) := by decide +kernel
theorem d_La_law_512 : decode code 512 = .ok (.aload_n 1, 1) := by decide +kernel
theorem d_La_law_513 : decode code 513 = .ok (.aload_n 0, 1) := by decide +kernel
theorem d_La_law_514 : decode code 514 = .ok (.iload_n 3, 1) := by decide +kernel
theorem d_La_law_515 : decode code 515 = .ok (.iconst 1, 1) := by decide +kernel
theorem d_La_law_516 : decode code 516 = .ok (.iadd, 1) := by decide +kernel
theorem d_La_law_517 : decode code 517 = .ok (.iaload, 1) := by decide +kernel
theorem d_La_law_518 : decode code 518 = .ok (.aload_n 0, 1) := by decide +kernel
theorem d_La_law_519 : decode code 519 = .ok (.iload_n 3, 1) := by decide +kernel
theorem d_La_law_520 : decode code 520 = .ok (.iconst 2, 1) := by decide +kernel
theorem d_La_law_521 : decode code 521 = .ok (.iadd, 1) := by decide +kernel
theorem d_La_law_522 : decode code 522 = .ok (.iaload, 1) := by decide +kernel
theorem d_La_law_523 : decode code 523 = .ok (.invokevirtual 66, 3) := by decide +kernel
theorem d_La_law_526 : decode code 526 = .ok (.aload_n 2, 1) := by decide +kernel
theorem d_La_law_527 : decode code 527 = .ok (.aload_n 0, 1) := by decide +kernel
theorem d_La_law_528 : decode code 528 = .ok (.iload_n 3, 1) := by decide +kernel
theorem d_La_law_529 : decode code 529 = .ok (.iconst 1, 1) := by decide +kernel
theorem d_La_law_530 : decode code 530 = .ok (.iadd, 1) := by decide +kernel
theorem d_La_law_531 : decode code 531 = .ok (.iaload, 1) := by decide +kernel
theorem d_La_law_532 : decode code 532 = .ok (.aload_n 0, 1) := by decide +kernel
theorem d_La_law_533 : decode code 533 = .ok (.iload_n 3, 1) := by decide +kernel
theorem d_La_law_534 : decode code 534 = .ok (.iconst 2, 1) := by decide +kernel
theorem d_La_law_535 : decode code 535 = .ok (.iadd, 1) := by decide +kernel
theorem d_La_law_536 : decode code 536 = .ok (.iaload, 1) := by decide +kernel
theorem d_La_law_537 : decode code 537 = .ok (.invokevirtual 69, 3) := by decide +kernel
theorem d_La_law_540 : decode code 540 = .ok (.if_icmp .eq (186), 3) := by decide +kernel
theorem d_La_law_543 : decode code 543 = .ok (.iconst 0, 1) := by decide +kernel
theorem d_La_law_544 : decode code 544 = .ok (.ireturn, 1) := by decide +kernel
theorem d_La_law_545 : decode code 545 = .ok (.aload_n 1, 1) := by decide +kernel
theorem d_La_law_546 : decode code 546 = .ok (.aload_n 0, 1) := by decide +kernel
theorem d_La_law_547 : decode code 547 = .ok (.iload_n 3, 1) := by decide +kernel
theorem d_La_law_548 : decode code 548 = .ok (.iconst 1, 1) := by decide +kernel
theorem d_La_law_549 : decode code 549 = .ok (.iadd, 1) := by decide +kernel
theorem d_La_law_550 : decode code 550 = .ok (.iaload, 1) := by decide +kernel
theorem d_La_law_551 : decode code 551 = .ok (.aload_n 0, 1) := by decide +kernel
theorem d_La_law_552 : decode code 552 = .ok (.iload_n 3, 1) := by decide +kernel
theorem d_La_law_553 : decode code 553 = .ok (.iconst 2, 1) := by decide +kernel
theorem d_La_law_554 : decode code 554 = .ok (.iadd, 1) := by decide +kernel
theorem d_La_law_555 : decode code 555 = .ok (.iaload, 1) := by decide +kernel
theorem d_La_law_556 : decode code 556 = .ok (.invokevirtual 70, 3) := by decide +kernel
theorem d_La_law_559 : decode code 559 = .ok (.aload_n 2, 1) := by decide +kernel
theorem d_La_law_560 : decode code 560 = .ok (.aload_n 0, 1) := by decide +kernel
theorem d_La_law_561 : decode code 561 = .ok (.iload_n 3, 1) := by decide +kernel
theorem d_La_law_562 : decode code 562 = .ok (.iconst 1, 1) := by decide +kernel
theorem d_La_law_563 : decode code 563 = .ok (.iadd, 1) := by decide +kernel
theorem d_La_law_564 : decode code 564 = .ok (.iaload, 1) := by decide +kernel
theorem d_La_law_565 : decode code 565 = .ok (.aload_n 0, 1) := by decide +kernel
theorem d_La_law_566 : decode code 566 = .ok (.iload_n 3, 1) := by decide +kernel
theorem d_La_law_567 : decode code 567 = .ok (.iconst 2, 1) := by decide +kernel
theorem d_La_law_568 : decode code 568 = .ok (.iadd, 1) := by decide +kernel
theorem d_La_law_569 : decode code 569 = .ok (.iaload, 1) := by decide +kernel
theorem d_La_law_570 : decode code 570 = .ok (.invokevirtual 73, 3) := by decide +kernel
theorem d_La_law_573 : decode code 573 = .ok (.if_icmp .eq (153), 3) := by decide +kernel
theorem d_La_law_576 : decode code 576 = .ok (.iconst 0, 1) := by decide +kernel
theorem d_La_law_577 : decode code 577 = .ok (.ireturn, 1) := by decide +kernel
theorem d_La_law_578 : decode code 578 = .ok (.aload_n 1, 1) := by decide +kernel
theorem d_La_law_579 : decode code 579 = .ok (.aload_n 0, 1) := by decide +kernel
theorem d_La_law_580 : decode code 580 = .ok (.iload_n 3, 1) := by decide +kernel
theorem d_La_law_581 : decode code 581 = .ok (.iconst 1, 1) := by decide +kernel
theorem d_La_law_582 : decode code 582 = .ok (.iadd, 1) := by decide +kernel
theorem d_La_law_583 : decode code 583 = .ok (.iaload, 1) := by decide +kernel
theorem d_La_law_584 : decode code 584 = .ok (.invokevirtual 74, 3) := by decide +kernel
theorem d_La_law_587 : decode code 587 = .ok (.aload_n 2, 1) := by decide +kernel
theorem d_La_law_588 : decode code 588 = .ok (.aload_n 0, 1) := by decide +kernel
theorem d_La_law_589 : decode code 589 = .ok (.iload_n 3, 1) := by decide +kernel
theorem d_La_law_590 : decode code 590 = .ok (.iconst 1, 1) := by decide +kernel
theorem d_La_law_591 : decode code 591 = .ok (.iadd, 1) := by decide +kernel
theorem d_La_law_592 : decode code 592 = .ok (.iaload, 1) := by decide +kernel
theorem d_La_law_593 : decode code 593 = .ok (.invokevirtual 77, 3) := by decide +kernel
theorem d_La_law_596 : decode code 596 = .ok (.if_icmp .eq (130), 3) := by decide +kernel
theorem d_La_law_599 : decode code 599 = .ok (.iconst 0, 1) := by decide +kernel
theorem d_La_law_600 : decode code 600 = .ok (.ireturn, 1) := by decide +kernel
theorem d_La_law_601 : decode code 601 = .ok (.aload_n 1, 1) := by decide +kernel
theorem d_La_law_602 : decode code 602 = .ok (.aload_n 0, 1) := by decide +kernel
theorem d_La_law_603 : decode code 603 = .ok (.iload_n 3, 1) := by decide +kernel
theorem d_La_law_604 : decode code 604 = .ok (.iconst 1, 1) := by decide +kernel
theorem d_La_law_605 : decode code 605 = .ok (.iadd, 1) := by decide +kernel
theorem d_La_law_606 : decode code 606 = .ok (.iaload, 1) := by decide +kernel
theorem d_La_law_607 : decode code 607 = .ok (.invokevirtual 78, 3) := by decide +kernel
theorem d_La_law_610 : decode code 610 = .ok (.aload_n 2, 1) := by decide +kernel
theorem d_La_law_611 : decode code 611 = .ok (.aload_n 0, 1) := by decide +kernel
theorem d_La_law_612 : decode code 612 = .ok (.iload_n 3, 1) := by decide +kernel
theorem d_La_law_613 : decode code 613 = .ok (.iconst 1, 1) := by decide +kernel
theorem d_La_law_614 : decode code 614 = .ok (.iadd, 1) := by decide +kernel
theorem d_La_law_615 : decode code 615 = .ok (.iaload, 1) := by decide +kernel
theorem d_La_law_616 : decode code 616 = .ok (.invokevirtual 81, 3) := by decide +kernel
theorem d_La_law_619 : decode code 619 = .ok (.if_icmp .eq (107), 3) := by decide +kernel
theorem d_La_law_622 : decode code 622 = .ok (.iconst 0, 1) := by decide +kernel
theorem d_La_law_623 : decode code 623 = .ok (.ireturn, 1) := by decide +kernel
theorem d_La_law_624 : decode code 624 = .ok (.aload_n 1, 1) := by decide +kernel
theorem d_La_law_625 : decode code 625 = .ok (.aload_n 0, 1) := by decide +kernel
theorem d_La_law_626 : decode code 626 = .ok (.iload_n 3, 1) := by decide +kernel
theorem d_La_law_627 : decode code 627 = .ok (.iconst 1, 1) := by decide +kernel
theorem d_La_law_628 : decode code 628 = .ok (.iadd, 1) := by decide +kernel
theorem d_La_law_629 : decode code 629 = .ok (.iaload, 1) := by decide +kernel
theorem d_La_law_630 : decode code 630 = .ok (.invokevirtual 82, 3) := by decide +kernel
theorem d_La_law_633 : decode code 633 = .ok (.aload_n 2, 1) := by decide +kernel
theorem d_La_law_634 : decode code 634 = .ok (.aload_n 0, 1) := by decide +kernel
theorem d_La_law_635 : decode code 635 = .ok (.iload_n 3, 1) := by decide +kernel
theorem d_La_law_636 : decode code 636 = .ok (.iconst 1, 1) := by decide +kernel
theorem d_La_law_637 : decode code 637 = .ok (.iadd, 1) := by decide +kernel
theorem d_La_law_638 : decode code 638 = .ok (.iaload, 1) := by decide +kernel
theorem d_La_law_639 : decode code 639 = .ok (.invokevirtual 85, 3) := by decide +kernel
theorem d_La_law_642 : decode code 642 = .ok (.if_icmp .eq (84), 3) := by decide +kernel
theorem d_La_law_645 : decode code 645 = .ok (.iconst 0, 1) := by decide +kernel
theorem d_La_law_646 : decode code 646 = .ok (.ireturn, 1) := by decide +kernel
theorem d_La_law_647 : decode code 647 = .ok (.aload_n 1, 1) := by decide +kernel
theorem d_La_law_648 : decode code 648 = .ok (.aload_n 0, 1) := by decide +kernel
theorem d_La_law_649 : decode code 649 = .ok (.iload_n 3, 1) := by decide +kernel
theorem d_La_law_650 : decode code 650 = .ok (.iconst 1, 1) := by decide +kernel
theorem d_La_law_651 : decode code 651 = .ok (.iadd, 1) := by decide +kernel
theorem d_La_law_652 : decode code 652 = .ok (.iaload, 1) := by decide +kernel
theorem d_La_law_653 : decode code 653 = .ok (.aload_n 0, 1) := by decide +kernel
theorem d_La_law_654 : decode code 654 = .ok (.iload_n 3, 1) := by decide +kernel
theorem d_La_law_655 : decode code 655 = .ok (.iconst 2, 1) := by decide +kernel
theorem d_La_law_656 : decode code 656 = .ok (.iadd, 1) := by decide +kernel
theorem d_La_law_657 : decode code 657 = .ok (.iaload, 1) := by decide +kernel
theorem d_La_law_658 : decode code 658 = .ok (.invokevirtual 86, 3) := by decide +kernel
theorem d_La_law_661 : decode code 661 = .ok (.aload_n 2, 1) := by decide +kernel
theorem d_La_law_662 : decode code 662 = .ok (.aload_n 0, 1) := by decide +kernel
theorem d_La_law_663 : decode code 663 = .ok (.iload_n 3, 1) := by decide +kernel
theorem d_La_law_664 : decode code 664 = .ok (.iconst 1, 1) := by decide +kernel
theorem d_La_law_665 : decode code 665 = .ok (.iadd, 1) := by decide +kernel
theorem d_La_law_666 : decode code 666 = .ok (.iaload, 1) := by decide +kernel
theorem d_La_law_667 : decode code 667 = .ok (.aload_n 0, 1) := by decide +kernel
theorem d_La_law_668 : decode code 668 = .ok (.iload_n 3, 1) := by decide +kernel
theorem d_La_law_669 : decode code 669 = .ok (.iconst 2, 1) := by decide +kernel
theorem d_La_law_670 : decode code 670 = .ok (.iadd, 1) := by decide +kernel
theorem d_La_law_671 : decode code 671 = .ok (.iaload, 1) := by decide +kernel
theorem d_La_law_672 : decode code 672 = .ok (.invokevirtual 89, 3) := by decide +kernel
theorem d_La_law_675 : decode code 675 = .ok (.if_icmp .eq (51), 3) := by decide +kernel
theorem d_La_law_678 : decode code 678 = .ok (.iconst 0, 1) := by decide +kernel
theorem d_La_law_679 : decode code 679 = .ok (.ireturn, 1) := by decide +kernel
theorem d_La_law_680 : decode code 680 = .ok (.aload_n 1, 1) := by decide +kernel
theorem d_La_law_681 : decode code 681 = .ok (.aload_n 0, 1) := by decide +kernel
theorem d_La_law_682 : decode code 682 = .ok (.iload_n 3, 1) := by decide +kernel
theorem d_La_law_683 : decode code 683 = .ok (.iconst 1, 1) := by decide +kernel
theorem d_La_law_684 : decode code 684 = .ok (.iadd, 1) := by decide +kernel
theorem d_La_law_685 : decode code 685 = .ok (.iaload, 1) := by decide +kernel
theorem d_La_law_686 : decode code 686 = .ok (.invokevirtual 90, 3) := by decide +kernel
theorem d_La_law_689 : decode code 689 = .ok (.aload_n 2, 1) := by decide +kernel
theorem d_La_law_690 : decode code 690 = .ok (.aload_n 0, 1) := by decide +kernel
theorem d_La_law_691 : decode code 691 = .ok (.iload_n 3, 1) := by decide +kernel
theorem d_La_law_692 : decode code 692 = .ok (.iconst 1, 1) := by decide +kernel
theorem d_La_law_693 : decode code 693 = .ok (.iadd, 1) := by decide +kernel
theorem d_La_law_694 : decode code 694 = .ok (.iaload, 1) := by decide +kernel
theorem d_La_law_695 : decode code 695 = .ok (.invokevirtual 93, 3) := by decide +kernel
theorem d_La_law_698 : decode code 698 = .ok (.if_icmp .eq (28), 3) := by decide +kernel
theorem d_La_law_701 : decode code 701 = .ok (.iconst 0, 1) := by decide +kernel
theorem d_La_law_702 : decode code 702 = .ok (.ireturn, 1) := by decide +kernel
theorem d_La_law_703 : decode code 703 = .ok (.aload_n 1, 1) := by decide +kernel
theorem d_La_law_704 : decode code 704 = .ok (.aload_n 0, 1) := by decide +kernel
theorem d_La_law_705 : decode code 705 = .ok (.iload_n 3, 1) := by decide +kernel
theorem d_La_law_706 : decode code 706 = .ok (.iconst 1, 1) := by decide +kernel
theorem d_La_law_707 : decode code 707 = .ok (.iadd, 1) := by decide +kernel
theorem d_La_law_708 : decode code 708 = .ok (.iaload, 1) := by decide +kernel
theorem d_La_law_709 : decode code 709 = .ok (.invokevirtual 94, 3) := by decide +kernel
theorem d_La_law_712 : decode code 712 = .ok (.aload_n 2, 1) := by decide +kernel
theorem d_La_law_713 : decode code 713 = .ok (.aload_n 0, 1) := by decide +kernel
theorem d_La_law_714 : decode code 714 = .ok (.iload_n 3, 1) := by decide +kernel
theorem d_La_law_715 : decode code 715 = .ok (.iconst 1, 1) := by decide +kernel
theorem d_La_law_716 : decode code 716 = .ok (.iadd, 1) := by decide +kernel
theorem d_La_law_717 : decode code 717 = .ok (.iaload, 1) := by decide +kernel
theorem d_La_law_718 : decode code 718 = .ok (.invokevirtual 97, 3) := by decide +kernel
theorem d_La_law_721 : decode code 721 = .ok (.if_icmp .eq (5), 3) := by decide +kernel
theorem d_La_law_724 : decode code 724 = .ok (.iconst 0, 1) := by decide +kernel
theorem d_La_law_725 : decode code 725 = .ok (.ireturn, 1) := by decide +kernel
theorem d_La_law_726 : decode code 726 = .ok (.iinc 3 (7), 3) := by decide +kernel
theorem d_La_law_729 : decode code 729 = .ok (.goto (-711), 3) := by decide +kernel
theorem d_La_law_732 : decode code 732 = .ok (.iconst 1, 1) := by decide +kernel
theorem d_La_law_733 : decode code 733 = .ok (.ireturn, 1) := by decide +kernel
end
section
/-! THE WORLD: the class' two machines (m = 0, 1) and the model (m = 2), each a table of ints t f i; every cell of the heap is read off them -/
abbrev LL := List (Option Value)
abbrev TT := Nat → Nat → Int
abbrev WW := Nat → TT
abbrev Ew := (Nat → Nat) × (Nat → ClassId)
def iv (e : Int) : Value := .int (Int32.ofInt e)
def rf (E : Ew) (k : Nat) : Value := .ref (E.1 k)
def tu (t : TT) (f i : Nat) (x : Int) : TT := fun a b => if a = f ∧ b = i then x else t a b
def sm (S : WW) (m : Nat) (t : TT) : WW := fun a => if a = m then t else S a
def ar (t : TT) (f : Nat) : Nat → Int32 := fun i => Int32.ofInt (t f i)
def ir (e : Int) : Prop := -2147483648 ≤ e ∧ e ≤ 2147483647
theorem tu_eq (t : TT) (f i : Nat) (x : Int) : tu t f i x f i = x := by simp [tu]
theorem tu_ne {t : TT} {f i a b : Nat} {x : Int} (h : ¬ (a = f ∧ b = i)) : tu t f i x a b = t a b := if_neg h
theorem sm_eq (S : WW) (m : Nat) (t : TT) : sm S m t m = t := by simp [sm]
theorem sm_ne {S : WW} {m a : Nat} {t : TT} (h : a ≠ m) : sm S m t a = S a := if_neg h
theorem sm_sm (S : WW) (m : Nat) (t t' : TT) : sm (sm S m t) m t' = sm S m t' := by
  funext a; simp only [sm]; split <;> rfl
theorem sm_self (S : WW) (m : Nat) : sm S m (S m) = S := by
  funext a; simp only [sm]; split
  · rename_i h; rw [h]
  · rfl
theorem sm_comm (S : WW) {m n : Nat} (h : m ≠ n) (t u : TT) : sm (sm S m t) n u = sm (sm S n u) m t := by
  funext a; simp only [sm]; split
  · rename_i h1; rw [if_neg (by omega)]
  · rfl
theorem iv_add (a b : Int) : Value.int (Int32.ofInt a + Int32.ofInt b) = iv (a + b) := by rw [iv, Int32.ofInt_add]
theorem iv_sub (a b : Int) : Value.int (Int32.ofInt a - Int32.ofInt b) = iv (a - b) := by rw [iv, Int32.ofInt_sub]
theorem iv_mul (a b : Int) : Value.int (Int32.ofInt a * Int32.ofInt b) = iv (a * b) := by rw [iv, Int32.ofInt_mul]
theorem ir_to {a : Int} (h : ir a) : (Int32.ofInt a).toInt = a := Int32.toInt_ofInt_of_le (by have := h.1; omega) (by have := h.2; omega)
theorem ir_lt {a b : Int} (ha : ir a) (hb : ir b) : Int32.ofInt a < Int32.ofInt b ↔ a < b := by rw [Int32.lt_iff_toInt_lt, ir_to ha, ir_to hb]
theorem ir_le {a b : Int} (ha : ir a) (hb : ir b) : Int32.ofInt a ≤ Int32.ofInt b ↔ a ≤ b := by rw [Int32.le_iff_toInt_le, ir_to ha, ir_to hb]
theorem ir_eq {a b : Int} (ha : ir a) (hb : ir b) : Int32.ofInt a = Int32.ofInt b ↔ a = b := by rw [← Int32.toInt_inj, ir_to ha, ir_to hb]
theorem ir_0 : ir 0 := ⟨by omega, by omega⟩
theorem ir_mk {a : Int} (h1 : -2147483648 ≤ a) (h2 : a ≤ 2147483647) : ir a := ⟨h1, h2⟩
theorem iv_of (x : Int32) : Value.int x = iv x.toInt := by rw [iv, Int32.ofInt_toInt]
theorem ir_of (x : Int32) : ir x.toInt := ⟨by have := x.le_toInt; simpa using this, by have := x.toInt_lt; omega⟩
theorem ir_in {i n : Nat} {e : Int} (he : e = (i : Int)) (hi : i < n) (hn : n < 2147483648) : vp_in (Int32.ofInt e) n ∧ (Int32.ofInt e).toNatClampNeg = i := by
  subst he
  have h : (Int32.ofInt (i : Int)).toInt = (i : Int) := ir_to ⟨by omega, by omega⟩
  refine ⟨vp_in_iff.mpr (by rw [h]; omega), ?_⟩
  show (Int32.ofInt (i : Int)).toInt.toNat = i
  rw [h]; rfl
def bs (m : Nat) : Nat := 33 + 85 * m
def kMc (m : Nat) : Nat := bs m + 0
def kRa (m : Nat) : Nat := bs m + 1
def kAa (m : Nat) : Nat := bs m + 2
def kJa (m : Nat) : Nat := bs m + 3
def kHa (m : Nat) : Nat := bs m + 4
def kQu (m : Nat) : Nat := bs m + 5
def kRk (m i : Nat) : Nat := bs m + (6 + i)
def kAc (m i : Nat) : Nat := bs m + (10 + i)
def kJb (m i : Nat) : Nat := bs m + (16 + i)
def kOn (m i : Nat) : Nat := bs m + (46 + i)
def kHd (m i : Nat) : Nat := bs m + (76 + i)
def kMd (a : Nat) : Nat := 2 + a

def mdf (a : Nat) : Nat := [12, 14, 15, 16, 17, 18, 19, 20, 21, 22, 23, 24, 25, 26, 27, 35, 36, 30, 31, 33, 34, 39, 40, 11, 41, 42, 43, 44, 45, 46, 47].getD a 0
def mdl (a : Nat) : Nat := [4, 4, 6, 6, 30, 30, 30, 30, 30, 30, 30, 30, 30, 30, 30, 30, 30, 120, 8, 8, 8, 260, 260, 30, 30, 30, 30, 30, 30, 120, 6].getD a 0
def mdt (a : Nat) : Nat := if a = 1 then 1 else 0
theorem mdf_inj : ∀ a, a < 31 → ∀ b, b < 31 → mdf a = mdf b → a = b := by decide +kernel
theorem mdl_small : ∀ a, a < 31 → mdl a < 2147483648 := by decide +kernel
def oMc (E : Ew) (B : Nat) (t : TT) : List Value := [rf E (B + 1), rf E (B + 2), rf E (B + 3), rf E (B + 4), iv (t 0 0), iv (t 1 0), iv (t 2 0), iv (t 3 0), iv (t 4 0), iv (t 5 0), iv (t 6 0), iv (t 7 0), iv (t 8 0), iv (t 9 0), rf E (B + 5), iv (t 10 0)]
def oRk (t : TT) (i : Nat) : List Value := [iv (t 12 i), iv (t 13 i), iv (t 14 i)]
def oAc (t : TT) (i : Nat) : List Value := [iv (t 15 i), iv (t 16 i)]
def oJb (E : Ew) (B : Nat) (t : TT) (i : Nat) : List Value := [iv (t 17 i), iv (t 18 i), iv (t 19 i), iv (t 20 i), iv (t 21 i), iv (t 22 i), iv (t 23 i), iv (t 24 i), iv (t 25 i), iv (t 26 i), iv (t 27 i), iv (t 28 i), iv (t 29 i), rf E (B + (46 + i))]
def oHd (t : TT) (i : Nat) : List Value := [iv (t 31 i), iv (t 32 i), iv (t 33 i), iv (t 34 i)]
def oMd (E : Ew) (t : TT) : List Value := [iv (t 4 0), iv (t 5 0), iv (t 6 0), iv (t 0 0), rf E 2, rf E 3, iv (t 1 0), rf E 4, rf E 5, iv (t 2 0), rf E 6, rf E 7, rf E 8, rf E 9, rf E 10, rf E 11, rf E 12, rf E 13, rf E 14, rf E 15, rf E 16, rf E 17, rf E 18, rf E 19, iv (t 3 0), rf E 20, rf E 21, rf E 22, iv (t 8 0), iv (t 9 0), iv (t 37 0), iv (t 38 0), iv (t 48 0), rf E 23, rf E 24, rf E 25, iv (t 10 0), rf E 26, rf E 27, rf E 28, rf E 29, rf E 30, rf E 31, rf E 32]
def mcel (E : Ew) (B : Nat) (t : TT) (j : Nat) : va_E :=
  if j = 0 then .inr (3, oMc E B t)
  else if j = 1 then .inl (E.2 2, 4, .inr (.inr (.inr (.inr fun i => some (E.1 (B + (6 + i)))))))
  else if j = 2 then .inl (E.2 3, 6, .inr (.inr (.inr (.inr fun i => some (E.1 (B + (10 + i)))))))
  else if j = 3 then .inl (E.2 4, 30, .inr (.inr (.inr (.inr fun i => some (E.1 (B + (16 + i)))))))
  else if j = 4 then .inl (E.2 5, 9, .inr (.inr (.inr (.inr fun i => some (E.1 (B + (76 + i)))))))
  else if j = 5 then .inl (E.2 0, 30, .inl (ar t 11))
  else if j < 10 then .inr (4, oRk t (j - 6))
  else if j < 16 then .inr (0, oAc t (j - 10))
  else if j < 46 then .inr (2, oJb E B t (j - 16))
  else if j < 76 then .inl (E.2 0, 4, .inl (ar t (100 + (j - 46))))
  else .inr (1, oHd t (j - 76))
def zcel (E : Ew) (S : WW) (k : Nat) : va_E :=
  if k = 0 then .inr (5, [rf E (bs 0), rf E (bs 1)])
  else if k = 1 then .inr (6, oMd E (S 2))
  else if k < 33 then .inl (E.2 (mdt (k - 2)), mdl (k - 2), .inl (ar (S 2) (mdf (k - 2))))
  else if k < 118 then mcel E (bs 0) (S 0) (k - 33)
  else mcel E (bs 1) (S 1) (k - 118)
def wld (E : Ew) (S : WW) : va_W := (List.range 203).map (fun k => (E.1 k, zcel E S k))
def tys (E : Ew) : List (ClassId × FieldType) := [(E.2 0, .int), (E.2 1, .boolean), (E.2 2, .object "GreatMachine$Rack"), (E.2 3, .object "GreatMachine$Account"), (E.2 4, .object "GreatMachine$Job"), (E.2 5, .object "GreatMachine$Hold")]
def EOk (E : Ew) : Prop := ∀ i j, i < 203 → j < 203 → E.1 i = E.1 j → i = j
theorem wld_len (E : Ew) (S : WW) : (wld E S).length = 203 := by simp [wld]
theorem wld_at {E : Ew} {S : WW} {k : Nat} (h : k < 203) : (wld E S)[k]? = some (E.1 k, zcel E S k) := by
  simp [wld, List.getElem?_range h]
theorem wld_of {E : Ew} {S : WW} {k : Nat} {q : Nat × va_E} (h : (wld E S)[k]? = some q) : k < 203 ∧ q = (E.1 k, zcel E S k) := by
  have h1 : k < 203 := by have := (List.getElem?_eq_some_iff.mp h).1; rwa [wld_len] at this
  rw [wld_at h1] at h
  exact ⟨h1, (Option.some.inj h).symm⟩
theorem wld_set {E : Ew} {S S' : WW} {k : Nat} {e : va_E} (hk : k < 203) (h1 : zcel E S' k = e) (h2 : ∀ j, j < 203 → j ≠ k → zcel E S' j = zcel E S j) : (wld E S).set k (E.1 k, e) = wld E S' := by
  subst h1
  apply List.ext_getElem?
  intro j
  rw [List.getElem?_set]
  by_cases hj : j < 203
  · rw [wld_at hj, wld_len]
    by_cases hjk : k = j
    · subst hjk; simp [hj, wld_at hj]
    · rw [if_neg hjk, wld_at hj, h2 j hj (fun q => hjk q.symm)]
  · rw [List.getElem?_eq_none (by rw [wld_len]; omega)]
    rw [if_neg (by omega), List.getElem?_eq_none (by rw [wld_len]; omega)]
theorem wld_D {E : Ew} {S : WW} {A : Nat → Prop} (hE : EOk E) (hA : ∀ k, k < 203 → A (E.1 k)) : va_D A (wld E S) := by
  refine ⟨fun i j p q hp hq hpq => ?_, fun k q hq => ?_⟩
  · obtain ⟨h1, rfl⟩ := wld_of hp
    obtain ⟨h2, rfl⟩ := wld_of hq
    exact hE i j h1 h2 hpq
  · obtain ⟨h1, rfl⟩ := wld_of hq
    exact hA k h1
theorem zM {E : Ew} {S : WW} {m j : Nat} (hm : m < 2) (hj : j < 85) : zcel E S (bs m + j) = mcel E (bs m) (S m) j := by
  rcases (show m = 0 ∨ m = 1 by omega) with rfl | rfl
  · unfold zcel
    rw [if_neg (by unfold bs; omega), if_neg (by unfold bs; omega), if_neg (by unfold bs; omega), if_pos (by unfold bs; omega), show bs 0 + j - 33 = j by unfold bs; omega]
  · unfold zcel
    rw [if_neg (by unfold bs; omega), if_neg (by unfold bs; omega), if_neg (by unfold bs; omega), if_neg (by unfold bs; omega), show bs 1 + j - 118 = j by unfold bs; omega]
/-- one cell of machine m is changed -/
theorem zM_ne {E : Ew} {S : WW} {m j0 : Nat} {t t' : TT} (hm : m < 2) (h : ∀ j, j < 85 → j ≠ j0 → mcel E (bs m) t' j = mcel E (bs m) t j) : ∀ j, j < 203 → j ≠ bs m + j0 → zcel E (sm S m t') j = zcel E (sm S m t) j := by
  intro j hj hne
  unfold zcel
  by_cases h0 : j = 0
  · simp [h0]
  by_cases h1 : j = 1
  · rw [if_neg h0, if_neg h0, if_pos h1, if_pos h1, sm_ne (by omega), sm_ne (by omega)]
  by_cases h2 : j < 33
  · rw [if_neg h0, if_neg h0, if_neg h1, if_neg h1, if_pos h2, if_pos h2, sm_ne (by omega), sm_ne (by omega)]
  by_cases h3 : j < 118
  · rw [if_neg h0, if_neg h0, if_neg h1, if_neg h1, if_neg h2, if_neg h2, if_pos h3, if_pos h3]
    by_cases hm0 : m = 0
    · subst hm0; rw [sm_eq, sm_eq]; exact h _ (by omega) (by unfold bs at hne; omega)
    · rw [sm_ne (by omega), sm_ne (by omega)]
  · rw [if_neg h0, if_neg h0, if_neg h1, if_neg h1, if_neg h2, if_neg h2, if_neg h3, if_neg h3]
    by_cases hm0 : m = 1
    · subst hm0; rw [sm_eq, sm_eq]; exact h _ (by omega) (by unfold bs at hne; omega)
    · rw [sm_ne (by omega), sm_ne (by omega)]
theorem ar_ne {t : TT} {f i g : Nat} {x : Int} (h : g ≠ f) : ar (tu t f i x) g = ar t g := by
  funext a; simp only [ar, tu]; rw [if_neg (by omega)]
theorem ar_eq {t : TT} {f i : Nat} {x : Int} : ar (tu t f i x) f = upd (ar t f) i (Int32.ofInt x) := by
  funext a; simp only [ar, tu, upd]; by_cases h : a = i <;> simp [h]
theorem zMc {E : Ew} {S : WW} {m : Nat} (hm : m < 2) : zcel E S (kMc m) = .inr (3, oMc E (bs m) (S m)) := by rw [kMc, zM hm (by omega)]; rfl
theorem zRa {E : Ew} {S : WW} {m : Nat} (hm : m < 2) : zcel E S (kRa m) = .inl (E.2 2, 4, .inr (.inr (.inr (.inr fun i => some (E.1 (kRk m i)))))) := by rw [kRa, zM hm (by omega)]; rfl
theorem zAa {E : Ew} {S : WW} {m : Nat} (hm : m < 2) : zcel E S (kAa m) = .inl (E.2 3, 6, .inr (.inr (.inr (.inr fun i => some (E.1 (kAc m i)))))) := by rw [kAa, zM hm (by omega)]; rfl
theorem zJa {E : Ew} {S : WW} {m : Nat} (hm : m < 2) : zcel E S (kJa m) = .inl (E.2 4, 30, .inr (.inr (.inr (.inr fun i => some (E.1 (kJb m i)))))) := by rw [kJa, zM hm (by omega)]; rfl
theorem zHa {E : Ew} {S : WW} {m : Nat} (hm : m < 2) : zcel E S (kHa m) = .inl (E.2 5, 9, .inr (.inr (.inr (.inr fun i => some (E.1 (kHd m i)))))) := by rw [kHa, zM hm (by omega)]; rfl
theorem zQu {E : Ew} {S : WW} {m : Nat} (hm : m < 2) : zcel E S (kQu m) = .inl (E.2 0, 30, .inl (ar (S m) 11)) := by rw [kQu, zM hm (by omega)]; rfl
theorem zRk {E : Ew} {S : WW} {m i : Nat} (hm : m < 2) (hi : i < 4) : zcel E S (kRk m i) = .inr (4, oRk (S m) i) := by
  rw [kRk, zM hm (by omega)]; unfold mcel; simp (disch := omega) only [if_neg, if_pos]; rw [show 6 + i - 6 = i by omega]
theorem zAc {E : Ew} {S : WW} {m i : Nat} (hm : m < 2) (hi : i < 6) : zcel E S (kAc m i) = .inr (0, oAc (S m) i) := by
  rw [kAc, zM hm (by omega)]; unfold mcel; simp (disch := omega) only [if_neg, if_pos]; rw [show 10 + i - 10 = i by omega]
theorem zJb {E : Ew} {S : WW} {m i : Nat} (hm : m < 2) (hi : i < 30) : zcel E S (kJb m i) = .inr (2, oJb E (bs m) (S m) i) := by
  rw [kJb, zM hm (by omega)]; unfold mcel; simp (disch := omega) only [if_neg, if_pos]; rw [show 16 + i - 16 = i by omega]
theorem zOn {E : Ew} {S : WW} {m i : Nat} (hm : m < 2) (hi : i < 30) : zcel E S (kOn m i) = .inl (E.2 0, 4, .inl (ar (S m) (100 + i))) := by
  rw [kOn, zM hm (by omega)]; unfold mcel; simp (disch := omega) only [if_neg, if_pos]; rw [show 46 + i - 46 = i by omega]
theorem zHd {E : Ew} {S : WW} {m i : Nat} (hm : m < 2) (hi : i < 9) : zcel E S (kHd m i) = .inr (1, oHd (S m) i) := by
  rw [kHd, zM hm (by omega)]; unfold mcel; simp (disch := omega) only [if_neg]; rw [show 76 + i - 76 = i by omega]
theorem zMd {E : Ew} {S : WW} : zcel E S 1 = .inr (6, oMd E (S 2)) := rfl
theorem zGm {E : Ew} {S : WW} : zcel E S 0 = .inr (5, [rf E (bs 0), rf E (bs 1)]) := rfl
theorem zMa {E : Ew} {S : WW} {a : Nat} (ha : a < 31) : zcel E S (kMd a) = .inl (E.2 (mdt a), mdl a, .inl (ar (S 2) (mdf a))) := by
  unfold zcel kMd
  rw [if_neg (by omega), if_neg (by omega), if_pos (by omega), show 2 + a - 2 = a by omega]
theorem kMc_lt {m : Nat} (hm : m < 2) : kMc m < 203 := by unfold kMc bs; omega
theorem kRa_lt {m : Nat} (hm : m < 2) : kRa m < 203 := by unfold kRa bs; omega
theorem kAa_lt {m : Nat} (hm : m < 2) : kAa m < 203 := by unfold kAa bs; omega
theorem kJa_lt {m : Nat} (hm : m < 2) : kJa m < 203 := by unfold kJa bs; omega
theorem kHa_lt {m : Nat} (hm : m < 2) : kHa m < 203 := by unfold kHa bs; omega
theorem kQu_lt {m : Nat} (hm : m < 2) : kQu m < 203 := by unfold kQu bs; omega
theorem kRk_lt {m i : Nat} (hm : m < 2) (hi : i < 4) : kRk m i < 203 := by unfold kRk bs; omega
theorem kAc_lt {m i : Nat} (hm : m < 2) (hi : i < 6) : kAc m i < 203 := by unfold kAc bs; omega
theorem kJb_lt {m i : Nat} (hm : m < 2) (hi : i < 30) : kJb m i < 203 := by unfold kJb bs; omega
theorem kOn_lt {m i : Nat} (hm : m < 2) (hi : i < 30) : kOn m i < 203 := by unfold kOn bs; omega
theorem kHd_lt {m i : Nat} (hm : m < 2) (hi : i < 9) : kHd m i < 203 := by unfold kHd bs; omega
theorem kMd_lt {a : Nat} (ha : a < 31) : kMd a < 203 := by unfold kMd; omega

theorem mx_Mc {E : Ew} {B : Nat} {t : TT} {f i : Nat} {x : Int} (hf : f < 11) : ∀ j, j < 85 → j ≠ 0 → mcel E B (tu t f i x) j = mcel E B t j := by
  intro j hj hne
  have key : ∀ a b, ¬ (a = f ∧ b = i) → tu t f i x a b = t a b := fun a b h => tu_ne h
  unfold mcel
  by_cases h0 : j = 0
  · rw [if_pos h0, if_pos h0]; unfold oMc; simp (disch := omega) only [key]
  by_cases h1 : j = 1
  · rw [if_neg h0, if_neg h0, if_pos h1, if_pos h1]
  by_cases h2 : j = 2
  · rw [if_neg h0, if_neg h0, if_neg h1, if_neg h1, if_pos h2, if_pos h2]
  by_cases h3 : j = 3
  · rw [if_neg h0, if_neg h0, if_neg h1, if_neg h1, if_neg h2, if_neg h2, if_pos h3, if_pos h3]
  by_cases h4 : j = 4
  · rw [if_neg h0, if_neg h0, if_neg h1, if_neg h1, if_neg h2, if_neg h2, if_neg h3, if_neg h3, if_pos h4, if_pos h4]
  rw [if_neg h0, if_neg h0, if_neg h1, if_neg h1, if_neg h2, if_neg h2, if_neg h3, if_neg h3, if_neg h4, if_neg h4]
  by_cases h5 : j = 5
  · rw [if_pos h5, if_pos h5, ar_ne (by omega)]
  rw [if_neg h5, if_neg h5]
  by_cases h6 : j < 10
  · rw [if_pos h6, if_pos h6]; unfold oRk; simp (disch := omega) only [key]
  rw [if_neg h6, if_neg h6]
  by_cases h7 : j < 16
  · rw [if_pos h7, if_pos h7]; unfold oAc; simp (disch := omega) only [key]
  rw [if_neg h7, if_neg h7]
  by_cases h8 : j < 46
  · rw [if_pos h8, if_pos h8]; unfold oJb; simp (disch := omega) only [key]
  rw [if_neg h8, if_neg h8]
  by_cases h9 : j < 76
  · rw [if_pos h9, if_pos h9, ar_ne (by omega)]
  rw [if_neg h9, if_neg h9]; unfold oHd; simp (disch := omega) only [key]
theorem mx_Qu {E : Ew} {B : Nat} {t : TT} {f i : Nat} {x : Int} (hf : f = 11) : ∀ j, j < 85 → j ≠ 5 → mcel E B (tu t f i x) j = mcel E B t j := by
  intro j hj hne
  have key : ∀ a b, ¬ (a = f ∧ b = i) → tu t f i x a b = t a b := fun a b h => tu_ne h
  unfold mcel
  by_cases h0 : j = 0
  · rw [if_pos h0, if_pos h0]; unfold oMc; simp (disch := omega) only [key]
  by_cases h1 : j = 1
  · rw [if_neg h0, if_neg h0, if_pos h1, if_pos h1]
  by_cases h2 : j = 2
  · rw [if_neg h0, if_neg h0, if_neg h1, if_neg h1, if_pos h2, if_pos h2]
  by_cases h3 : j = 3
  · rw [if_neg h0, if_neg h0, if_neg h1, if_neg h1, if_neg h2, if_neg h2, if_pos h3, if_pos h3]
  by_cases h4 : j = 4
  · rw [if_neg h0, if_neg h0, if_neg h1, if_neg h1, if_neg h2, if_neg h2, if_neg h3, if_neg h3, if_pos h4, if_pos h4]
  rw [if_neg h0, if_neg h0, if_neg h1, if_neg h1, if_neg h2, if_neg h2, if_neg h3, if_neg h3, if_neg h4, if_neg h4]
  by_cases h5 : j = 5
  · rw [if_pos h5, if_pos h5, ar_ne (by omega)]
  rw [if_neg h5, if_neg h5]
  by_cases h6 : j < 10
  · rw [if_pos h6, if_pos h6]; unfold oRk; simp (disch := omega) only [key]
  rw [if_neg h6, if_neg h6]
  by_cases h7 : j < 16
  · rw [if_pos h7, if_pos h7]; unfold oAc; simp (disch := omega) only [key]
  rw [if_neg h7, if_neg h7]
  by_cases h8 : j < 46
  · rw [if_pos h8, if_pos h8]; unfold oJb; simp (disch := omega) only [key]
  rw [if_neg h8, if_neg h8]
  by_cases h9 : j < 76
  · rw [if_pos h9, if_pos h9, ar_ne (by omega)]
  rw [if_neg h9, if_neg h9]; unfold oHd; simp (disch := omega) only [key]
theorem mx_Rk {E : Ew} {B : Nat} {t : TT} {f i : Nat} {x : Int} (h1 : 12 ≤ f) (h2 : f ≤ 14) (hi : i < 4) : ∀ j, j < 85 → j ≠ 6 + i → mcel E B (tu t f i x) j = mcel E B t j := by
  intro j hj hne
  have key : ∀ a b, ¬ (a = f ∧ b = i) → tu t f i x a b = t a b := fun a b h => tu_ne h
  unfold mcel
  by_cases h0 : j = 0
  · rw [if_pos h0, if_pos h0]; unfold oMc; simp (disch := omega) only [key]
  by_cases h1 : j = 1
  · rw [if_neg h0, if_neg h0, if_pos h1, if_pos h1]
  by_cases h2 : j = 2
  · rw [if_neg h0, if_neg h0, if_neg h1, if_neg h1, if_pos h2, if_pos h2]
  by_cases h3 : j = 3
  · rw [if_neg h0, if_neg h0, if_neg h1, if_neg h1, if_neg h2, if_neg h2, if_pos h3, if_pos h3]
  by_cases h4 : j = 4
  · rw [if_neg h0, if_neg h0, if_neg h1, if_neg h1, if_neg h2, if_neg h2, if_neg h3, if_neg h3, if_pos h4, if_pos h4]
  rw [if_neg h0, if_neg h0, if_neg h1, if_neg h1, if_neg h2, if_neg h2, if_neg h3, if_neg h3, if_neg h4, if_neg h4]
  by_cases h5 : j = 5
  · rw [if_pos h5, if_pos h5, ar_ne (by omega)]
  rw [if_neg h5, if_neg h5]
  by_cases h6 : j < 10
  · rw [if_pos h6, if_pos h6]; unfold oRk; simp (disch := omega) only [key]
  rw [if_neg h6, if_neg h6]
  by_cases h7 : j < 16
  · rw [if_pos h7, if_pos h7]; unfold oAc; simp (disch := omega) only [key]
  rw [if_neg h7, if_neg h7]
  by_cases h8 : j < 46
  · rw [if_pos h8, if_pos h8]; unfold oJb; simp (disch := omega) only [key]
  rw [if_neg h8, if_neg h8]
  by_cases h9 : j < 76
  · rw [if_pos h9, if_pos h9, ar_ne (by omega)]
  rw [if_neg h9, if_neg h9]; unfold oHd; simp (disch := omega) only [key]
theorem mx_Ac {E : Ew} {B : Nat} {t : TT} {f i : Nat} {x : Int} (h1 : 15 ≤ f) (h2 : f ≤ 16) (hi : i < 6) : ∀ j, j < 85 → j ≠ 10 + i → mcel E B (tu t f i x) j = mcel E B t j := by
  intro j hj hne
  have key : ∀ a b, ¬ (a = f ∧ b = i) → tu t f i x a b = t a b := fun a b h => tu_ne h
  unfold mcel
  by_cases h0 : j = 0
  · rw [if_pos h0, if_pos h0]; unfold oMc; simp (disch := omega) only [key]
  by_cases h1 : j = 1
  · rw [if_neg h0, if_neg h0, if_pos h1, if_pos h1]
  by_cases h2 : j = 2
  · rw [if_neg h0, if_neg h0, if_neg h1, if_neg h1, if_pos h2, if_pos h2]
  by_cases h3 : j = 3
  · rw [if_neg h0, if_neg h0, if_neg h1, if_neg h1, if_neg h2, if_neg h2, if_pos h3, if_pos h3]
  by_cases h4 : j = 4
  · rw [if_neg h0, if_neg h0, if_neg h1, if_neg h1, if_neg h2, if_neg h2, if_neg h3, if_neg h3, if_pos h4, if_pos h4]
  rw [if_neg h0, if_neg h0, if_neg h1, if_neg h1, if_neg h2, if_neg h2, if_neg h3, if_neg h3, if_neg h4, if_neg h4]
  by_cases h5 : j = 5
  · rw [if_pos h5, if_pos h5, ar_ne (by omega)]
  rw [if_neg h5, if_neg h5]
  by_cases h6 : j < 10
  · rw [if_pos h6, if_pos h6]; unfold oRk; simp (disch := omega) only [key]
  rw [if_neg h6, if_neg h6]
  by_cases h7 : j < 16
  · rw [if_pos h7, if_pos h7]; unfold oAc; simp (disch := omega) only [key]
  rw [if_neg h7, if_neg h7]
  by_cases h8 : j < 46
  · rw [if_pos h8, if_pos h8]; unfold oJb; simp (disch := omega) only [key]
  rw [if_neg h8, if_neg h8]
  by_cases h9 : j < 76
  · rw [if_pos h9, if_pos h9, ar_ne (by omega)]
  rw [if_neg h9, if_neg h9]; unfold oHd; simp (disch := omega) only [key]
theorem mx_Jb {E : Ew} {B : Nat} {t : TT} {f i : Nat} {x : Int} (h1 : 17 ≤ f) (h2 : f ≤ 29) (hi : i < 30) : ∀ j, j < 85 → j ≠ 16 + i → mcel E B (tu t f i x) j = mcel E B t j := by
  intro j hj hne
  have key : ∀ a b, ¬ (a = f ∧ b = i) → tu t f i x a b = t a b := fun a b h => tu_ne h
  unfold mcel
  by_cases h0 : j = 0
  · rw [if_pos h0, if_pos h0]; unfold oMc; simp (disch := omega) only [key]
  by_cases h1 : j = 1
  · rw [if_neg h0, if_neg h0, if_pos h1, if_pos h1]
  by_cases h2 : j = 2
  · rw [if_neg h0, if_neg h0, if_neg h1, if_neg h1, if_pos h2, if_pos h2]
  by_cases h3 : j = 3
  · rw [if_neg h0, if_neg h0, if_neg h1, if_neg h1, if_neg h2, if_neg h2, if_pos h3, if_pos h3]
  by_cases h4 : j = 4
  · rw [if_neg h0, if_neg h0, if_neg h1, if_neg h1, if_neg h2, if_neg h2, if_neg h3, if_neg h3, if_pos h4, if_pos h4]
  rw [if_neg h0, if_neg h0, if_neg h1, if_neg h1, if_neg h2, if_neg h2, if_neg h3, if_neg h3, if_neg h4, if_neg h4]
  by_cases h5 : j = 5
  · rw [if_pos h5, if_pos h5, ar_ne (by omega)]
  rw [if_neg h5, if_neg h5]
  by_cases h6 : j < 10
  · rw [if_pos h6, if_pos h6]; unfold oRk; simp (disch := omega) only [key]
  rw [if_neg h6, if_neg h6]
  by_cases h7 : j < 16
  · rw [if_pos h7, if_pos h7]; unfold oAc; simp (disch := omega) only [key]
  rw [if_neg h7, if_neg h7]
  by_cases h8 : j < 46
  · rw [if_pos h8, if_pos h8]; unfold oJb; simp (disch := omega) only [key]
  rw [if_neg h8, if_neg h8]
  by_cases h9 : j < 76
  · rw [if_pos h9, if_pos h9, ar_ne (by omega)]
  rw [if_neg h9, if_neg h9]; unfold oHd; simp (disch := omega) only [key]
theorem mx_On {E : Ew} {B : Nat} {t : TT} {f i : Nat} {x : Int} {n : Nat} (hf : f = 100 + n) (hn : n < 30) : ∀ j, j < 85 → j ≠ 46 + n → mcel E B (tu t f i x) j = mcel E B t j := by
  intro j hj hne
  have key : ∀ a b, ¬ (a = f ∧ b = i) → tu t f i x a b = t a b := fun a b h => tu_ne h
  unfold mcel
  by_cases h0 : j = 0
  · rw [if_pos h0, if_pos h0]; unfold oMc; simp (disch := omega) only [key]
  by_cases h1 : j = 1
  · rw [if_neg h0, if_neg h0, if_pos h1, if_pos h1]
  by_cases h2 : j = 2
  · rw [if_neg h0, if_neg h0, if_neg h1, if_neg h1, if_pos h2, if_pos h2]
  by_cases h3 : j = 3
  · rw [if_neg h0, if_neg h0, if_neg h1, if_neg h1, if_neg h2, if_neg h2, if_pos h3, if_pos h3]
  by_cases h4 : j = 4
  · rw [if_neg h0, if_neg h0, if_neg h1, if_neg h1, if_neg h2, if_neg h2, if_neg h3, if_neg h3, if_pos h4, if_pos h4]
  rw [if_neg h0, if_neg h0, if_neg h1, if_neg h1, if_neg h2, if_neg h2, if_neg h3, if_neg h3, if_neg h4, if_neg h4]
  by_cases h5 : j = 5
  · rw [if_pos h5, if_pos h5, ar_ne (by omega)]
  rw [if_neg h5, if_neg h5]
  by_cases h6 : j < 10
  · rw [if_pos h6, if_pos h6]; unfold oRk; simp (disch := omega) only [key]
  rw [if_neg h6, if_neg h6]
  by_cases h7 : j < 16
  · rw [if_pos h7, if_pos h7]; unfold oAc; simp (disch := omega) only [key]
  rw [if_neg h7, if_neg h7]
  by_cases h8 : j < 46
  · rw [if_pos h8, if_pos h8]; unfold oJb; simp (disch := omega) only [key]
  rw [if_neg h8, if_neg h8]
  by_cases h9 : j < 76
  · rw [if_pos h9, if_pos h9, ar_ne (by omega)]
  rw [if_neg h9, if_neg h9]; unfold oHd; simp (disch := omega) only [key]
theorem mx_Hd {E : Ew} {B : Nat} {t : TT} {f i : Nat} {x : Int} (h1 : 31 ≤ f) (h2 : f ≤ 34) (hi : i < 9) : ∀ j, j < 85 → j ≠ 76 + i → mcel E B (tu t f i x) j = mcel E B t j := by
  intro j hj hne
  have key : ∀ a b, ¬ (a = f ∧ b = i) → tu t f i x a b = t a b := fun a b h => tu_ne h
  unfold mcel
  by_cases h0 : j = 0
  · rw [if_pos h0, if_pos h0]; unfold oMc; simp (disch := omega) only [key]
  by_cases h1 : j = 1
  · rw [if_neg h0, if_neg h0, if_pos h1, if_pos h1]
  by_cases h2 : j = 2
  · rw [if_neg h0, if_neg h0, if_neg h1, if_neg h1, if_pos h2, if_pos h2]
  by_cases h3 : j = 3
  · rw [if_neg h0, if_neg h0, if_neg h1, if_neg h1, if_neg h2, if_neg h2, if_pos h3, if_pos h3]
  by_cases h4 : j = 4
  · rw [if_neg h0, if_neg h0, if_neg h1, if_neg h1, if_neg h2, if_neg h2, if_neg h3, if_neg h3, if_pos h4, if_pos h4]
  rw [if_neg h0, if_neg h0, if_neg h1, if_neg h1, if_neg h2, if_neg h2, if_neg h3, if_neg h3, if_neg h4, if_neg h4]
  by_cases h5 : j = 5
  · rw [if_pos h5, if_pos h5, ar_ne (by omega)]
  rw [if_neg h5, if_neg h5]
  by_cases h6 : j < 10
  · rw [if_pos h6, if_pos h6]; unfold oRk; simp (disch := omega) only [key]
  rw [if_neg h6, if_neg h6]
  by_cases h7 : j < 16
  · rw [if_pos h7, if_pos h7]; unfold oAc; simp (disch := omega) only [key]
  rw [if_neg h7, if_neg h7]
  by_cases h8 : j < 46
  · rw [if_pos h8, if_pos h8]; unfold oJb; simp (disch := omega) only [key]
  rw [if_neg h8, if_neg h8]
  by_cases h9 : j < 76
  · rw [if_pos h9, if_pos h9, ar_ne (by omega)]
  rw [if_neg h9, if_neg h9]; unfold oHd; simp (disch := omega) only [key]
theorem zD_ne {E : Ew} {S : WW} {t t' : TT} {k : Nat} (h1 : k ≠ 1 → oMd E t' = oMd E t) (h2 : ∀ a, a < 31 → kMd a ≠ k → ar t' (mdf a) = ar t (mdf a)) : ∀ j, j < 203 → j ≠ k → zcel E (sm S 2 t') j = zcel E (sm S 2 t) j := by
  intro j hj hne
  unfold zcel
  by_cases h0 : j = 0
  · simp [h0]
  by_cases e1 : j = 1
  · rw [if_neg h0, if_neg h0, if_pos e1, if_pos e1, sm_eq, sm_eq, h1 (by omega)]
  by_cases e2 : j < 33
  · rw [if_neg h0, if_neg h0, if_neg e1, if_neg e1, if_pos e2, if_pos e2, sm_eq, sm_eq, h2 (j - 2) (by omega) (by unfold kMd; omega)]
  rw [if_neg h0, if_neg h0, if_neg e1, if_neg e1, if_neg e2, if_neg e2, sm_ne (by omega), sm_ne (by omega), sm_ne (by omega), sm_ne (by omega)]
theorem mdf_scal : ∀ a, a < 31 → ∀ f, f ∈ [0, 1, 2, 3, 4, 5, 6, 8, 9, 10, 37, 38, 48] → mdf a ≠ f := by decide +kernel
theorem oMd_ne {E : Ew} {t : TT} {a i : Nat} {x : Int} (ha : a < 31) : oMd E (tu t (mdf a) i x) = oMd E t := by
  have key : ∀ f, f ∈ [0, 1, 2, 3, 4, 5, 6, 8, 9, 10, 37, 38, 48] → tu t (mdf a) i x f 0 = t f 0 := fun f hf => tu_ne (fun h => mdf_scal a ha f hf h.1.symm)
  unfold oMd
  rw [key 0 (by decide), key 1 (by decide), key 2 (by decide), key 3 (by decide), key 4 (by decide), key 5 (by decide), key 6 (by decide), key 8 (by decide), key 9 (by decide), key 10 (by decide), key 37 (by decide), key 38 (by decide), key 48 (by decide)]
end
section
/-! THE ROWS: 'g S pc L st': the machine at this world, place, locals and stack comes to its end as the contract has it -/
def al (L : LL) : List (Nat × Value) := (List.range L.length).filterMap (fun i => (L[i]?.join).map (fun v => (i, v)))
theorem al_mem {L : LL} {i : Nat} {v : Value} : (i, v) ∈ al L ↔ L[i]? = some (some v) := by
  unfold al
  rw [List.mem_filterMap]
  constructor
  · rintro ⟨j, hj, h⟩
    cases hL : L[j]? with
    | none => rw [hL] at h; simp at h
    | some o =>
      cases o with
      | none => rw [hL] at h; simp at h
      | some w => rw [hL] at h; simp at h; rw [← h.1, ← h.2, hL]
  · intro h
    refine ⟨i, List.mem_range.mpr ?_, by rw [h]; rfl⟩
    exact (List.getElem?_eq_some_iff.mp h).1
def LH (ls : Array Slot) (nL : Nat) (L : LL) : Prop := L.length = nL ∧ lv_has ls nL (al L) ∧ ∀ (i : Nat) (v : Value), L[i]? = some (some v) → v.category = 1
theorem LH.at {ls : Array Slot} {nL : Nat} {L : LL} (h : LH ls nL L) {i : Nat} {v : Value} (hi : L[i]? = some (some v)) : ls[i]? = some (.val v) := h.2.1.2.2 (i, v) (al_mem.mpr hi)
theorem LH.st {ls ls' : Array Slot} {nL : Nat} {L : LL} (h : LH ls nL L) {i : Nat} {v : Value} (hv : v.category = 1) (hi : i < nL) (hl : lv_has ls' nL ((i, v) :: (al L).filter (fun q => !(q.1 == i) && !(q.1 + 1 == i && q.2.category == 2)))) : LH ls' nL (L.set i (some v)) := by
  refine ⟨by rw [List.length_set]; exact h.1, ⟨hl.1, hl.2.1, fun q hq => ?_⟩, fun j w hj => ?_⟩
  · obtain ⟨j, w⟩ := q
    have hj := al_mem.mp hq
    rw [List.getElem?_set] at hj
    by_cases hji : i = j
    · subst hji
      rw [if_pos rfl, if_pos (by rw [h.1]; exact hi)] at hj
      obtain rfl : v = w := by simpa using hj
      exact hl.2.2 (i, v) List.mem_cons_self
    · rw [if_neg hji] at hj
      refine hl.2.2 (j, w) (List.mem_cons_of_mem _ (List.mem_filter.mpr ⟨al_mem.mpr hj, ?_⟩))
      have hc := h.2.2 j w hj
      simp only [hc]
      have : (j == i) = false := by simp; omega
      simp [this]
  · rw [List.getElem?_set] at hj
    by_cases hji : i = j
    · subst hji
      rw [if_pos rfl, if_pos (by rw [h.1]; exact hi)] at hj
      obtain rfl : v = w := by simpa using hj
      exact hv
    · rw [if_neg hji] at hj
      exact h.2.2 j w hj
theorem LH.sub {ls : Array Slot} {nL : Nat} {L L' : LL} (h : LH ls nL L) (hl : L'.length = nL) (hs : ∀ (i : Nat) (v : Value), L'[i]? = some (some v) → L[i]? = some (some v)) : LH ls nL L' :=
  ⟨hl, ⟨h.2.1.1, h.2.1.2.1, fun q hq => h.2.1.2.2 q (al_mem.mpr (hs q.1 q.2 (al_mem.mp hq)))⟩, fun i v hv => h.2.2 i v (hs i v hv)⟩
def Cw (g : WW → Nat → LL → List Value → Prop) (own : String) (cc : ByteArray) (nL h : Nat) (l : Launch) (E : Ew) : Prop :=
  ∃ (p : Program) (e : Env) (R : Room) (s : State) (mi : MethodId) (args : Array Value) (below : List Frame) (meth : Method) (c : Code) (cells slots : Nat) (Q : State → Prop) (A : Nat → Prop) (H0 : Heap) (D : va_G),
    CallFix p mi c cc nL s args lw_w own ∧ EOk E ∧ (∀ k, k < 203 → A (E.1 k)) ∧ va_K D classes (tys E) s ∧ (h ≤ R.frames ∧ 40 * h ≤ R.locals ∧ cells ≤ R.cells ∧ slots ≤ R.slots) ∧
    ∀ (S : WW) (pc : Nat) (L : LL) (st : List Value), g S pc L st ↔ ∀ (H : Heap) (locs : List Loc) (ls : Array Slot), va_P D classes (wld E S) H → va_S A H0 H locs → LH ls nL L → W p l e R s mi args below meth c H locs cells slots Q (F0 mi pc ls st)
def Rm (h : Nat) : Room := { frames := h, cells := 0, slots := 0, locals := 40 * h }
def Ax (E : Ew) : Nat → Prop := fun q => ∃ k, k < 203 ∧ q = E.1 k
def Wat (E : Ew) (D : va_G) (S : WW) (U : State) : Prop := EOk E ∧ va_P D classes (wld E S) U.heap ∧ va_K D classes (tys E) U
def Qx (E : Ew) (D : va_G) (v : Option Value) (S' : WW) : Array Value → State → Outcome → State → Prop := fun _ st oc t => (oc = .returned v ∧ va_P D classes (wld E S') t.heap) ∧ va_F (Ax E) st t
/-- a method's contract: at world S and these arguments it answers v and leaves world S' -/
def Kf (l : Launch) (y : MethodName) (cc : ByteArray) (nL : Nat) (ret : Option FieldType) (h : Nat) (E : Ew) (S : WW) (as : List Value) (v : Option Value) (S' : WW) : Prop :=
  ∀ D : va_G, Met l y (Cond.code y cc nL ret :: lw_w) (Rm h) (va_Pc as (Wat E D S)) (Qx E D v S') 0 0 (Ax E)
theorem lw_wgood : GoodIn lw_w lw_w := fun w hw => ⟨hw, good_of_word (List.mem_filter.mp hw).2⟩
theorem good_c {y : MethodName} {cc : ByteArray} {nL : Nat} {ret : Option FieldType} (h : Cond.code y cc nL ret ∈ lw_w) : GoodIn lw_w (Cond.code y cc nL ret :: lw_w) := fun w hw => by
  rcases List.mem_cons.mp hw with rfl | hw
  · exact lw_wgood _ h
  · exact lw_wgood _ hw
theorem good_V {own C : String} {idx : Nat} {y : MethodName} {cc : ByteArray} {nL : Nat} {ret : Option FieldType} (hl : Cond.methodLink own idx y ∈ lw_w) (hi : Cond.instanceMethod y ∈ lw_w) (hs : Cond.selects C y y ∈ lw_w) (hn : Cond.initialized C ∈ lw_w) (h : Cond.code y cc nL ret ∈ lw_w) : GoodIn lw_w (wsV own idx C y (Cond.code y cc nL ret :: lw_w)) := fun w hw => by
  rcases List.mem_append.mp hw with hw | hw
  · rcases List.mem_cons.mp hw with rfl | hw
    · exact lw_wgood _ hl
    rcases List.mem_cons.mp hw with rfl | hw
    · exact lw_wgood _ hi
    rcases List.mem_cons.mp hw with rfl | hw
    · exact lw_wgood _ hs
    rcases List.mem_cons.mp hw with rfl | hw
    · exact lw_wgood _ hn
    cases hw
  · exact good_c h w hw
theorem good_S {own : String} {idx : Nat} {y : MethodName} {cc : ByteArray} {nL : Nat} {ret : Option FieldType} (hl : Cond.methodLink own idx y ∈ lw_w) (hi : Cond.static y ∈ lw_w) (hn : Cond.initialized y.cls ∈ lw_w) (h : Cond.code y cc nL ret ∈ lw_w) : GoodIn lw_w (va_wsS own idx y (Cond.code y cc nL ret :: lw_w)) := fun w hw => by
  rcases List.mem_append.mp hw with hw | hw
  · rcases List.mem_cons.mp hw with rfl | hw
    · exact lw_wgood _ hl
    rcases List.mem_cons.mp hw with rfl | hw
    · exact lw_wgood _ hi
    rcases List.mem_cons.mp hw with rfl | hw
    · exact lw_wgood _ hn
    cases hw
  · exact good_c h w hw
theorem Wat_blind {E : Ew} {D : va_G} {S : WW} {as : List Value} : FrameBlind (va_Pc as (Wat E D S)) := fun a U f mk h => by
  obtain ⟨h1, h2, h3, h4⟩ := h
  exact ⟨h1, h2, h3, va_K.moved (u := U) (U := U.calling f mk a) (Vm.Alike.refl U.vm) h4⟩
theorem Ax_A {E : Ew} {A : Nat → Prop} (hA : ∀ k, k < 203 → A (E.1 k)) : ∀ q, Ax E q → A q := fun q hq => by
  obtain ⟨k, hk, rfl⟩ := hq; exact hA k hk
section CALL
variable {p : Program} {l : Launch} {e : Env} {R : Room} {s : State} {mi : MethodId} {args : Array Value} {below : List Frame} {meth : Method} {c : Code} {H : Heap} {locs : List Loc} {cells slots : Nat} {Q : State → Prop} {pc : Nat} {ls : Array Slot} {rest st0 : List Value} {a : Array Value} {A0 : Nat → Prop} {H0 : Heap} {E : Ew} {D : va_G} {v : Option Value} {S' : WW}
theorem cq_call (hr : va_Run p l e R s mi args below meth c H locs cells slots 0 0 (F0 mi pc ls st0) rest (Qx E D v S' a) (Ax E)) (hS : va_S A0 H0 H locs) (hA : ∀ q, Ax E q → A0 q)
    (kk : ∀ (H1 : Heap) (locs1 : List Loc), va_P D classes (wld E S') H1 → va_S A0 H0 H1 locs1 → W p l e R s mi args below meth c H1 locs1 cells slots Q (F0 mi (pc + 3) ls (v.toList ++ rest))) : W p l e R s mi args below meth c H locs cells slots Q (F0 mi pc ls st0) := by
  intro T hT X
  obtain ⟨v2, st₀, t, T', L, h0, X', hL, e1, e2, ⟨⟨hv, hp⟩, hz, hk⟩, st⟩ := hr T hT X
  cases hv
  rw [h0] at hz hk
  obtain ⟨t2, a1, b1⟩ := kk T'.heap (locs ++ L) (by rw [e1]; exact hp)
    ⟨Nat.le_trans hS.1 (by rw [e1]; exact hz), fun q h1 h2 => by rw [e1, hk q (Nat.lt_of_lt_of_le h1 hS.1) (fun z => h2 (hA q z))]; exact hS.2.1 q h1 h2, fun q hq => by
      rcases List.mem_append.mp hq with h | h
      · exact hS.2.2 q h
      · exact hA _ (hL q h)⟩ T' rfl X'
  exact ⟨t2, st t2 a1, b1⟩
end CALL
section ROWS
variable {g : WW → Nat → LL → List Value → Prop} {own : String} {cc : ByteArray} {nL h : Nat} {l : Launch} {E : Ew} {S S' S0 : WW} {pc : Nat} {L : LL} {st : List Value} {m : Nat} {t : TT}
/-- an instance method is called -/
theorem r_callV (C : Cw g own cc nL h l E) {y : MethodName} {cb : ByteArray} {nB hB idx : Nat} {ret : Option FieldType} {as : List Value} {k : Nat} {v : Option Value} (K : Kf l y cb nB ret hB E S (rf E k :: as) v S') (hh : hB < h) (hn : nB ≤ 21) (hl : Cond.methodLink own idx y ∈ lw_w) (hi : Cond.instanceMethod y ∈ lw_w) (hs : Cond.selects y.cls y y ∈ lw_w) (hc : Cond.code y cb nB ret ∈ lw_w) (hin : Cond.initialized y.cls ∈ lw_w)
    (hd : y.cls ≠ "java/lang/invoke/MethodHandle" ∧ y.cls ≠ "java/lang/invoke/VarHandle" ∧ (parseMethodDescriptor y.desc).map (fun d => d.parameters.length) = some as.length) {ci : Nat} {fs : List Value} {q : vw_C} (hk : k < 203) (hz : zcel E S k = .inr (ci, fs)) (hq : classes[ci]? = some q) (hqc : q.1 = y.cls) (hW : (st.map fun v => v.category).sum ≤ 8)
    (d : decode cc pc = .ok (.invokevirtual idx, 3)) (kk : g S' (pc + 3) L (v.toList ++ st)) : g S pc L (as.reverse ++ rf E k :: st) := by
  obtain ⟨p, e, R, s, mi, args, below, meth, c, cells, slots, Q, A, H0, D, ⟨hx, hb, hml, hown, hts⟩, hE, hA, hK, hR, hg⟩ := C
  refine (hg _ _ _ _).mpr fun H locs ls hP hS hL => ?_
  have hwk := wld_at (E := E) (S := S) hk
  rw [hz] at hwk
  refine cq_call (va_runV (Ts := lw_w) (own := own) (C := y.cls) (As := as) (rest := st) (b := E.1 k) (n := as.length) (bytes := cb) (maxL := nB) (ret := ret) ⟨hx, hb, hml, hown, hts⟩ (K D) (cwV as.length hts (good_V hl hi hs hin hc) rfl rfl rfl ⟨rfl, hd⟩ ⟨by show hB + 1 ≤ _; omega, by show 8 + (nB + 11) + 40 * hB ≤ _; omega⟩) ⟨Wat_blind, by rw [← hqc]; exact va_recv hK hP hq hwk, fun U hU hW => ⟨rfl, hE, by rw [hU]; exact hP, va_K.moved hW.alike hK⟩⟩ rfl rfl hL.2.1.1 rfl (lv_room hW) d ⟨by omega, by omega⟩) hS (Ax_A hA) fun H1 locs1 hP1 hS1 => (hg _ _ _ _).mp kk H1 locs1 ls hP1 hS1 hL
/-- a static method is called -/
theorem r_callS (C : Cw g own cc nL h l E) {y : MethodName} {cb : ByteArray} {nB hB idx : Nat} {ret : Option FieldType} {as : List Value} {v : Option Value} (K : Kf l y cb nB ret hB E S as v S') (hh : hB < h) (hn : nB ≤ 21) (hl : Cond.methodLink own idx y ∈ lw_w) (hi : Cond.static y ∈ lw_w) (hc : Cond.code y cb nB ret ∈ lw_w) (hin : Cond.initialized y.cls ∈ lw_w)
    (hd : y.cls ≠ "java/lang/invoke/MethodHandle" ∧ y.cls ≠ "java/lang/invoke/VarHandle" ∧ (parseMethodDescriptor y.desc).map (fun d => d.parameters.length) = some as.length) (hW : (st.map fun v => v.category).sum ≤ 8)
    (d : decode cc pc = .ok (.invokestatic idx, 3)) (kk : g S' (pc + 3) L (v.toList ++ st)) : g S pc L (as.reverse ++ st) := by
  obtain ⟨p, e, R, s, mi, args, below, meth, c, cells, slots, Q, A, H0, D, ⟨hx, hb, hml, hown, hts⟩, hE, hA, hK, hR, hg⟩ := C
  refine (hg _ _ _ _).mpr fun H locs ls hP hS hL => ?_
  refine cq_call (va_runS (Ts := lw_w) (own := own) (As := as) (rest := st) (n := as.length) (bytes := cb) (maxL := nB) (ret := ret) ⟨hx, hb, hml, hown, hts⟩ (K D) (va_cwS as.length hts (good_S hl hi hin hc) rfl rfl rfl hd ⟨by show hB + 1 ≤ _; omega, by show 8 + (nB + 11) + 40 * hB ≤ _; omega⟩) ⟨Wat_blind, fun U hU hW => ⟨rfl, hE, by rw [hU]; exact hP, va_K.moved hW.alike hK⟩⟩ rfl rfl hL.2.1.1 rfl (lv_room hW) d ⟨by omega, by omega⟩) hS (Ax_A hA) fun H1 locs1 hP1 hS1 => (hg _ _ _ _).mp kk H1 locs1 ls hP1 hS1 hL
/-- a static call of a static own method (class = own) is the same row; Math.min apart -/
theorem r_min (C : Cw g own cc nL h l E) {idx : Nat} {a b : Int} (ha : ir a) (hb' : ir b) (hh : 0 < h) (hl : Cond.methodLink own idx Lib.Math.min.name ∈ lw_w) (hi : Cond.static Lib.Math.min.name ∈ lw_w) (hn : Cond.initialized "java/lang/Math" ∈ lw_w) (hc : Cond.code Lib.Math.min.name Lib.Math.min.code 2 (some .int) ∈ lw_w) (hW : (st.map fun v => v.category).sum ≤ 8)
    (d : decode cc pc = .ok (.invokestatic idx, 3)) (kk : g S (pc + 3) L (iv (min a b) :: st)) : g S pc L (iv b :: iv a :: st) := by
  obtain ⟨p, e, R, s, mi, args, below, meth, c, cells, slots, Q, A, H0, D, ⟨hx, hb, hml, hown, hts⟩, hE, hA, hK, hR, hg⟩ := C
  refine (hg _ _ _ _).mpr fun H locs ls hP hS hL => ?_
  refine va_mmin hx hb (by rw [hml]; exact hL.2.1.1.symm) hown (hts _ hl) (hts _ hi) (hts _ hn) (hts _ hc) (by omega) (by omega) hR.2.2.1 hR.2.2.2 d ?_
  have e1 : (if Int32.ofInt b < Int32.ofInt a then Int32.ofInt b else Int32.ofInt a) = Int32.ofInt (min a b) := by
    by_cases q : b < a
    · rw [if_pos ((ir_lt hb' ha).mpr q), Int.min_eq_right (by omega)]
    · rw [if_neg (fun z => q ((ir_lt hb' ha).mp z)), Int.min_eq_left (by omega)]
  rw [e1]
  exact (hg _ _ _ _).mp kk H locs ls hP hS hL
/-- fewer locals known -/
theorem r_sub (C : Cw g own cc nL h l E) {L' : LL} (hl : L'.length = nL) (hs : ∀ (i : Nat) (v : Value), L'[i]? = some (some v) → L[i]? = some (some v)) (kk : g S pc L' st) : g S pc L st := by
  obtain ⟨p, e, R, s, mi, args, below, meth, c, cells, slots, Q, A, H0, D, hf, hE, hA, hK, hR, hg⟩ := C
  exact (hg _ _ _ _).mpr fun H locs ls hP hS hL => (hg _ _ _ _).mp kk H locs ls hP hS (hL.sub hl hs)

theorem r_iconst (C : Cw g own cc nL h l E) {n : Int} (d : decode cc pc = .ok (.iconst n, 1)) (kk : g S (pc + 1) L (iv n :: st)) : g S pc L st := by
  obtain ⟨p, e0, R, s, mi, args, below, meth, c, cells, slots, Q, A, H0, D, ⟨hx, hb, hml, hown, hts⟩, hE, hA, hK, hR, hg⟩ := C
  refine (hg _ _ _ _).mpr fun H locs ls hP hS hL => ?_
  exact lv_iconst hx hb d rfl ((hg _ _ _ _).mp kk H locs ls hP hS hL)
theorem r_bipush (C : Cw g own cc nL h l E) {n : Int} (d : decode cc pc = .ok (.bipush n, 2)) (hn : (Int8.ofInt n).toInt32 = Int32.ofInt n) (kk : g S (pc + 2) L (iv n :: st)) : g S pc L st := by
  obtain ⟨p, e0, R, s, mi, args, below, meth, c, cells, slots, Q, A, H0, D, ⟨hx, hb, hml, hown, hts⟩, hE, hA, hK, hR, hg⟩ := C
  refine (hg _ _ _ _).mpr fun H locs ls hP hS hL => ?_
  exact lv_bipush hx hb d hn ((hg _ _ _ _).mp kk H locs ls hP hS hL)
theorem r_sipush (C : Cw g own cc nL h l E) {n : Int} (d : decode cc pc = .ok (.sipush n, 3)) (hn : (Int16.ofInt n).toInt32 = Int32.ofInt n) (kk : g S (pc + 3) L (iv n :: st)) : g S pc L st := by
  obtain ⟨p, e0, R, s, mi, args, below, meth, c, cells, slots, Q, A, H0, D, ⟨hx, hb, hml, hown, hts⟩, hE, hA, hK, hR, hg⟩ := C
  refine (hg _ _ _ _).mpr fun H locs ls hP hS hL => ?_
  exact lv_sipush hx hb d hn ((hg _ _ _ _).mp kk H locs ls hP hS hL)
theorem r_iload_n (C : Cw g own cc nL h l E) {k : Fin 4} {v : Int} (d : decode cc pc = .ok (.iload_n k, 1)) (hl : L[(k : Nat)]? = some (some (iv v))) (kk : g S (pc + 1) L (iv v :: st)) : g S pc L st := by
  obtain ⟨p, e0, R, s, mi, args, below, meth, c, cells, slots, Q, A, H0, D, ⟨hx, hb, hml, hown, hts⟩, hE, hA, hK, hR, hg⟩ := C
  refine (hg _ _ _ _).mpr fun H locs ls hP hS hL => ?_
  exact lv_iload_n hx hb d rfl (hL.at hl) ((hg _ _ _ _).mp kk H locs ls hP hS hL)
theorem r_iload (C : Cw g own cc nL h l E) {k : Nat} {v : Int} (d : decode cc pc = .ok (.iload k, 2)) (hl : L[k]? = some (some (iv v))) (kk : g S (pc + 2) L (iv v :: st)) : g S pc L st := by
  obtain ⟨p, e0, R, s, mi, args, below, meth, c, cells, slots, Q, A, H0, D, ⟨hx, hb, hml, hown, hts⟩, hE, hA, hK, hR, hg⟩ := C
  refine (hg _ _ _ _).mpr fun H locs ls hP hS hL => ?_
  exact lv_iload hx hb d (hL.at hl) ((hg _ _ _ _).mp kk H locs ls hP hS hL)
theorem r_aload_n (C : Cw g own cc nL h l E) {k : Fin 4} {v : Nat} (d : decode cc pc = .ok (.aload_n k, 1)) (hl : L[(k : Nat)]? = some (some (rf E v))) (kk : g S (pc + 1) L (rf E v :: st)) : g S pc L st := by
  obtain ⟨p, e0, R, s, mi, args, below, meth, c, cells, slots, Q, A, H0, D, ⟨hx, hb, hml, hown, hts⟩, hE, hA, hK, hR, hg⟩ := C
  refine (hg _ _ _ _).mpr fun H locs ls hP hS hL => ?_
  exact lv_aload_n hx hb d rfl (hL.at hl) ((hg _ _ _ _).mp kk H locs ls hP hS hL)
theorem r_aload (C : Cw g own cc nL h l E) {k : Nat} {v : Nat} (d : decode cc pc = .ok (.aload k, 2)) (hl : L[k]? = some (some (rf E v))) (kk : g S (pc + 2) L (rf E v :: st)) : g S pc L st := by
  obtain ⟨p, e0, R, s, mi, args, below, meth, c, cells, slots, Q, A, H0, D, ⟨hx, hb, hml, hown, hts⟩, hE, hA, hK, hR, hg⟩ := C
  refine (hg _ _ _ _).mpr fun H locs ls hP hS hL => ?_
  exact lv_aload hx hb d (hL.at hl) ((hg _ _ _ _).mp kk H locs ls hP hS hL)
theorem r_istore_0 (C : Cw g own cc nL h l E) {a0 : Option Value} {v : Int} (d : decode cc pc = .ok (.istore_n 0, 1)) (kk : g S (pc + 1) (some (iv v) :: L) st) : g S pc (a0 :: L) (iv v :: st) := by
  obtain ⟨p, e0, R, s, mi, args, below, meth, c, cells, slots, Q, A, H0, D, ⟨hx, hb, hml, hown, hts⟩, hE, hA, hK, hR, hg⟩ := C
  refine (hg _ _ _ _).mpr fun H locs ls hP hS hL => ?_
  exact lv_istore_n hx hb d rfl hL.2.1 (by have := hL.1; simp at this; omega) rfl (fun ls2 h2 => (hg _ _ _ _).mp kk H locs ls2 hP hS (hL.st (i := 0) (v := iv v) rfl (by have := hL.1; simp at this; omega) h2))
theorem r_astore_0 (C : Cw g own cc nL h l E) {a0 : Option Value} {v : Nat} (d : decode cc pc = .ok (.astore_n 0, 1)) (kk : g S (pc + 1) (some (rf E v) :: L) st) : g S pc (a0 :: L) (rf E v :: st) := by
  obtain ⟨p, e0, R, s, mi, args, below, meth, c, cells, slots, Q, A, H0, D, ⟨hx, hb, hml, hown, hts⟩, hE, hA, hK, hR, hg⟩ := C
  refine (hg _ _ _ _).mpr fun H locs ls hP hS hL => ?_
  exact lv_astore_n hx hb d rfl hL.2.1 (by have := hL.1; simp at this; omega) rfl (fun ls2 h2 => (hg _ _ _ _).mp kk H locs ls2 hP hS (hL.st (i := 0) (v := rf E v) rfl (by have := hL.1; simp at this; omega) h2))
theorem r_iinc_0 (C : Cw g own cc nL h l E) {a0 : Option Value} {v n : Int} (d : decode cc pc = .ok (.iinc 0 n, 3)) (kk : g S (pc + 3) (some (iv (v + n)) :: L) st) : g S pc (some (iv v) :: L) st := by
  obtain ⟨p, e0, R, s, mi, args, below, meth, c, cells, slots, Q, A, H0, D, ⟨hx, hb, hml, hown, hts⟩, hE, hA, hK, hR, hg⟩ := C
  refine (hg _ _ _ _).mpr fun H locs ls hP hS hL => ?_
  obtain ⟨kz, hkz⟩ := List.getElem?_of_mem (al_mem.mpr (show (some (iv v) :: L)[0]? = some (some (iv v)) from rfl))
  refine lv_iinc hx hb d hL.2.1 hkz rfl (by have := hL.1; simp at this; omega) rfl (fun ls2 h2 => ?_)
  rw [← Int32.ofInt_add] at h2
  exact (hg _ _ _ _).mp kk H locs ls2 hP hS (hL.st (i := 0) (v := iv (v + n)) rfl (by have := hL.1; simp at this; omega) h2)
theorem r_istore_1 (C : Cw g own cc nL h l E) {a0 a1 : Option Value} {v : Int} (d : decode cc pc = .ok (.istore_n 1, 1)) (kk : g S (pc + 1) (a0 :: some (iv v) :: L) st) : g S pc (a0 :: a1 :: L) (iv v :: st) := by
  obtain ⟨p, e0, R, s, mi, args, below, meth, c, cells, slots, Q, A, H0, D, ⟨hx, hb, hml, hown, hts⟩, hE, hA, hK, hR, hg⟩ := C
  refine (hg _ _ _ _).mpr fun H locs ls hP hS hL => ?_
  exact lv_istore_n hx hb d rfl hL.2.1 (by have := hL.1; simp at this; omega) rfl (fun ls2 h2 => (hg _ _ _ _).mp kk H locs ls2 hP hS (hL.st (i := 1) (v := iv v) rfl (by have := hL.1; simp at this; omega) h2))
theorem r_astore_1 (C : Cw g own cc nL h l E) {a0 a1 : Option Value} {v : Nat} (d : decode cc pc = .ok (.astore_n 1, 1)) (kk : g S (pc + 1) (a0 :: some (rf E v) :: L) st) : g S pc (a0 :: a1 :: L) (rf E v :: st) := by
  obtain ⟨p, e0, R, s, mi, args, below, meth, c, cells, slots, Q, A, H0, D, ⟨hx, hb, hml, hown, hts⟩, hE, hA, hK, hR, hg⟩ := C
  refine (hg _ _ _ _).mpr fun H locs ls hP hS hL => ?_
  exact lv_astore_n hx hb d rfl hL.2.1 (by have := hL.1; simp at this; omega) rfl (fun ls2 h2 => (hg _ _ _ _).mp kk H locs ls2 hP hS (hL.st (i := 1) (v := rf E v) rfl (by have := hL.1; simp at this; omega) h2))
theorem r_iinc_1 (C : Cw g own cc nL h l E) {a0 : Option Value} {v n : Int} (d : decode cc pc = .ok (.iinc 1 n, 3)) (kk : g S (pc + 3) (a0 :: some (iv (v + n)) :: L) st) : g S pc (a0 :: some (iv v) :: L) st := by
  obtain ⟨p, e0, R, s, mi, args, below, meth, c, cells, slots, Q, A, H0, D, ⟨hx, hb, hml, hown, hts⟩, hE, hA, hK, hR, hg⟩ := C
  refine (hg _ _ _ _).mpr fun H locs ls hP hS hL => ?_
  obtain ⟨kz, hkz⟩ := List.getElem?_of_mem (al_mem.mpr (show (a0 :: some (iv v) :: L)[1]? = some (some (iv v)) from rfl))
  refine lv_iinc hx hb d hL.2.1 hkz rfl (by have := hL.1; simp at this; omega) rfl (fun ls2 h2 => ?_)
  rw [← Int32.ofInt_add] at h2
  exact (hg _ _ _ _).mp kk H locs ls2 hP hS (hL.st (i := 1) (v := iv (v + n)) rfl (by have := hL.1; simp at this; omega) h2)
theorem r_istore_2 (C : Cw g own cc nL h l E) {a0 a1 a2 : Option Value} {v : Int} (d : decode cc pc = .ok (.istore_n 2, 1)) (kk : g S (pc + 1) (a0 :: a1 :: some (iv v) :: L) st) : g S pc (a0 :: a1 :: a2 :: L) (iv v :: st) := by
  obtain ⟨p, e0, R, s, mi, args, below, meth, c, cells, slots, Q, A, H0, D, ⟨hx, hb, hml, hown, hts⟩, hE, hA, hK, hR, hg⟩ := C
  refine (hg _ _ _ _).mpr fun H locs ls hP hS hL => ?_
  exact lv_istore_n hx hb d rfl hL.2.1 (by have := hL.1; simp at this; omega) rfl (fun ls2 h2 => (hg _ _ _ _).mp kk H locs ls2 hP hS (hL.st (i := 2) (v := iv v) rfl (by have := hL.1; simp at this; omega) h2))
theorem r_astore_2 (C : Cw g own cc nL h l E) {a0 a1 a2 : Option Value} {v : Nat} (d : decode cc pc = .ok (.astore_n 2, 1)) (kk : g S (pc + 1) (a0 :: a1 :: some (rf E v) :: L) st) : g S pc (a0 :: a1 :: a2 :: L) (rf E v :: st) := by
  obtain ⟨p, e0, R, s, mi, args, below, meth, c, cells, slots, Q, A, H0, D, ⟨hx, hb, hml, hown, hts⟩, hE, hA, hK, hR, hg⟩ := C
  refine (hg _ _ _ _).mpr fun H locs ls hP hS hL => ?_
  exact lv_astore_n hx hb d rfl hL.2.1 (by have := hL.1; simp at this; omega) rfl (fun ls2 h2 => (hg _ _ _ _).mp kk H locs ls2 hP hS (hL.st (i := 2) (v := rf E v) rfl (by have := hL.1; simp at this; omega) h2))
theorem r_iinc_2 (C : Cw g own cc nL h l E) {a0 a1 : Option Value} {v n : Int} (d : decode cc pc = .ok (.iinc 2 n, 3)) (kk : g S (pc + 3) (a0 :: a1 :: some (iv (v + n)) :: L) st) : g S pc (a0 :: a1 :: some (iv v) :: L) st := by
  obtain ⟨p, e0, R, s, mi, args, below, meth, c, cells, slots, Q, A, H0, D, ⟨hx, hb, hml, hown, hts⟩, hE, hA, hK, hR, hg⟩ := C
  refine (hg _ _ _ _).mpr fun H locs ls hP hS hL => ?_
  obtain ⟨kz, hkz⟩ := List.getElem?_of_mem (al_mem.mpr (show (a0 :: a1 :: some (iv v) :: L)[2]? = some (some (iv v)) from rfl))
  refine lv_iinc hx hb d hL.2.1 hkz rfl (by have := hL.1; simp at this; omega) rfl (fun ls2 h2 => ?_)
  rw [← Int32.ofInt_add] at h2
  exact (hg _ _ _ _).mp kk H locs ls2 hP hS (hL.st (i := 2) (v := iv (v + n)) rfl (by have := hL.1; simp at this; omega) h2)
theorem r_istore_3 (C : Cw g own cc nL h l E) {a0 a1 a2 a3 : Option Value} {v : Int} (d : decode cc pc = .ok (.istore_n 3, 1)) (kk : g S (pc + 1) (a0 :: a1 :: a2 :: some (iv v) :: L) st) : g S pc (a0 :: a1 :: a2 :: a3 :: L) (iv v :: st) := by
  obtain ⟨p, e0, R, s, mi, args, below, meth, c, cells, slots, Q, A, H0, D, ⟨hx, hb, hml, hown, hts⟩, hE, hA, hK, hR, hg⟩ := C
  refine (hg _ _ _ _).mpr fun H locs ls hP hS hL => ?_
  exact lv_istore_n hx hb d rfl hL.2.1 (by have := hL.1; simp at this; omega) rfl (fun ls2 h2 => (hg _ _ _ _).mp kk H locs ls2 hP hS (hL.st (i := 3) (v := iv v) rfl (by have := hL.1; simp at this; omega) h2))
theorem r_astore_3 (C : Cw g own cc nL h l E) {a0 a1 a2 a3 : Option Value} {v : Nat} (d : decode cc pc = .ok (.astore_n 3, 1)) (kk : g S (pc + 1) (a0 :: a1 :: a2 :: some (rf E v) :: L) st) : g S pc (a0 :: a1 :: a2 :: a3 :: L) (rf E v :: st) := by
  obtain ⟨p, e0, R, s, mi, args, below, meth, c, cells, slots, Q, A, H0, D, ⟨hx, hb, hml, hown, hts⟩, hE, hA, hK, hR, hg⟩ := C
  refine (hg _ _ _ _).mpr fun H locs ls hP hS hL => ?_
  exact lv_astore_n hx hb d rfl hL.2.1 (by have := hL.1; simp at this; omega) rfl (fun ls2 h2 => (hg _ _ _ _).mp kk H locs ls2 hP hS (hL.st (i := 3) (v := rf E v) rfl (by have := hL.1; simp at this; omega) h2))
theorem r_iinc_3 (C : Cw g own cc nL h l E) {a0 a1 a2 : Option Value} {v n : Int} (d : decode cc pc = .ok (.iinc 3 n, 3)) (kk : g S (pc + 3) (a0 :: a1 :: a2 :: some (iv (v + n)) :: L) st) : g S pc (a0 :: a1 :: a2 :: some (iv v) :: L) st := by
  obtain ⟨p, e0, R, s, mi, args, below, meth, c, cells, slots, Q, A, H0, D, ⟨hx, hb, hml, hown, hts⟩, hE, hA, hK, hR, hg⟩ := C
  refine (hg _ _ _ _).mpr fun H locs ls hP hS hL => ?_
  obtain ⟨kz, hkz⟩ := List.getElem?_of_mem (al_mem.mpr (show (a0 :: a1 :: a2 :: some (iv v) :: L)[3]? = some (some (iv v)) from rfl))
  refine lv_iinc hx hb d hL.2.1 hkz rfl (by have := hL.1; simp at this; omega) rfl (fun ls2 h2 => ?_)
  rw [← Int32.ofInt_add] at h2
  exact (hg _ _ _ _).mp kk H locs ls2 hP hS (hL.st (i := 3) (v := iv (v + n)) rfl (by have := hL.1; simp at this; omega) h2)
theorem r_istore_4 (C : Cw g own cc nL h l E) {a0 a1 a2 a3 a4 : Option Value} {v : Int} (d : decode cc pc = .ok (.istore 4, 2)) (kk : g S (pc + 2) (a0 :: a1 :: a2 :: a3 :: some (iv v) :: L) st) : g S pc (a0 :: a1 :: a2 :: a3 :: a4 :: L) (iv v :: st) := by
  obtain ⟨p, e0, R, s, mi, args, below, meth, c, cells, slots, Q, A, H0, D, ⟨hx, hb, hml, hown, hts⟩, hE, hA, hK, hR, hg⟩ := C
  refine (hg _ _ _ _).mpr fun H locs ls hP hS hL => ?_
  exact lv_istore hx hb d hL.2.1 (by have := hL.1; simp at this; omega) rfl (fun ls2 h2 => (hg _ _ _ _).mp kk H locs ls2 hP hS (hL.st (i := 4) (v := iv v) rfl (by have := hL.1; simp at this; omega) h2))
theorem r_astore_4 (C : Cw g own cc nL h l E) {a0 a1 a2 a3 a4 : Option Value} {v : Nat} (d : decode cc pc = .ok (.astore 4, 2)) (kk : g S (pc + 2) (a0 :: a1 :: a2 :: a3 :: some (rf E v) :: L) st) : g S pc (a0 :: a1 :: a2 :: a3 :: a4 :: L) (rf E v :: st) := by
  obtain ⟨p, e0, R, s, mi, args, below, meth, c, cells, slots, Q, A, H0, D, ⟨hx, hb, hml, hown, hts⟩, hE, hA, hK, hR, hg⟩ := C
  refine (hg _ _ _ _).mpr fun H locs ls hP hS hL => ?_
  exact lv_astore hx hb d hL.2.1 (by have := hL.1; simp at this; omega) rfl (fun ls2 h2 => (hg _ _ _ _).mp kk H locs ls2 hP hS (hL.st (i := 4) (v := rf E v) rfl (by have := hL.1; simp at this; omega) h2))
theorem r_iinc_4 (C : Cw g own cc nL h l E) {a0 a1 a2 a3 : Option Value} {v n : Int} (d : decode cc pc = .ok (.iinc 4 n, 3)) (kk : g S (pc + 3) (a0 :: a1 :: a2 :: a3 :: some (iv (v + n)) :: L) st) : g S pc (a0 :: a1 :: a2 :: a3 :: some (iv v) :: L) st := by
  obtain ⟨p, e0, R, s, mi, args, below, meth, c, cells, slots, Q, A, H0, D, ⟨hx, hb, hml, hown, hts⟩, hE, hA, hK, hR, hg⟩ := C
  refine (hg _ _ _ _).mpr fun H locs ls hP hS hL => ?_
  obtain ⟨kz, hkz⟩ := List.getElem?_of_mem (al_mem.mpr (show (a0 :: a1 :: a2 :: a3 :: some (iv v) :: L)[4]? = some (some (iv v)) from rfl))
  refine lv_iinc hx hb d hL.2.1 hkz rfl (by have := hL.1; simp at this; omega) rfl (fun ls2 h2 => ?_)
  rw [← Int32.ofInt_add] at h2
  exact (hg _ _ _ _).mp kk H locs ls2 hP hS (hL.st (i := 4) (v := iv (v + n)) rfl (by have := hL.1; simp at this; omega) h2)
theorem r_istore_5 (C : Cw g own cc nL h l E) {a0 a1 a2 a3 a4 a5 : Option Value} {v : Int} (d : decode cc pc = .ok (.istore 5, 2)) (kk : g S (pc + 2) (a0 :: a1 :: a2 :: a3 :: a4 :: some (iv v) :: L) st) : g S pc (a0 :: a1 :: a2 :: a3 :: a4 :: a5 :: L) (iv v :: st) := by
  obtain ⟨p, e0, R, s, mi, args, below, meth, c, cells, slots, Q, A, H0, D, ⟨hx, hb, hml, hown, hts⟩, hE, hA, hK, hR, hg⟩ := C
  refine (hg _ _ _ _).mpr fun H locs ls hP hS hL => ?_
  exact lv_istore hx hb d hL.2.1 (by have := hL.1; simp at this; omega) rfl (fun ls2 h2 => (hg _ _ _ _).mp kk H locs ls2 hP hS (hL.st (i := 5) (v := iv v) rfl (by have := hL.1; simp at this; omega) h2))
theorem r_astore_5 (C : Cw g own cc nL h l E) {a0 a1 a2 a3 a4 a5 : Option Value} {v : Nat} (d : decode cc pc = .ok (.astore 5, 2)) (kk : g S (pc + 2) (a0 :: a1 :: a2 :: a3 :: a4 :: some (rf E v) :: L) st) : g S pc (a0 :: a1 :: a2 :: a3 :: a4 :: a5 :: L) (rf E v :: st) := by
  obtain ⟨p, e0, R, s, mi, args, below, meth, c, cells, slots, Q, A, H0, D, ⟨hx, hb, hml, hown, hts⟩, hE, hA, hK, hR, hg⟩ := C
  refine (hg _ _ _ _).mpr fun H locs ls hP hS hL => ?_
  exact lv_astore hx hb d hL.2.1 (by have := hL.1; simp at this; omega) rfl (fun ls2 h2 => (hg _ _ _ _).mp kk H locs ls2 hP hS (hL.st (i := 5) (v := rf E v) rfl (by have := hL.1; simp at this; omega) h2))
theorem r_iinc_5 (C : Cw g own cc nL h l E) {a0 a1 a2 a3 a4 : Option Value} {v n : Int} (d : decode cc pc = .ok (.iinc 5 n, 3)) (kk : g S (pc + 3) (a0 :: a1 :: a2 :: a3 :: a4 :: some (iv (v + n)) :: L) st) : g S pc (a0 :: a1 :: a2 :: a3 :: a4 :: some (iv v) :: L) st := by
  obtain ⟨p, e0, R, s, mi, args, below, meth, c, cells, slots, Q, A, H0, D, ⟨hx, hb, hml, hown, hts⟩, hE, hA, hK, hR, hg⟩ := C
  refine (hg _ _ _ _).mpr fun H locs ls hP hS hL => ?_
  obtain ⟨kz, hkz⟩ := List.getElem?_of_mem (al_mem.mpr (show (a0 :: a1 :: a2 :: a3 :: a4 :: some (iv v) :: L)[5]? = some (some (iv v)) from rfl))
  refine lv_iinc hx hb d hL.2.1 hkz rfl (by have := hL.1; simp at this; omega) rfl (fun ls2 h2 => ?_)
  rw [← Int32.ofInt_add] at h2
  exact (hg _ _ _ _).mp kk H locs ls2 hP hS (hL.st (i := 5) (v := iv (v + n)) rfl (by have := hL.1; simp at this; omega) h2)
theorem r_istore_6 (C : Cw g own cc nL h l E) {a0 a1 a2 a3 a4 a5 a6 : Option Value} {v : Int} (d : decode cc pc = .ok (.istore 6, 2)) (kk : g S (pc + 2) (a0 :: a1 :: a2 :: a3 :: a4 :: a5 :: some (iv v) :: L) st) : g S pc (a0 :: a1 :: a2 :: a3 :: a4 :: a5 :: a6 :: L) (iv v :: st) := by
  obtain ⟨p, e0, R, s, mi, args, below, meth, c, cells, slots, Q, A, H0, D, ⟨hx, hb, hml, hown, hts⟩, hE, hA, hK, hR, hg⟩ := C
  refine (hg _ _ _ _).mpr fun H locs ls hP hS hL => ?_
  exact lv_istore hx hb d hL.2.1 (by have := hL.1; simp at this; omega) rfl (fun ls2 h2 => (hg _ _ _ _).mp kk H locs ls2 hP hS (hL.st (i := 6) (v := iv v) rfl (by have := hL.1; simp at this; omega) h2))
theorem r_astore_6 (C : Cw g own cc nL h l E) {a0 a1 a2 a3 a4 a5 a6 : Option Value} {v : Nat} (d : decode cc pc = .ok (.astore 6, 2)) (kk : g S (pc + 2) (a0 :: a1 :: a2 :: a3 :: a4 :: a5 :: some (rf E v) :: L) st) : g S pc (a0 :: a1 :: a2 :: a3 :: a4 :: a5 :: a6 :: L) (rf E v :: st) := by
  obtain ⟨p, e0, R, s, mi, args, below, meth, c, cells, slots, Q, A, H0, D, ⟨hx, hb, hml, hown, hts⟩, hE, hA, hK, hR, hg⟩ := C
  refine (hg _ _ _ _).mpr fun H locs ls hP hS hL => ?_
  exact lv_astore hx hb d hL.2.1 (by have := hL.1; simp at this; omega) rfl (fun ls2 h2 => (hg _ _ _ _).mp kk H locs ls2 hP hS (hL.st (i := 6) (v := rf E v) rfl (by have := hL.1; simp at this; omega) h2))
theorem r_iinc_6 (C : Cw g own cc nL h l E) {a0 a1 a2 a3 a4 a5 : Option Value} {v n : Int} (d : decode cc pc = .ok (.iinc 6 n, 3)) (kk : g S (pc + 3) (a0 :: a1 :: a2 :: a3 :: a4 :: a5 :: some (iv (v + n)) :: L) st) : g S pc (a0 :: a1 :: a2 :: a3 :: a4 :: a5 :: some (iv v) :: L) st := by
  obtain ⟨p, e0, R, s, mi, args, below, meth, c, cells, slots, Q, A, H0, D, ⟨hx, hb, hml, hown, hts⟩, hE, hA, hK, hR, hg⟩ := C
  refine (hg _ _ _ _).mpr fun H locs ls hP hS hL => ?_
  obtain ⟨kz, hkz⟩ := List.getElem?_of_mem (al_mem.mpr (show (a0 :: a1 :: a2 :: a3 :: a4 :: a5 :: some (iv v) :: L)[6]? = some (some (iv v)) from rfl))
  refine lv_iinc hx hb d hL.2.1 hkz rfl (by have := hL.1; simp at this; omega) rfl (fun ls2 h2 => ?_)
  rw [← Int32.ofInt_add] at h2
  exact (hg _ _ _ _).mp kk H locs ls2 hP hS (hL.st (i := 6) (v := iv (v + n)) rfl (by have := hL.1; simp at this; omega) h2)
theorem r_istore_7 (C : Cw g own cc nL h l E) {a0 a1 a2 a3 a4 a5 a6 a7 : Option Value} {v : Int} (d : decode cc pc = .ok (.istore 7, 2)) (kk : g S (pc + 2) (a0 :: a1 :: a2 :: a3 :: a4 :: a5 :: a6 :: some (iv v) :: L) st) : g S pc (a0 :: a1 :: a2 :: a3 :: a4 :: a5 :: a6 :: a7 :: L) (iv v :: st) := by
  obtain ⟨p, e0, R, s, mi, args, below, meth, c, cells, slots, Q, A, H0, D, ⟨hx, hb, hml, hown, hts⟩, hE, hA, hK, hR, hg⟩ := C
  refine (hg _ _ _ _).mpr fun H locs ls hP hS hL => ?_
  exact lv_istore hx hb d hL.2.1 (by have := hL.1; simp at this; omega) rfl (fun ls2 h2 => (hg _ _ _ _).mp kk H locs ls2 hP hS (hL.st (i := 7) (v := iv v) rfl (by have := hL.1; simp at this; omega) h2))
theorem r_astore_7 (C : Cw g own cc nL h l E) {a0 a1 a2 a3 a4 a5 a6 a7 : Option Value} {v : Nat} (d : decode cc pc = .ok (.astore 7, 2)) (kk : g S (pc + 2) (a0 :: a1 :: a2 :: a3 :: a4 :: a5 :: a6 :: some (rf E v) :: L) st) : g S pc (a0 :: a1 :: a2 :: a3 :: a4 :: a5 :: a6 :: a7 :: L) (rf E v :: st) := by
  obtain ⟨p, e0, R, s, mi, args, below, meth, c, cells, slots, Q, A, H0, D, ⟨hx, hb, hml, hown, hts⟩, hE, hA, hK, hR, hg⟩ := C
  refine (hg _ _ _ _).mpr fun H locs ls hP hS hL => ?_
  exact lv_astore hx hb d hL.2.1 (by have := hL.1; simp at this; omega) rfl (fun ls2 h2 => (hg _ _ _ _).mp kk H locs ls2 hP hS (hL.st (i := 7) (v := rf E v) rfl (by have := hL.1; simp at this; omega) h2))
theorem r_iinc_7 (C : Cw g own cc nL h l E) {a0 a1 a2 a3 a4 a5 a6 : Option Value} {v n : Int} (d : decode cc pc = .ok (.iinc 7 n, 3)) (kk : g S (pc + 3) (a0 :: a1 :: a2 :: a3 :: a4 :: a5 :: a6 :: some (iv (v + n)) :: L) st) : g S pc (a0 :: a1 :: a2 :: a3 :: a4 :: a5 :: a6 :: some (iv v) :: L) st := by
  obtain ⟨p, e0, R, s, mi, args, below, meth, c, cells, slots, Q, A, H0, D, ⟨hx, hb, hml, hown, hts⟩, hE, hA, hK, hR, hg⟩ := C
  refine (hg _ _ _ _).mpr fun H locs ls hP hS hL => ?_
  obtain ⟨kz, hkz⟩ := List.getElem?_of_mem (al_mem.mpr (show (a0 :: a1 :: a2 :: a3 :: a4 :: a5 :: a6 :: some (iv v) :: L)[7]? = some (some (iv v)) from rfl))
  refine lv_iinc hx hb d hL.2.1 hkz rfl (by have := hL.1; simp at this; omega) rfl (fun ls2 h2 => ?_)
  rw [← Int32.ofInt_add] at h2
  exact (hg _ _ _ _).mp kk H locs ls2 hP hS (hL.st (i := 7) (v := iv (v + n)) rfl (by have := hL.1; simp at this; omega) h2)
theorem r_istore_8 (C : Cw g own cc nL h l E) {a0 a1 a2 a3 a4 a5 a6 a7 a8 : Option Value} {v : Int} (d : decode cc pc = .ok (.istore 8, 2)) (kk : g S (pc + 2) (a0 :: a1 :: a2 :: a3 :: a4 :: a5 :: a6 :: a7 :: some (iv v) :: L) st) : g S pc (a0 :: a1 :: a2 :: a3 :: a4 :: a5 :: a6 :: a7 :: a8 :: L) (iv v :: st) := by
  obtain ⟨p, e0, R, s, mi, args, below, meth, c, cells, slots, Q, A, H0, D, ⟨hx, hb, hml, hown, hts⟩, hE, hA, hK, hR, hg⟩ := C
  refine (hg _ _ _ _).mpr fun H locs ls hP hS hL => ?_
  exact lv_istore hx hb d hL.2.1 (by have := hL.1; simp at this; omega) rfl (fun ls2 h2 => (hg _ _ _ _).mp kk H locs ls2 hP hS (hL.st (i := 8) (v := iv v) rfl (by have := hL.1; simp at this; omega) h2))
theorem r_astore_8 (C : Cw g own cc nL h l E) {a0 a1 a2 a3 a4 a5 a6 a7 a8 : Option Value} {v : Nat} (d : decode cc pc = .ok (.astore 8, 2)) (kk : g S (pc + 2) (a0 :: a1 :: a2 :: a3 :: a4 :: a5 :: a6 :: a7 :: some (rf E v) :: L) st) : g S pc (a0 :: a1 :: a2 :: a3 :: a4 :: a5 :: a6 :: a7 :: a8 :: L) (rf E v :: st) := by
  obtain ⟨p, e0, R, s, mi, args, below, meth, c, cells, slots, Q, A, H0, D, ⟨hx, hb, hml, hown, hts⟩, hE, hA, hK, hR, hg⟩ := C
  refine (hg _ _ _ _).mpr fun H locs ls hP hS hL => ?_
  exact lv_astore hx hb d hL.2.1 (by have := hL.1; simp at this; omega) rfl (fun ls2 h2 => (hg _ _ _ _).mp kk H locs ls2 hP hS (hL.st (i := 8) (v := rf E v) rfl (by have := hL.1; simp at this; omega) h2))
theorem r_iinc_8 (C : Cw g own cc nL h l E) {a0 a1 a2 a3 a4 a5 a6 a7 : Option Value} {v n : Int} (d : decode cc pc = .ok (.iinc 8 n, 3)) (kk : g S (pc + 3) (a0 :: a1 :: a2 :: a3 :: a4 :: a5 :: a6 :: a7 :: some (iv (v + n)) :: L) st) : g S pc (a0 :: a1 :: a2 :: a3 :: a4 :: a5 :: a6 :: a7 :: some (iv v) :: L) st := by
  obtain ⟨p, e0, R, s, mi, args, below, meth, c, cells, slots, Q, A, H0, D, ⟨hx, hb, hml, hown, hts⟩, hE, hA, hK, hR, hg⟩ := C
  refine (hg _ _ _ _).mpr fun H locs ls hP hS hL => ?_
  obtain ⟨kz, hkz⟩ := List.getElem?_of_mem (al_mem.mpr (show (a0 :: a1 :: a2 :: a3 :: a4 :: a5 :: a6 :: a7 :: some (iv v) :: L)[8]? = some (some (iv v)) from rfl))
  refine lv_iinc hx hb d hL.2.1 hkz rfl (by have := hL.1; simp at this; omega) rfl (fun ls2 h2 => ?_)
  rw [← Int32.ofInt_add] at h2
  exact (hg _ _ _ _).mp kk H locs ls2 hP hS (hL.st (i := 8) (v := iv (v + n)) rfl (by have := hL.1; simp at this; omega) h2)
theorem r_istore_9 (C : Cw g own cc nL h l E) {a0 a1 a2 a3 a4 a5 a6 a7 a8 a9 : Option Value} {v : Int} (d : decode cc pc = .ok (.istore 9, 2)) (kk : g S (pc + 2) (a0 :: a1 :: a2 :: a3 :: a4 :: a5 :: a6 :: a7 :: a8 :: some (iv v) :: L) st) : g S pc (a0 :: a1 :: a2 :: a3 :: a4 :: a5 :: a6 :: a7 :: a8 :: a9 :: L) (iv v :: st) := by
  obtain ⟨p, e0, R, s, mi, args, below, meth, c, cells, slots, Q, A, H0, D, ⟨hx, hb, hml, hown, hts⟩, hE, hA, hK, hR, hg⟩ := C
  refine (hg _ _ _ _).mpr fun H locs ls hP hS hL => ?_
  exact lv_istore hx hb d hL.2.1 (by have := hL.1; simp at this; omega) rfl (fun ls2 h2 => (hg _ _ _ _).mp kk H locs ls2 hP hS (hL.st (i := 9) (v := iv v) rfl (by have := hL.1; simp at this; omega) h2))
theorem r_astore_9 (C : Cw g own cc nL h l E) {a0 a1 a2 a3 a4 a5 a6 a7 a8 a9 : Option Value} {v : Nat} (d : decode cc pc = .ok (.astore 9, 2)) (kk : g S (pc + 2) (a0 :: a1 :: a2 :: a3 :: a4 :: a5 :: a6 :: a7 :: a8 :: some (rf E v) :: L) st) : g S pc (a0 :: a1 :: a2 :: a3 :: a4 :: a5 :: a6 :: a7 :: a8 :: a9 :: L) (rf E v :: st) := by
  obtain ⟨p, e0, R, s, mi, args, below, meth, c, cells, slots, Q, A, H0, D, ⟨hx, hb, hml, hown, hts⟩, hE, hA, hK, hR, hg⟩ := C
  refine (hg _ _ _ _).mpr fun H locs ls hP hS hL => ?_
  exact lv_astore hx hb d hL.2.1 (by have := hL.1; simp at this; omega) rfl (fun ls2 h2 => (hg _ _ _ _).mp kk H locs ls2 hP hS (hL.st (i := 9) (v := rf E v) rfl (by have := hL.1; simp at this; omega) h2))
theorem r_iinc_9 (C : Cw g own cc nL h l E) {a0 a1 a2 a3 a4 a5 a6 a7 a8 : Option Value} {v n : Int} (d : decode cc pc = .ok (.iinc 9 n, 3)) (kk : g S (pc + 3) (a0 :: a1 :: a2 :: a3 :: a4 :: a5 :: a6 :: a7 :: a8 :: some (iv (v + n)) :: L) st) : g S pc (a0 :: a1 :: a2 :: a3 :: a4 :: a5 :: a6 :: a7 :: a8 :: some (iv v) :: L) st := by
  obtain ⟨p, e0, R, s, mi, args, below, meth, c, cells, slots, Q, A, H0, D, ⟨hx, hb, hml, hown, hts⟩, hE, hA, hK, hR, hg⟩ := C
  refine (hg _ _ _ _).mpr fun H locs ls hP hS hL => ?_
  obtain ⟨kz, hkz⟩ := List.getElem?_of_mem (al_mem.mpr (show (a0 :: a1 :: a2 :: a3 :: a4 :: a5 :: a6 :: a7 :: a8 :: some (iv v) :: L)[9]? = some (some (iv v)) from rfl))
  refine lv_iinc hx hb d hL.2.1 hkz rfl (by have := hL.1; simp at this; omega) rfl (fun ls2 h2 => ?_)
  rw [← Int32.ofInt_add] at h2
  exact (hg _ _ _ _).mp kk H locs ls2 hP hS (hL.st (i := 9) (v := iv (v + n)) rfl (by have := hL.1; simp at this; omega) h2)
theorem r_istore_10 (C : Cw g own cc nL h l E) {a0 a1 a2 a3 a4 a5 a6 a7 a8 a9 a10 : Option Value} {v : Int} (d : decode cc pc = .ok (.istore 10, 2)) (kk : g S (pc + 2) (a0 :: a1 :: a2 :: a3 :: a4 :: a5 :: a6 :: a7 :: a8 :: a9 :: some (iv v) :: L) st) : g S pc (a0 :: a1 :: a2 :: a3 :: a4 :: a5 :: a6 :: a7 :: a8 :: a9 :: a10 :: L) (iv v :: st) := by
  obtain ⟨p, e0, R, s, mi, args, below, meth, c, cells, slots, Q, A, H0, D, ⟨hx, hb, hml, hown, hts⟩, hE, hA, hK, hR, hg⟩ := C
  refine (hg _ _ _ _).mpr fun H locs ls hP hS hL => ?_
  exact lv_istore hx hb d hL.2.1 (by have := hL.1; simp at this; omega) rfl (fun ls2 h2 => (hg _ _ _ _).mp kk H locs ls2 hP hS (hL.st (i := 10) (v := iv v) rfl (by have := hL.1; simp at this; omega) h2))
theorem r_astore_10 (C : Cw g own cc nL h l E) {a0 a1 a2 a3 a4 a5 a6 a7 a8 a9 a10 : Option Value} {v : Nat} (d : decode cc pc = .ok (.astore 10, 2)) (kk : g S (pc + 2) (a0 :: a1 :: a2 :: a3 :: a4 :: a5 :: a6 :: a7 :: a8 :: a9 :: some (rf E v) :: L) st) : g S pc (a0 :: a1 :: a2 :: a3 :: a4 :: a5 :: a6 :: a7 :: a8 :: a9 :: a10 :: L) (rf E v :: st) := by
  obtain ⟨p, e0, R, s, mi, args, below, meth, c, cells, slots, Q, A, H0, D, ⟨hx, hb, hml, hown, hts⟩, hE, hA, hK, hR, hg⟩ := C
  refine (hg _ _ _ _).mpr fun H locs ls hP hS hL => ?_
  exact lv_astore hx hb d hL.2.1 (by have := hL.1; simp at this; omega) rfl (fun ls2 h2 => (hg _ _ _ _).mp kk H locs ls2 hP hS (hL.st (i := 10) (v := rf E v) rfl (by have := hL.1; simp at this; omega) h2))
theorem r_iinc_10 (C : Cw g own cc nL h l E) {a0 a1 a2 a3 a4 a5 a6 a7 a8 a9 : Option Value} {v n : Int} (d : decode cc pc = .ok (.iinc 10 n, 3)) (kk : g S (pc + 3) (a0 :: a1 :: a2 :: a3 :: a4 :: a5 :: a6 :: a7 :: a8 :: a9 :: some (iv (v + n)) :: L) st) : g S pc (a0 :: a1 :: a2 :: a3 :: a4 :: a5 :: a6 :: a7 :: a8 :: a9 :: some (iv v) :: L) st := by
  obtain ⟨p, e0, R, s, mi, args, below, meth, c, cells, slots, Q, A, H0, D, ⟨hx, hb, hml, hown, hts⟩, hE, hA, hK, hR, hg⟩ := C
  refine (hg _ _ _ _).mpr fun H locs ls hP hS hL => ?_
  obtain ⟨kz, hkz⟩ := List.getElem?_of_mem (al_mem.mpr (show (a0 :: a1 :: a2 :: a3 :: a4 :: a5 :: a6 :: a7 :: a8 :: a9 :: some (iv v) :: L)[10]? = some (some (iv v)) from rfl))
  refine lv_iinc hx hb d hL.2.1 hkz rfl (by have := hL.1; simp at this; omega) rfl (fun ls2 h2 => ?_)
  rw [← Int32.ofInt_add] at h2
  exact (hg _ _ _ _).mp kk H locs ls2 hP hS (hL.st (i := 10) (v := iv (v + n)) rfl (by have := hL.1; simp at this; omega) h2)
theorem r_iadd (C : Cw g own cc nL h l E) {a b : Int} (d : decode cc pc = .ok (.iadd, 1)) (kk : g S (pc + 1) L (iv (a + b) :: st)) : g S pc L (iv b :: iv a :: st) := by
  obtain ⟨p, e0, R, s, mi, args, below, meth, c, cells, slots, Q, A, H0, D, ⟨hx, hb, hml, hown, hts⟩, hE, hA, hK, hR, hg⟩ := C
  refine (hg _ _ _ _).mpr fun H locs ls hP hS hL => ?_
  refine lv_iadd hx hb d ?_
  rw [iv_add]
  exact (hg _ _ _ _).mp kk H locs ls hP hS hL
theorem r_isub (C : Cw g own cc nL h l E) {a b : Int} (d : decode cc pc = .ok (.isub, 1)) (kk : g S (pc + 1) L (iv (a - b) :: st)) : g S pc L (iv b :: iv a :: st) := by
  obtain ⟨p, e0, R, s, mi, args, below, meth, c, cells, slots, Q, A, H0, D, ⟨hx, hb, hml, hown, hts⟩, hE, hA, hK, hR, hg⟩ := C
  refine (hg _ _ _ _).mpr fun H locs ls hP hS hL => ?_
  refine lv_isub hx hb d ?_
  rw [iv_sub]
  exact (hg _ _ _ _).mp kk H locs ls hP hS hL
theorem r_imul (C : Cw g own cc nL h l E) {a b : Int} (d : decode cc pc = .ok (.imul, 1)) (kk : g S (pc + 1) L (iv (a * b) :: st)) : g S pc L (iv b :: iv a :: st) := by
  obtain ⟨p, e0, R, s, mi, args, below, meth, c, cells, slots, Q, A, H0, D, ⟨hx, hb, hml, hown, hts⟩, hE, hA, hK, hR, hg⟩ := C
  refine (hg _ _ _ _).mpr fun H locs ls hP hS hL => ?_
  refine lv_imul hx hb d ?_
  rw [iv_mul]
  exact (hg _ _ _ _).mp kk H locs ls hP hS hL
theorem r_icmp_lt (C : Cw g own cc nL h l E) {a b off : Int} {tgt : Nat} (d : decode cc pc = .ok (.if_icmp .lt off, 3)) (ht : (pc : Int) + off = (tgt : Int)) (ha : ir a) (hb' : ir b) (kt : a < b → g S tgt L st) (kf : ¬ (a < b) → g S (pc + 3) L st) : g S pc L (iv b :: iv a :: st) := by
  obtain ⟨p, e0, R, s, mi, args, below, meth, c, cells, slots, Q, A, H0, D, ⟨hx, hb, hml, hown, hts⟩, hE, hA, hK, hR, hg⟩ := C
  refine (hg _ _ _ _).mpr fun H locs ls hP hS hL => ?_
  exact lv_icmp_lt hx hb d ht (fun q => (hg _ _ _ _).mp (kt ((ir_lt ha hb').mp q)) H locs ls hP hS hL) (fun q => (hg _ _ _ _).mp (kf (fun z => q ((ir_lt ha hb').mpr z))) H locs ls hP hS hL)
theorem r_if_lt (C : Cw g own cc nL h l E) {a off : Int} {tgt : Nat} (d : decode cc pc = .ok (.ifCond .lt off, 3)) (ht : (pc : Int) + off = (tgt : Int)) (ha : ir a) (kt : a < 0 → g S tgt L st) (kf : ¬ (a < 0) → g S (pc + 3) L st) : g S pc L (iv a :: st) := by
  obtain ⟨p, e0, R, s, mi, args, below, meth, c, cells, slots, Q, A, H0, D, ⟨hx, hb, hml, hown, hts⟩, hE, hA, hK, hR, hg⟩ := C
  refine (hg _ _ _ _).mpr fun H locs ls hP hS hL => ?_
  exact lv_if_lt hx hb d ht (fun q => (hg _ _ _ _).mp (kt ((ir_lt ha ir_0).mp q)) H locs ls hP hS hL) (fun q => (hg _ _ _ _).mp (kf (fun z => q ((ir_lt ha ir_0).mpr z))) H locs ls hP hS hL)
theorem r_icmp_ge (C : Cw g own cc nL h l E) {a b off : Int} {tgt : Nat} (d : decode cc pc = .ok (.if_icmp .ge off, 3)) (ht : (pc : Int) + off = (tgt : Int)) (ha : ir a) (hb' : ir b) (kt : b ≤ a → g S tgt L st) (kf : ¬ (b ≤ a) → g S (pc + 3) L st) : g S pc L (iv b :: iv a :: st) := by
  obtain ⟨p, e0, R, s, mi, args, below, meth, c, cells, slots, Q, A, H0, D, ⟨hx, hb, hml, hown, hts⟩, hE, hA, hK, hR, hg⟩ := C
  refine (hg _ _ _ _).mpr fun H locs ls hP hS hL => ?_
  exact lv_icmp_ge hx hb d ht (fun q => (hg _ _ _ _).mp (kt ((ir_le hb' ha).mp q)) H locs ls hP hS hL) (fun q => (hg _ _ _ _).mp (kf (fun z => q ((ir_le hb' ha).mpr z))) H locs ls hP hS hL)
theorem r_if_ge (C : Cw g own cc nL h l E) {a off : Int} {tgt : Nat} (d : decode cc pc = .ok (.ifCond .ge off, 3)) (ht : (pc : Int) + off = (tgt : Int)) (ha : ir a) (kt : 0 ≤ a → g S tgt L st) (kf : ¬ (0 ≤ a) → g S (pc + 3) L st) : g S pc L (iv a :: st) := by
  obtain ⟨p, e0, R, s, mi, args, below, meth, c, cells, slots, Q, A, H0, D, ⟨hx, hb, hml, hown, hts⟩, hE, hA, hK, hR, hg⟩ := C
  refine (hg _ _ _ _).mpr fun H locs ls hP hS hL => ?_
  exact lv_if_ge hx hb d ht (fun q => (hg _ _ _ _).mp (kt ((ir_le ir_0 ha).mp q)) H locs ls hP hS hL) (fun q => (hg _ _ _ _).mp (kf (fun z => q ((ir_le ir_0 ha).mpr z))) H locs ls hP hS hL)
theorem r_icmp_gt (C : Cw g own cc nL h l E) {a b off : Int} {tgt : Nat} (d : decode cc pc = .ok (.if_icmp .gt off, 3)) (ht : (pc : Int) + off = (tgt : Int)) (ha : ir a) (hb' : ir b) (kt : b < a → g S tgt L st) (kf : ¬ (b < a) → g S (pc + 3) L st) : g S pc L (iv b :: iv a :: st) := by
  obtain ⟨p, e0, R, s, mi, args, below, meth, c, cells, slots, Q, A, H0, D, ⟨hx, hb, hml, hown, hts⟩, hE, hA, hK, hR, hg⟩ := C
  refine (hg _ _ _ _).mpr fun H locs ls hP hS hL => ?_
  exact lv_icmp_gt hx hb d ht (fun q => (hg _ _ _ _).mp (kt ((ir_lt hb' ha).mp q)) H locs ls hP hS hL) (fun q => (hg _ _ _ _).mp (kf (fun z => q ((ir_lt hb' ha).mpr z))) H locs ls hP hS hL)
theorem r_if_gt (C : Cw g own cc nL h l E) {a off : Int} {tgt : Nat} (d : decode cc pc = .ok (.ifCond .gt off, 3)) (ht : (pc : Int) + off = (tgt : Int)) (ha : ir a) (kt : 0 < a → g S tgt L st) (kf : ¬ (0 < a) → g S (pc + 3) L st) : g S pc L (iv a :: st) := by
  obtain ⟨p, e0, R, s, mi, args, below, meth, c, cells, slots, Q, A, H0, D, ⟨hx, hb, hml, hown, hts⟩, hE, hA, hK, hR, hg⟩ := C
  refine (hg _ _ _ _).mpr fun H locs ls hP hS hL => ?_
  exact lv_if_gt hx hb d ht (fun q => (hg _ _ _ _).mp (kt ((ir_lt ir_0 ha).mp q)) H locs ls hP hS hL) (fun q => (hg _ _ _ _).mp (kf (fun z => q ((ir_lt ir_0 ha).mpr z))) H locs ls hP hS hL)
theorem r_icmp_le (C : Cw g own cc nL h l E) {a b off : Int} {tgt : Nat} (d : decode cc pc = .ok (.if_icmp .le off, 3)) (ht : (pc : Int) + off = (tgt : Int)) (ha : ir a) (hb' : ir b) (kt : a ≤ b → g S tgt L st) (kf : ¬ (a ≤ b) → g S (pc + 3) L st) : g S pc L (iv b :: iv a :: st) := by
  obtain ⟨p, e0, R, s, mi, args, below, meth, c, cells, slots, Q, A, H0, D, ⟨hx, hb, hml, hown, hts⟩, hE, hA, hK, hR, hg⟩ := C
  refine (hg _ _ _ _).mpr fun H locs ls hP hS hL => ?_
  exact lv_icmp_le hx hb d ht (fun q => (hg _ _ _ _).mp (kt ((ir_le ha hb').mp q)) H locs ls hP hS hL) (fun q => (hg _ _ _ _).mp (kf (fun z => q ((ir_le ha hb').mpr z))) H locs ls hP hS hL)
theorem r_if_le (C : Cw g own cc nL h l E) {a off : Int} {tgt : Nat} (d : decode cc pc = .ok (.ifCond .le off, 3)) (ht : (pc : Int) + off = (tgt : Int)) (ha : ir a) (kt : a ≤ 0 → g S tgt L st) (kf : ¬ (a ≤ 0) → g S (pc + 3) L st) : g S pc L (iv a :: st) := by
  obtain ⟨p, e0, R, s, mi, args, below, meth, c, cells, slots, Q, A, H0, D, ⟨hx, hb, hml, hown, hts⟩, hE, hA, hK, hR, hg⟩ := C
  refine (hg _ _ _ _).mpr fun H locs ls hP hS hL => ?_
  exact lv_if_le hx hb d ht (fun q => (hg _ _ _ _).mp (kt ((ir_le ha ir_0).mp q)) H locs ls hP hS hL) (fun q => (hg _ _ _ _).mp (kf (fun z => q ((ir_le ha ir_0).mpr z))) H locs ls hP hS hL)
theorem r_icmp_eq (C : Cw g own cc nL h l E) {a b off : Int} {tgt : Nat} (d : decode cc pc = .ok (.if_icmp .eq off, 3)) (ht : (pc : Int) + off = (tgt : Int)) (ha : ir a) (hb' : ir b) (kt : a = b → g S tgt L st) (kf : ¬ (a = b) → g S (pc + 3) L st) : g S pc L (iv b :: iv a :: st) := by
  obtain ⟨p, e0, R, s, mi, args, below, meth, c, cells, slots, Q, A, H0, D, ⟨hx, hb, hml, hown, hts⟩, hE, hA, hK, hR, hg⟩ := C
  refine (hg _ _ _ _).mpr fun H locs ls hP hS hL => ?_
  exact lv_icmp_eq hx hb d ht (fun q => (hg _ _ _ _).mp (kt ((ir_eq ha hb').mp q)) H locs ls hP hS hL) (fun q => (hg _ _ _ _).mp (kf (fun z => q ((ir_eq ha hb').mpr z))) H locs ls hP hS hL)
theorem r_if_eq (C : Cw g own cc nL h l E) {a off : Int} {tgt : Nat} (d : decode cc pc = .ok (.ifCond .eq off, 3)) (ht : (pc : Int) + off = (tgt : Int)) (ha : ir a) (kt : a = 0 → g S tgt L st) (kf : ¬ (a = 0) → g S (pc + 3) L st) : g S pc L (iv a :: st) := by
  obtain ⟨p, e0, R, s, mi, args, below, meth, c, cells, slots, Q, A, H0, D, ⟨hx, hb, hml, hown, hts⟩, hE, hA, hK, hR, hg⟩ := C
  refine (hg _ _ _ _).mpr fun H locs ls hP hS hL => ?_
  exact lv_if_eq hx hb d ht (fun q => (hg _ _ _ _).mp (kt ((ir_eq ha ir_0).mp q)) H locs ls hP hS hL) (fun q => (hg _ _ _ _).mp (kf (fun z => q ((ir_eq ha ir_0).mpr z))) H locs ls hP hS hL)
theorem r_icmp_ne (C : Cw g own cc nL h l E) {a b off : Int} {tgt : Nat} (d : decode cc pc = .ok (.if_icmp .ne off, 3)) (ht : (pc : Int) + off = (tgt : Int)) (ha : ir a) (hb' : ir b) (kt : a ≠ b → g S tgt L st) (kf : ¬ (a ≠ b) → g S (pc + 3) L st) : g S pc L (iv b :: iv a :: st) := by
  obtain ⟨p, e0, R, s, mi, args, below, meth, c, cells, slots, Q, A, H0, D, ⟨hx, hb, hml, hown, hts⟩, hE, hA, hK, hR, hg⟩ := C
  refine (hg _ _ _ _).mpr fun H locs ls hP hS hL => ?_
  exact lv_icmp_ne hx hb d ht (fun q => (hg _ _ _ _).mp (kt (fun z => q ((ir_eq ha hb').mpr z))) H locs ls hP hS hL) (fun q => (hg _ _ _ _).mp (kf (fun z => z ((ir_eq ha hb').mp q))) H locs ls hP hS hL)
theorem r_if_ne (C : Cw g own cc nL h l E) {a off : Int} {tgt : Nat} (d : decode cc pc = .ok (.ifCond .ne off, 3)) (ht : (pc : Int) + off = (tgt : Int)) (ha : ir a) (kt : a ≠ 0 → g S tgt L st) (kf : ¬ (a ≠ 0) → g S (pc + 3) L st) : g S pc L (iv a :: st) := by
  obtain ⟨p, e0, R, s, mi, args, below, meth, c, cells, slots, Q, A, H0, D, ⟨hx, hb, hml, hown, hts⟩, hE, hA, hK, hR, hg⟩ := C
  refine (hg _ _ _ _).mpr fun H locs ls hP hS hL => ?_
  exact lv_if_ne hx hb d ht (fun q => (hg _ _ _ _).mp (kt (fun z => q ((ir_eq ha ir_0).mpr z))) H locs ls hP hS hL) (fun q => (hg _ _ _ _).mp (kf (fun z => z ((ir_eq ha ir_0).mp q))) H locs ls hP hS hL)
theorem r_goto (C : Cw g own cc nL h l E) {off : Int} {tgt : Nat} (d : decode cc pc = .ok (.goto off, 3)) (ht : (pc : Int) + off = (tgt : Int)) (kk : g S tgt L st) : g S pc L st := by
  obtain ⟨p, e0, R, s, mi, args, below, meth, c, cells, slots, Q, A, H0, D, ⟨hx, hb, hml, hown, hts⟩, hE, hA, hK, hR, hg⟩ := C
  refine (hg _ _ _ _).mpr fun H locs ls hP hS hL => ?_
  exact lv_goto hx hb d ht ((hg _ _ _ _).mp kk H locs ls hP hS hL)
theorem r_dup (C : Cw g own cc nL h l E) {v : Value} (d : decode cc pc = .ok (.dup, 1)) (hv : v.category = 1) (kk : g S (pc + 1) L (v :: v :: st)) : g S pc L (v :: st) := by
  obtain ⟨p, e0, R, s, mi, args, below, meth, c, cells, slots, Q, A, H0, D, ⟨hx, hb, hml, hown, hts⟩, hE, hA, hK, hR, hg⟩ := C
  refine (hg _ _ _ _).mpr fun H locs ls hP hS hL => ?_
  exact lv_dup hx hb d hv ((hg _ _ _ _).mp kk H locs ls hP hS hL)
theorem r_dup2 (C : Cw g own cc nL h l E) {v w : Value} (d : decode cc pc = .ok (.dup2, 1)) (hv : v.category = 1) (hw : w.category = 1) (kk : g S (pc + 1) L (v :: w :: v :: w :: st)) : g S pc L (v :: w :: st) := by
  obtain ⟨p, e0, R, s, mi, args, below, meth, c, cells, slots, Q, A, H0, D, ⟨hx, hb, hml, hown, hts⟩, hE, hA, hK, hR, hg⟩ := C
  refine (hg _ _ _ _).mpr fun H locs ls hP hS hL => ?_
  exact lv_dup2_11 hx hb d hv hw ((hg _ _ _ _).mp kk H locs ls hP hS hL)
theorem r_tabOut (C : Cw g own cc nL h l E) {dflt lo hi : Int} {offs : Array Int} {len : Nat} {a : Int} {tgt : Nat} (d : decode cc pc = .ok (.tableswitch dflt lo hi offs, len)) (ha : ir a) (hr : a < lo ∨ hi < a) (ht : (pc : Int) + dflt = (tgt : Int)) (kk : g S tgt L st) : g S pc L (iv a :: st) := by
  obtain ⟨p, e0, R, s, mi, args, below, meth, c, cells, slots, Q, A, H0, D, ⟨hx, hb, hml, hown, hts⟩, hE, hA, hK, hR, hg⟩ := C
  refine (hg _ _ _ _).mpr fun H locs ls hP hS hL => ?_
  exact lv_tableOut hx hb d (by rw [ir_to ha]; exact hr) ht ((hg _ _ _ _).mp kk H locs ls hP hS hL)
theorem r_tabIn (C : Cw g own cc nL h l E) {dflt lo hi : Int} {offs : Array Int} {len : Nat} {a off : Int} {tgt : Nat} (d : decode cc pc = .ok (.tableswitch dflt lo hi offs, len)) (ha : ir a) (h1 : ¬ a < lo) (h2 : ¬ hi < a) (ho : offs[(a - lo).toNat]? = some off) (ht : (pc : Int) + off = (tgt : Int)) (kk : g S tgt L st) : g S pc L (iv a :: st) := by
  obtain ⟨p, e0, R, s, mi, args, below, meth, c, cells, slots, Q, A, H0, D, ⟨hx, hb, hml, hown, hts⟩, hE, hA, hK, hR, hg⟩ := C
  refine (hg _ _ _ _).mpr fun H locs ls hP hS hL => ?_
  exact lv_tableIn hx hb d (by rw [ir_to ha]; exact h1) (by rw [ir_to ha]; exact h2) (by rw [ir_to ha]; exact ho) ht ((hg _ _ _ _).mp kk H locs ls hP hS hL)
theorem r_lookup (C : Cw g own cc nL h l E) {dflt : Int} {ps : Array (Int × Int)} {len : Nat} {a off : Int} {tgt : Nat} (d : decode cc pc = .ok (.lookupswitch dflt ps, len)) (hp : (ps.toList.zip (ps.toList.drop 1)).all (fun (a, next) => a.1 < next.1) = true) (ha : ir a) (ho : Op.lookupswitch.offset ps.toList dflt a = off) (ht : (pc : Int) + off = (tgt : Int)) (kk : g S tgt L st) : g S pc L (iv a :: st) := by
  obtain ⟨p, e0, R, s, mi, args, below, meth, c, cells, slots, Q, A, H0, D, ⟨hx, hb, hml, hown, hts⟩, hE, hA, hK, hR, hg⟩ := C
  refine (hg _ _ _ _).mpr fun H locs ls hP hS hL => ?_
  exact lv_lookup hx hb d hp (by rw [ir_to ha]; exact ho) ht ((hg _ _ _ _).mp kk H locs ls hP hS hL)
theorem gGet (C : Cw g own cc nL h l E) {ci : Nat} {Cn : String} {T : u_T} {N : Nat} (hc : classes[ci]? = some (Cn, T, N)) (hin : ∀ w ∈ u_ws Cn T N, w ∈ lw_w) {k : Nat} (hk : k < 203) {fs : List Value} (hz : zcel E S k = .inr (ci, fs)) (n : Nat) (hn : n < N) {idx : Nat} (hl : Cond.fieldLink own idx (T n).1 (T n).2.1 (T n).2.2.1 ∈ lw_w) {v : Value} (hv : fs[n]? = some v) (d : decode cc pc = .ok (.getfield idx, 3)) (kk : g S (pc + 3) L (v :: st)) : g S pc L (rf E k :: st) := by
  obtain ⟨p, e0, R, s, mi, args, below, meth, c, cells, slots, Q, A, H0, D, ⟨hx, hb, hml, hown, hts⟩, hE, hA, hK, hR, hg⟩ := C
  refine (hg _ _ _ _).mpr fun H locs ls hP hS hL => ?_
  have hwk := wld_at (E := E) (S := S) hk
  rw [hz] at hwk
  exact va_get (ci := ci) (T := T) (N := N) hx hb hts hin hown hK hP k hwk hc n hn (hts _ hl) (fun x hx => hx) hv d ((hg _ _ _ _).mp kk H locs ls hP hS hL)
theorem gPut (C : Cw g own cc nL h l E) {ci : Nat} {Cn : String} {T : u_T} {N : Nat} {tyf : Nat → FieldType} (hc : classes[ci]? = some (Cn, T, N)) (hin : ∀ w ∈ u_ws Cn T N, w ∈ lw_w) (hty : ∀ k, k < N → parseFieldDescriptor (T k).2.2.1 = some (tyf k)) (hnm : ∀ a, a < N → ∀ b, b < N → a ≠ b → (T a).2.1 ≠ (T b).2.1) {k : Nat} (hk : k < 203) {fs : List Value} (hz : zcel E S k = .inr (ci, fs)) (n : Nat) (hn : n < N) {idx : Nat} (hl : Cond.fieldLink own idx (T n).1 (T n).2.1 (T n).2.2.1 ∈ lw_w) (hfin : (T n).2.2.2 = false) {ty : FieldType} (hd : parseFieldDescriptor (T n).2.2.1 = some ty) {v : Value} (hnar : narrow ty v = v) (hfit : fits ty v = true) (hlen : n < fs.length) (hz' : zcel E S' k = .inr (ci, fs.set n v)) (ho : ∀ j, j < 203 → j ≠ k → zcel E S' j = zcel E S j) (d : decode cc pc = .ok (.putfield idx, 3)) (kk : g S' (pc + 3) L st) : g S pc L (v :: rf E k :: st) := by
  obtain ⟨p, e0, R, s, mi, args, below, meth, c, cells, slots, Q, A, H0, D, ⟨hx, hb, hml, hown, hts⟩, hE, hA, hK, hR, hg⟩ := C
  refine (hg _ _ _ _).mpr fun H locs ls hP hS hL => ?_
  have hwk := wld_at (E := E) (S := S) hk
  rw [hz] at hwk
  refine va_put (ci := ci) (T := T) (N := N) hx hb hts hin tyf hty hnm hown hK hP (wld_D hE hA) hS k hwk hc n hn (hts _ hl) (fun x hx => hx) hfin hd hnar hfit hlen d (fun H1 locs1 hP1 hD1 hS1 => ?_)
  rw [wld_set hk hz' ho] at hP1
  exact (hg _ _ _ _).mp kk H1 locs1 ls hP1 hS1 hL
theorem g_Mc_racks (C : Cw g own cc nL h l E) (hm : m < 2) {idx : Nat} (hl : Cond.fieldLink own idx "GreatMachine$Machine" "racks" "[LGreatMachine$Rack;" ∈ lw_w) (d : decode cc pc = .ok (.getfield idx, 3)) (kk : g S (pc + 3) L (rf E (kRa m) :: st)) : g S pc L (rf E (kMc m) :: st) := gGet C (ci := 3) rfl inw_Mc (kMc_lt hm) (zMc hm) 0 (by decide) hl rfl d kk
theorem g_Mc_accounts (C : Cw g own cc nL h l E) (hm : m < 2) {idx : Nat} (hl : Cond.fieldLink own idx "GreatMachine$Machine" "accounts" "[LGreatMachine$Account;" ∈ lw_w) (d : decode cc pc = .ok (.getfield idx, 3)) (kk : g S (pc + 3) L (rf E (kAa m) :: st)) : g S pc L (rf E (kMc m) :: st) := gGet C (ci := 3) rfl inw_Mc (kMc_lt hm) (zMc hm) 1 (by decide) hl rfl d kk
theorem g_Mc_jobs (C : Cw g own cc nL h l E) (hm : m < 2) {idx : Nat} (hl : Cond.fieldLink own idx "GreatMachine$Machine" "jobs" "[LGreatMachine$Job;" ∈ lw_w) (d : decode cc pc = .ok (.getfield idx, 3)) (kk : g S (pc + 3) L (rf E (kJa m) :: st)) : g S pc L (rf E (kMc m) :: st) := gGet C (ci := 3) rfl inw_Mc (kMc_lt hm) (zMc hm) 2 (by decide) hl rfl d kk
theorem g_Mc_holds (C : Cw g own cc nL h l E) (hm : m < 2) {idx : Nat} (hl : Cond.fieldLink own idx "GreatMachine$Machine" "holds" "[LGreatMachine$Hold;" ∈ lw_w) (d : decode cc pc = .ok (.getfield idx, 3)) (kk : g S (pc + 3) L (rf E (kHa m) :: st)) : g S pc L (rf E (kMc m) :: st) := gGet C (ci := 3) rfl inw_Mc (kMc_lt hm) (zMc hm) 3 (by decide) hl rfl d kk
theorem g_Mc_rackCount (C : Cw g own cc nL h l E) (hm : m < 2) {idx : Nat} (hl : Cond.fieldLink own idx "GreatMachine$Machine" "rackCount" "I" ∈ lw_w) (d : decode cc pc = .ok (.getfield idx, 3)) (kk : g (sm S0 m t) (pc + 3) L (iv (t 0 0) :: st)) : g (sm S0 m t) pc L (rf E (kMc m) :: st) := gGet C (ci := 3) rfl inw_Mc (kMc_lt hm) (zMc hm) 4 (by decide) hl (by rw [sm_eq]; rfl) d kk
theorem gw_Mc_rackCount (C : Cw g own cc nL h l E) (hm : m < 2) {idx : Nat} (hl : Cond.fieldLink own idx "GreatMachine$Machine" "rackCount" "I" ∈ lw_w) (d : decode cc pc = .ok (.getfield idx, 3)) (kk : g S (pc + 3) L (iv (S m 0 0) :: st)) : g S pc L (rf E (kMc m) :: st) := gGet C (ci := 3) rfl inw_Mc (kMc_lt hm) (zMc hm) 4 (by decide) hl rfl d kk
theorem p_Mc_rackCount (C : Cw g own cc nL h l E) (hm : m < 2) {idx : Nat} {x : Int} (hl : Cond.fieldLink own idx "GreatMachine$Machine" "rackCount" "I" ∈ lw_w) (d : decode cc pc = .ok (.putfield idx, 3)) (kk : g (sm S0 m (tu t 0 0 x)) (pc + 3) L st) : g (sm S0 m t) pc L (iv x :: rf E (kMc m) :: st) := gPut C (ci := 3) (tyf := ty_Mc) (ty := .int) rfl inw_Mc tok_Mc nm_Mc (kMc_lt hm) (zMc hm) 4 (by decide) hl rfl (by decide +kernel) rfl rfl (by simp [oMc]) (by rw [(zMc hm), sm_eq, sm_eq]; simp [oMc, tu]) (zM_ne hm (mx_Mc (by decide))) d kk
theorem g_Mc_accountCount (C : Cw g own cc nL h l E) (hm : m < 2) {idx : Nat} (hl : Cond.fieldLink own idx "GreatMachine$Machine" "accountCount" "I" ∈ lw_w) (d : decode cc pc = .ok (.getfield idx, 3)) (kk : g (sm S0 m t) (pc + 3) L (iv (t 1 0) :: st)) : g (sm S0 m t) pc L (rf E (kMc m) :: st) := gGet C (ci := 3) rfl inw_Mc (kMc_lt hm) (zMc hm) 5 (by decide) hl (by rw [sm_eq]; rfl) d kk
theorem gw_Mc_accountCount (C : Cw g own cc nL h l E) (hm : m < 2) {idx : Nat} (hl : Cond.fieldLink own idx "GreatMachine$Machine" "accountCount" "I" ∈ lw_w) (d : decode cc pc = .ok (.getfield idx, 3)) (kk : g S (pc + 3) L (iv (S m 1 0) :: st)) : g S pc L (rf E (kMc m) :: st) := gGet C (ci := 3) rfl inw_Mc (kMc_lt hm) (zMc hm) 5 (by decide) hl rfl d kk
theorem p_Mc_accountCount (C : Cw g own cc nL h l E) (hm : m < 2) {idx : Nat} {x : Int} (hl : Cond.fieldLink own idx "GreatMachine$Machine" "accountCount" "I" ∈ lw_w) (d : decode cc pc = .ok (.putfield idx, 3)) (kk : g (sm S0 m (tu t 1 0 x)) (pc + 3) L st) : g (sm S0 m t) pc L (iv x :: rf E (kMc m) :: st) := gPut C (ci := 3) (tyf := ty_Mc) (ty := .int) rfl inw_Mc tok_Mc nm_Mc (kMc_lt hm) (zMc hm) 5 (by decide) hl rfl (by decide +kernel) rfl rfl (by simp [oMc]) (by rw [(zMc hm), sm_eq, sm_eq]; simp [oMc, tu]) (zM_ne hm (mx_Mc (by decide))) d kk
theorem g_Mc_jobCount (C : Cw g own cc nL h l E) (hm : m < 2) {idx : Nat} (hl : Cond.fieldLink own idx "GreatMachine$Machine" "jobCount" "I" ∈ lw_w) (d : decode cc pc = .ok (.getfield idx, 3)) (kk : g (sm S0 m t) (pc + 3) L (iv (t 2 0) :: st)) : g (sm S0 m t) pc L (rf E (kMc m) :: st) := gGet C (ci := 3) rfl inw_Mc (kMc_lt hm) (zMc hm) 6 (by decide) hl (by rw [sm_eq]; rfl) d kk
theorem gw_Mc_jobCount (C : Cw g own cc nL h l E) (hm : m < 2) {idx : Nat} (hl : Cond.fieldLink own idx "GreatMachine$Machine" "jobCount" "I" ∈ lw_w) (d : decode cc pc = .ok (.getfield idx, 3)) (kk : g S (pc + 3) L (iv (S m 2 0) :: st)) : g S pc L (rf E (kMc m) :: st) := gGet C (ci := 3) rfl inw_Mc (kMc_lt hm) (zMc hm) 6 (by decide) hl rfl d kk
theorem p_Mc_jobCount (C : Cw g own cc nL h l E) (hm : m < 2) {idx : Nat} {x : Int} (hl : Cond.fieldLink own idx "GreatMachine$Machine" "jobCount" "I" ∈ lw_w) (d : decode cc pc = .ok (.putfield idx, 3)) (kk : g (sm S0 m (tu t 2 0 x)) (pc + 3) L st) : g (sm S0 m t) pc L (iv x :: rf E (kMc m) :: st) := gPut C (ci := 3) (tyf := ty_Mc) (ty := .int) rfl inw_Mc tok_Mc nm_Mc (kMc_lt hm) (zMc hm) 6 (by decide) hl rfl (by decide +kernel) rfl rfl (by simp [oMc]) (by rw [(zMc hm), sm_eq, sm_eq]; simp [oMc, tu]) (zM_ne hm (mx_Mc (by decide))) d kk
theorem g_Mc_holdCount (C : Cw g own cc nL h l E) (hm : m < 2) {idx : Nat} (hl : Cond.fieldLink own idx "GreatMachine$Machine" "holdCount" "I" ∈ lw_w) (d : decode cc pc = .ok (.getfield idx, 3)) (kk : g (sm S0 m t) (pc + 3) L (iv (t 3 0) :: st)) : g (sm S0 m t) pc L (rf E (kMc m) :: st) := gGet C (ci := 3) rfl inw_Mc (kMc_lt hm) (zMc hm) 7 (by decide) hl (by rw [sm_eq]; rfl) d kk
theorem gw_Mc_holdCount (C : Cw g own cc nL h l E) (hm : m < 2) {idx : Nat} (hl : Cond.fieldLink own idx "GreatMachine$Machine" "holdCount" "I" ∈ lw_w) (d : decode cc pc = .ok (.getfield idx, 3)) (kk : g S (pc + 3) L (iv (S m 3 0) :: st)) : g S pc L (rf E (kMc m) :: st) := gGet C (ci := 3) rfl inw_Mc (kMc_lt hm) (zMc hm) 7 (by decide) hl rfl d kk
theorem p_Mc_holdCount (C : Cw g own cc nL h l E) (hm : m < 2) {idx : Nat} {x : Int} (hl : Cond.fieldLink own idx "GreatMachine$Machine" "holdCount" "I" ∈ lw_w) (d : decode cc pc = .ok (.putfield idx, 3)) (kk : g (sm S0 m (tu t 3 0 x)) (pc + 3) L st) : g (sm S0 m t) pc L (iv x :: rf E (kMc m) :: st) := gPut C (ci := 3) (tyf := ty_Mc) (ty := .int) rfl inw_Mc tok_Mc nm_Mc (kMc_lt hm) (zMc hm) 7 (by decide) hl rfl (by decide +kernel) rfl rfl (by simp [oMc]) (by rw [(zMc hm), sm_eq, sm_eq]; simp [oMc, tu]) (zM_ne hm (mx_Mc (by decide))) d kk
theorem g_Mc_now (C : Cw g own cc nL h l E) (hm : m < 2) {idx : Nat} (hl : Cond.fieldLink own idx "GreatMachine$Machine" "now" "I" ∈ lw_w) (d : decode cc pc = .ok (.getfield idx, 3)) (kk : g (sm S0 m t) (pc + 3) L (iv (t 4 0) :: st)) : g (sm S0 m t) pc L (rf E (kMc m) :: st) := gGet C (ci := 3) rfl inw_Mc (kMc_lt hm) (zMc hm) 8 (by decide) hl (by rw [sm_eq]; rfl) d kk
theorem gw_Mc_now (C : Cw g own cc nL h l E) (hm : m < 2) {idx : Nat} (hl : Cond.fieldLink own idx "GreatMachine$Machine" "now" "I" ∈ lw_w) (d : decode cc pc = .ok (.getfield idx, 3)) (kk : g S (pc + 3) L (iv (S m 4 0) :: st)) : g S pc L (rf E (kMc m) :: st) := gGet C (ci := 3) rfl inw_Mc (kMc_lt hm) (zMc hm) 8 (by decide) hl rfl d kk
theorem p_Mc_now (C : Cw g own cc nL h l E) (hm : m < 2) {idx : Nat} {x : Int} (hl : Cond.fieldLink own idx "GreatMachine$Machine" "now" "I" ∈ lw_w) (d : decode cc pc = .ok (.putfield idx, 3)) (kk : g (sm S0 m (tu t 4 0 x)) (pc + 3) L st) : g (sm S0 m t) pc L (iv x :: rf E (kMc m) :: st) := gPut C (ci := 3) (tyf := ty_Mc) (ty := .int) rfl inw_Mc tok_Mc nm_Mc (kMc_lt hm) (zMc hm) 8 (by decide) hl rfl (by decide +kernel) rfl rfl (by simp [oMc]) (by rw [(zMc hm), sm_eq, sm_eq]; simp [oMc, tu]) (zM_ne hm (mx_Mc (by decide))) d kk
theorem g_Mc_halving (C : Cw g own cc nL h l E) (hm : m < 2) {idx : Nat} (hl : Cond.fieldLink own idx "GreatMachine$Machine" "halving" "I" ∈ lw_w) (d : decode cc pc = .ok (.getfield idx, 3)) (kk : g (sm S0 m t) (pc + 3) L (iv (t 5 0) :: st)) : g (sm S0 m t) pc L (rf E (kMc m) :: st) := gGet C (ci := 3) rfl inw_Mc (kMc_lt hm) (zMc hm) 9 (by decide) hl (by rw [sm_eq]; rfl) d kk
theorem gw_Mc_halving (C : Cw g own cc nL h l E) (hm : m < 2) {idx : Nat} (hl : Cond.fieldLink own idx "GreatMachine$Machine" "halving" "I" ∈ lw_w) (d : decode cc pc = .ok (.getfield idx, 3)) (kk : g S (pc + 3) L (iv (S m 5 0) :: st)) : g S pc L (rf E (kMc m) :: st) := gGet C (ci := 3) rfl inw_Mc (kMc_lt hm) (zMc hm) 9 (by decide) hl rfl d kk
theorem p_Mc_halving (C : Cw g own cc nL h l E) (hm : m < 2) {idx : Nat} {x : Int} (hl : Cond.fieldLink own idx "GreatMachine$Machine" "halving" "I" ∈ lw_w) (d : decode cc pc = .ok (.putfield idx, 3)) (kk : g (sm S0 m (tu t 5 0 x)) (pc + 3) L st) : g (sm S0 m t) pc L (iv x :: rf E (kMc m) :: st) := gPut C (ci := 3) (tyf := ty_Mc) (ty := .int) rfl inw_Mc tok_Mc nm_Mc (kMc_lt hm) (zMc hm) 9 (by decide) hl rfl (by decide +kernel) rfl rfl (by simp [oMc]) (by rw [(zMc hm), sm_eq, sm_eq]; simp [oMc, tu]) (zM_ne hm (mx_Mc (by decide))) d kk
theorem g_Mc_licencesInAll (C : Cw g own cc nL h l E) (hm : m < 2) {idx : Nat} (hl : Cond.fieldLink own idx "GreatMachine$Machine" "licencesInAll" "I" ∈ lw_w) (d : decode cc pc = .ok (.getfield idx, 3)) (kk : g (sm S0 m t) (pc + 3) L (iv (t 6 0) :: st)) : g (sm S0 m t) pc L (rf E (kMc m) :: st) := gGet C (ci := 3) rfl inw_Mc (kMc_lt hm) (zMc hm) 10 (by decide) hl (by rw [sm_eq]; rfl) d kk
theorem gw_Mc_licencesInAll (C : Cw g own cc nL h l E) (hm : m < 2) {idx : Nat} (hl : Cond.fieldLink own idx "GreatMachine$Machine" "licencesInAll" "I" ∈ lw_w) (d : decode cc pc = .ok (.getfield idx, 3)) (kk : g S (pc + 3) L (iv (S m 6 0) :: st)) : g S pc L (rf E (kMc m) :: st) := gGet C (ci := 3) rfl inw_Mc (kMc_lt hm) (zMc hm) 10 (by decide) hl rfl d kk
theorem p_Mc_licencesInAll (C : Cw g own cc nL h l E) (hm : m < 2) {idx : Nat} {x : Int} (hl : Cond.fieldLink own idx "GreatMachine$Machine" "licencesInAll" "I" ∈ lw_w) (d : decode cc pc = .ok (.putfield idx, 3)) (kk : g (sm S0 m (tu t 6 0 x)) (pc + 3) L st) : g (sm S0 m t) pc L (iv x :: rf E (kMc m) :: st) := gPut C (ci := 3) (tyf := ty_Mc) (ty := .int) rfl inw_Mc tok_Mc nm_Mc (kMc_lt hm) (zMc hm) 10 (by decide) hl rfl (by decide +kernel) rfl rfl (by simp [oMc]) (by rw [(zMc hm), sm_eq, sm_eq]; simp [oMc, tu]) (zM_ne hm (mx_Mc (by decide))) d kk
theorem g_Mc_room (C : Cw g own cc nL h l E) (hm : m < 2) {idx : Nat} (hl : Cond.fieldLink own idx "GreatMachine$Machine" "room" "I" ∈ lw_w) (d : decode cc pc = .ok (.getfield idx, 3)) (kk : g (sm S0 m t) (pc + 3) L (iv (t 7 0) :: st)) : g (sm S0 m t) pc L (rf E (kMc m) :: st) := gGet C (ci := 3) rfl inw_Mc (kMc_lt hm) (zMc hm) 11 (by decide) hl (by rw [sm_eq]; rfl) d kk
theorem gw_Mc_room (C : Cw g own cc nL h l E) (hm : m < 2) {idx : Nat} (hl : Cond.fieldLink own idx "GreatMachine$Machine" "room" "I" ∈ lw_w) (d : decode cc pc = .ok (.getfield idx, 3)) (kk : g S (pc + 3) L (iv (S m 7 0) :: st)) : g S pc L (rf E (kMc m) :: st) := gGet C (ci := 3) rfl inw_Mc (kMc_lt hm) (zMc hm) 11 (by decide) hl rfl d kk
theorem p_Mc_room (C : Cw g own cc nL h l E) (hm : m < 2) {idx : Nat} {x : Int} (hl : Cond.fieldLink own idx "GreatMachine$Machine" "room" "I" ∈ lw_w) (d : decode cc pc = .ok (.putfield idx, 3)) (kk : g (sm S0 m (tu t 7 0 x)) (pc + 3) L st) : g (sm S0 m t) pc L (iv x :: rf E (kMc m) :: st) := gPut C (ci := 3) (tyf := ty_Mc) (ty := .int) rfl inw_Mc tok_Mc nm_Mc (kMc_lt hm) (zMc hm) 11 (by decide) hl rfl (by decide +kernel) rfl rfl (by simp [oMc]) (by rw [(zMc hm), sm_eq, sm_eq]; simp [oMc, tu]) (zM_ne hm (mx_Mc (by decide))) d kk
theorem g_Mc_blockedJob (C : Cw g own cc nL h l E) (hm : m < 2) {idx : Nat} (hl : Cond.fieldLink own idx "GreatMachine$Machine" "blockedJob" "I" ∈ lw_w) (d : decode cc pc = .ok (.getfield idx, 3)) (kk : g (sm S0 m t) (pc + 3) L (iv (t 8 0) :: st)) : g (sm S0 m t) pc L (rf E (kMc m) :: st) := gGet C (ci := 3) rfl inw_Mc (kMc_lt hm) (zMc hm) 12 (by decide) hl (by rw [sm_eq]; rfl) d kk
theorem gw_Mc_blockedJob (C : Cw g own cc nL h l E) (hm : m < 2) {idx : Nat} (hl : Cond.fieldLink own idx "GreatMachine$Machine" "blockedJob" "I" ∈ lw_w) (d : decode cc pc = .ok (.getfield idx, 3)) (kk : g S (pc + 3) L (iv (S m 8 0) :: st)) : g S pc L (rf E (kMc m) :: st) := gGet C (ci := 3) rfl inw_Mc (kMc_lt hm) (zMc hm) 12 (by decide) hl rfl d kk
theorem p_Mc_blockedJob (C : Cw g own cc nL h l E) (hm : m < 2) {idx : Nat} {x : Int} (hl : Cond.fieldLink own idx "GreatMachine$Machine" "blockedJob" "I" ∈ lw_w) (d : decode cc pc = .ok (.putfield idx, 3)) (kk : g (sm S0 m (tu t 8 0 x)) (pc + 3) L st) : g (sm S0 m t) pc L (iv x :: rf E (kMc m) :: st) := gPut C (ci := 3) (tyf := ty_Mc) (ty := .int) rfl inw_Mc tok_Mc nm_Mc (kMc_lt hm) (zMc hm) 12 (by decide) hl rfl (by decide +kernel) rfl rfl (by simp [oMc]) (by rw [(zMc hm), sm_eq, sm_eq]; simp [oMc, tu]) (zM_ne hm (mx_Mc (by decide))) d kk
theorem g_Mc_keptFrom (C : Cw g own cc nL h l E) (hm : m < 2) {idx : Nat} (hl : Cond.fieldLink own idx "GreatMachine$Machine" "keptFrom" "I" ∈ lw_w) (d : decode cc pc = .ok (.getfield idx, 3)) (kk : g (sm S0 m t) (pc + 3) L (iv (t 9 0) :: st)) : g (sm S0 m t) pc L (rf E (kMc m) :: st) := gGet C (ci := 3) rfl inw_Mc (kMc_lt hm) (zMc hm) 13 (by decide) hl (by rw [sm_eq]; rfl) d kk
theorem gw_Mc_keptFrom (C : Cw g own cc nL h l E) (hm : m < 2) {idx : Nat} (hl : Cond.fieldLink own idx "GreatMachine$Machine" "keptFrom" "I" ∈ lw_w) (d : decode cc pc = .ok (.getfield idx, 3)) (kk : g S (pc + 3) L (iv (S m 9 0) :: st)) : g S pc L (rf E (kMc m) :: st) := gGet C (ci := 3) rfl inw_Mc (kMc_lt hm) (zMc hm) 13 (by decide) hl rfl d kk
theorem p_Mc_keptFrom (C : Cw g own cc nL h l E) (hm : m < 2) {idx : Nat} {x : Int} (hl : Cond.fieldLink own idx "GreatMachine$Machine" "keptFrom" "I" ∈ lw_w) (d : decode cc pc = .ok (.putfield idx, 3)) (kk : g (sm S0 m (tu t 9 0 x)) (pc + 3) L st) : g (sm S0 m t) pc L (iv x :: rf E (kMc m) :: st) := gPut C (ci := 3) (tyf := ty_Mc) (ty := .int) rfl inw_Mc tok_Mc nm_Mc (kMc_lt hm) (zMc hm) 13 (by decide) hl rfl (by decide +kernel) rfl rfl (by simp [oMc]) (by rw [(zMc hm), sm_eq, sm_eq]; simp [oMc, tu]) (zM_ne hm (mx_Mc (by decide))) d kk
theorem g_Mc_queue (C : Cw g own cc nL h l E) (hm : m < 2) {idx : Nat} (hl : Cond.fieldLink own idx "GreatMachine$Machine" "queue" "[I" ∈ lw_w) (d : decode cc pc = .ok (.getfield idx, 3)) (kk : g S (pc + 3) L (rf E (kQu m) :: st)) : g S pc L (rf E (kMc m) :: st) := gGet C (ci := 3) rfl inw_Mc (kMc_lt hm) (zMc hm) 14 (by decide) hl rfl d kk
theorem g_Mc_queueLength (C : Cw g own cc nL h l E) (hm : m < 2) {idx : Nat} (hl : Cond.fieldLink own idx "GreatMachine$Machine" "queueLength" "I" ∈ lw_w) (d : decode cc pc = .ok (.getfield idx, 3)) (kk : g (sm S0 m t) (pc + 3) L (iv (t 10 0) :: st)) : g (sm S0 m t) pc L (rf E (kMc m) :: st) := gGet C (ci := 3) rfl inw_Mc (kMc_lt hm) (zMc hm) 15 (by decide) hl (by rw [sm_eq]; rfl) d kk
theorem gw_Mc_queueLength (C : Cw g own cc nL h l E) (hm : m < 2) {idx : Nat} (hl : Cond.fieldLink own idx "GreatMachine$Machine" "queueLength" "I" ∈ lw_w) (d : decode cc pc = .ok (.getfield idx, 3)) (kk : g S (pc + 3) L (iv (S m 10 0) :: st)) : g S pc L (rf E (kMc m) :: st) := gGet C (ci := 3) rfl inw_Mc (kMc_lt hm) (zMc hm) 15 (by decide) hl rfl d kk
theorem p_Mc_queueLength (C : Cw g own cc nL h l E) (hm : m < 2) {idx : Nat} {x : Int} (hl : Cond.fieldLink own idx "GreatMachine$Machine" "queueLength" "I" ∈ lw_w) (d : decode cc pc = .ok (.putfield idx, 3)) (kk : g (sm S0 m (tu t 10 0 x)) (pc + 3) L st) : g (sm S0 m t) pc L (iv x :: rf E (kMc m) :: st) := gPut C (ci := 3) (tyf := ty_Mc) (ty := .int) rfl inw_Mc tok_Mc nm_Mc (kMc_lt hm) (zMc hm) 15 (by decide) hl rfl (by decide +kernel) rfl rfl (by simp [oMc]) (by rw [(zMc hm), sm_eq, sm_eq]; simp [oMc, tu]) (zM_ne hm (mx_Mc (by decide))) d kk
theorem g_Rk_nodes (C : Cw g own cc nL h l E) (hm : m < 2) {i : Nat} (hi : i < 4) {idx : Nat} (hl : Cond.fieldLink own idx "GreatMachine$Rack" "nodes" "I" ∈ lw_w) (d : decode cc pc = .ok (.getfield idx, 3)) (kk : g (sm S0 m t) (pc + 3) L (iv (t 12 i) :: st)) : g (sm S0 m t) pc L (rf E (kRk m i) :: st) := gGet C (ci := 4) rfl inw_Rk (kRk_lt hm hi) (zRk hm hi) 0 (by decide) hl (by rw [sm_eq]; rfl) d kk
theorem gw_Rk_nodes (C : Cw g own cc nL h l E) (hm : m < 2) {i : Nat} (hi : i < 4) {idx : Nat} (hl : Cond.fieldLink own idx "GreatMachine$Rack" "nodes" "I" ∈ lw_w) (d : decode cc pc = .ok (.getfield idx, 3)) (kk : g S (pc + 3) L (iv (S m 12 i) :: st)) : g S pc L (rf E (kRk m i) :: st) := gGet C (ci := 4) rfl inw_Rk (kRk_lt hm hi) (zRk hm hi) 0 (by decide) hl rfl d kk
theorem p_Rk_nodes (C : Cw g own cc nL h l E) (hm : m < 2) {i : Nat} (hi : i < 4) {idx : Nat} {x : Int} (hl : Cond.fieldLink own idx "GreatMachine$Rack" "nodes" "I" ∈ lw_w) (d : decode cc pc = .ok (.putfield idx, 3)) (kk : g (sm S0 m (tu t 12 i x)) (pc + 3) L st) : g (sm S0 m t) pc L (iv x :: rf E (kRk m i) :: st) := gPut C (ci := 4) (tyf := ty_Rk) (ty := .int) rfl inw_Rk tok_Rk nm_Rk (kRk_lt hm hi) (zRk hm hi) 0 (by decide) hl rfl (by decide +kernel) rfl rfl (by simp [oRk]) (by rw [(zRk hm hi), sm_eq, sm_eq]; simp [oRk, tu]) (zM_ne hm (mx_Rk (by decide) (by decide) hi)) d kk
theorem g_Rk_unused (C : Cw g own cc nL h l E) (hm : m < 2) {i : Nat} (hi : i < 4) {idx : Nat} (hl : Cond.fieldLink own idx "GreatMachine$Rack" "unused" "I" ∈ lw_w) (d : decode cc pc = .ok (.getfield idx, 3)) (kk : g (sm S0 m t) (pc + 3) L (iv (t 13 i) :: st)) : g (sm S0 m t) pc L (rf E (kRk m i) :: st) := gGet C (ci := 4) rfl inw_Rk (kRk_lt hm hi) (zRk hm hi) 1 (by decide) hl (by rw [sm_eq]; rfl) d kk
theorem gw_Rk_unused (C : Cw g own cc nL h l E) (hm : m < 2) {i : Nat} (hi : i < 4) {idx : Nat} (hl : Cond.fieldLink own idx "GreatMachine$Rack" "unused" "I" ∈ lw_w) (d : decode cc pc = .ok (.getfield idx, 3)) (kk : g S (pc + 3) L (iv (S m 13 i) :: st)) : g S pc L (rf E (kRk m i) :: st) := gGet C (ci := 4) rfl inw_Rk (kRk_lt hm hi) (zRk hm hi) 1 (by decide) hl rfl d kk
theorem p_Rk_unused (C : Cw g own cc nL h l E) (hm : m < 2) {i : Nat} (hi : i < 4) {idx : Nat} {x : Int} (hl : Cond.fieldLink own idx "GreatMachine$Rack" "unused" "I" ∈ lw_w) (d : decode cc pc = .ok (.putfield idx, 3)) (kk : g (sm S0 m (tu t 13 i x)) (pc + 3) L st) : g (sm S0 m t) pc L (iv x :: rf E (kRk m i) :: st) := gPut C (ci := 4) (tyf := ty_Rk) (ty := .int) rfl inw_Rk tok_Rk nm_Rk (kRk_lt hm hi) (zRk hm hi) 1 (by decide) hl rfl (by decide +kernel) rfl rfl (by simp [oRk]) (by rw [(zRk hm hi), sm_eq, sm_eq]; simp [oRk, tu]) (zM_ne hm (mx_Rk (by decide) (by decide) hi)) d kk
theorem g_Rk_drained (C : Cw g own cc nL h l E) (hm : m < 2) {i : Nat} (hi : i < 4) {idx : Nat} (hl : Cond.fieldLink own idx "GreatMachine$Rack" "drained" "Z" ∈ lw_w) (d : decode cc pc = .ok (.getfield idx, 3)) (kk : g (sm S0 m t) (pc + 3) L (iv (t 14 i) :: st)) : g (sm S0 m t) pc L (rf E (kRk m i) :: st) := gGet C (ci := 4) rfl inw_Rk (kRk_lt hm hi) (zRk hm hi) 2 (by decide) hl (by rw [sm_eq]; rfl) d kk
theorem gw_Rk_drained (C : Cw g own cc nL h l E) (hm : m < 2) {i : Nat} (hi : i < 4) {idx : Nat} (hl : Cond.fieldLink own idx "GreatMachine$Rack" "drained" "Z" ∈ lw_w) (d : decode cc pc = .ok (.getfield idx, 3)) (kk : g S (pc + 3) L (iv (S m 14 i) :: st)) : g S pc L (rf E (kRk m i) :: st) := gGet C (ci := 4) rfl inw_Rk (kRk_lt hm hi) (zRk hm hi) 2 (by decide) hl rfl d kk
theorem p_Rk_drained (C : Cw g own cc nL h l E) (hm : m < 2) {i : Nat} (hi : i < 4) {idx : Nat} {x : Int} (hv : x = 0 ∨ x = 1) (hl : Cond.fieldLink own idx "GreatMachine$Rack" "drained" "Z" ∈ lw_w) (d : decode cc pc = .ok (.putfield idx, 3)) (kk : g (sm S0 m (tu t 14 i x)) (pc + 3) L st) : g (sm S0 m t) pc L (iv x :: rf E (kRk m i) :: st) := gPut C (ci := 4) (tyf := ty_Rk) (ty := .boolean) rfl inw_Rk tok_Rk nm_Rk (kRk_lt hm hi) (zRk hm hi) 2 (by decide) hl rfl (by decide +kernel) (by rcases hv with rfl | rfl <;> rfl) (by rcases hv with rfl | rfl <;> rfl) (by simp [oRk]) (by rw [(zRk hm hi), sm_eq, sm_eq]; simp [oRk, tu]) (zM_ne hm (mx_Rk (by decide) (by decide) hi)) d kk
theorem g_Ac_shares (C : Cw g own cc nL h l E) (hm : m < 2) {i : Nat} (hi : i < 6) {idx : Nat} (hl : Cond.fieldLink own idx "GreatMachine$Account" "shares" "I" ∈ lw_w) (d : decode cc pc = .ok (.getfield idx, 3)) (kk : g (sm S0 m t) (pc + 3) L (iv (t 15 i) :: st)) : g (sm S0 m t) pc L (rf E (kAc m i) :: st) := gGet C (ci := 0) rfl inw_Ac (kAc_lt hm hi) (zAc hm hi) 0 (by decide) hl (by rw [sm_eq]; rfl) d kk
theorem gw_Ac_shares (C : Cw g own cc nL h l E) (hm : m < 2) {i : Nat} (hi : i < 6) {idx : Nat} (hl : Cond.fieldLink own idx "GreatMachine$Account" "shares" "I" ∈ lw_w) (d : decode cc pc = .ok (.getfield idx, 3)) (kk : g S (pc + 3) L (iv (S m 15 i) :: st)) : g S pc L (rf E (kAc m i) :: st) := gGet C (ci := 0) rfl inw_Ac (kAc_lt hm hi) (zAc hm hi) 0 (by decide) hl rfl d kk
theorem p_Ac_shares (C : Cw g own cc nL h l E) (hm : m < 2) {i : Nat} (hi : i < 6) {idx : Nat} {x : Int} (hl : Cond.fieldLink own idx "GreatMachine$Account" "shares" "I" ∈ lw_w) (d : decode cc pc = .ok (.putfield idx, 3)) (kk : g (sm S0 m (tu t 15 i x)) (pc + 3) L st) : g (sm S0 m t) pc L (iv x :: rf E (kAc m i) :: st) := gPut C (ci := 0) (tyf := ty_Ac) (ty := .int) rfl inw_Ac tok_Ac nm_Ac (kAc_lt hm hi) (zAc hm hi) 0 (by decide) hl rfl (by decide +kernel) rfl rfl (by simp [oAc]) (by rw [(zAc hm hi), sm_eq, sm_eq]; simp [oAc, tu]) (zM_ne hm (mx_Ac (by decide) (by decide) hi)) d kk
theorem g_Ac_use (C : Cw g own cc nL h l E) (hm : m < 2) {i : Nat} (hi : i < 6) {idx : Nat} (hl : Cond.fieldLink own idx "GreatMachine$Account" "use" "I" ∈ lw_w) (d : decode cc pc = .ok (.getfield idx, 3)) (kk : g (sm S0 m t) (pc + 3) L (iv (t 16 i) :: st)) : g (sm S0 m t) pc L (rf E (kAc m i) :: st) := gGet C (ci := 0) rfl inw_Ac (kAc_lt hm hi) (zAc hm hi) 1 (by decide) hl (by rw [sm_eq]; rfl) d kk
theorem gw_Ac_use (C : Cw g own cc nL h l E) (hm : m < 2) {i : Nat} (hi : i < 6) {idx : Nat} (hl : Cond.fieldLink own idx "GreatMachine$Account" "use" "I" ∈ lw_w) (d : decode cc pc = .ok (.getfield idx, 3)) (kk : g S (pc + 3) L (iv (S m 16 i) :: st)) : g S pc L (rf E (kAc m i) :: st) := gGet C (ci := 0) rfl inw_Ac (kAc_lt hm hi) (zAc hm hi) 1 (by decide) hl rfl d kk
theorem p_Ac_use (C : Cw g own cc nL h l E) (hm : m < 2) {i : Nat} (hi : i < 6) {idx : Nat} {x : Int} (hl : Cond.fieldLink own idx "GreatMachine$Account" "use" "I" ∈ lw_w) (d : decode cc pc = .ok (.putfield idx, 3)) (kk : g (sm S0 m (tu t 16 i x)) (pc + 3) L st) : g (sm S0 m t) pc L (iv x :: rf E (kAc m i) :: st) := gPut C (ci := 0) (tyf := ty_Ac) (ty := .int) rfl inw_Ac tok_Ac nm_Ac (kAc_lt hm hi) (zAc hm hi) 1 (by decide) hl rfl (by decide +kernel) rfl rfl (by simp [oAc]) (by rw [(zAc hm hi), sm_eq, sm_eq]; simp [oAc, tu]) (zM_ne hm (mx_Ac (by decide) (by decide) hi)) d kk
theorem g_Jb_account (C : Cw g own cc nL h l E) (hm : m < 2) {i : Nat} (hi : i < 30) {idx : Nat} (hl : Cond.fieldLink own idx "GreatMachine$Job" "account" "I" ∈ lw_w) (d : decode cc pc = .ok (.getfield idx, 3)) (kk : g (sm S0 m t) (pc + 3) L (iv (t 17 i) :: st)) : g (sm S0 m t) pc L (rf E (kJb m i) :: st) := gGet C (ci := 2) rfl inw_Jb (kJb_lt hm hi) (zJb hm hi) 0 (by decide) hl (by rw [sm_eq]; rfl) d kk
theorem gw_Jb_account (C : Cw g own cc nL h l E) (hm : m < 2) {i : Nat} (hi : i < 30) {idx : Nat} (hl : Cond.fieldLink own idx "GreatMachine$Job" "account" "I" ∈ lw_w) (d : decode cc pc = .ok (.getfield idx, 3)) (kk : g S (pc + 3) L (iv (S m 17 i) :: st)) : g S pc L (rf E (kJb m i) :: st) := gGet C (ci := 2) rfl inw_Jb (kJb_lt hm hi) (zJb hm hi) 0 (by decide) hl rfl d kk
theorem p_Jb_account (C : Cw g own cc nL h l E) (hm : m < 2) {i : Nat} (hi : i < 30) {idx : Nat} {x : Int} (hl : Cond.fieldLink own idx "GreatMachine$Job" "account" "I" ∈ lw_w) (d : decode cc pc = .ok (.putfield idx, 3)) (kk : g (sm S0 m (tu t 17 i x)) (pc + 3) L st) : g (sm S0 m t) pc L (iv x :: rf E (kJb m i) :: st) := gPut C (ci := 2) (tyf := ty_Jb) (ty := .int) rfl inw_Jb tok_Jb nm_Jb (kJb_lt hm hi) (zJb hm hi) 0 (by decide) hl rfl (by decide +kernel) rfl rfl (by simp [oJb]) (by rw [(zJb hm hi), sm_eq, sm_eq]; simp [oJb, tu]) (zM_ne hm (mx_Jb (by decide) (by decide) hi)) d kk
theorem g_Jb_nodes (C : Cw g own cc nL h l E) (hm : m < 2) {i : Nat} (hi : i < 30) {idx : Nat} (hl : Cond.fieldLink own idx "GreatMachine$Job" "nodes" "I" ∈ lw_w) (d : decode cc pc = .ok (.getfield idx, 3)) (kk : g (sm S0 m t) (pc + 3) L (iv (t 18 i) :: st)) : g (sm S0 m t) pc L (rf E (kJb m i) :: st) := gGet C (ci := 2) rfl inw_Jb (kJb_lt hm hi) (zJb hm hi) 1 (by decide) hl (by rw [sm_eq]; rfl) d kk
theorem gw_Jb_nodes (C : Cw g own cc nL h l E) (hm : m < 2) {i : Nat} (hi : i < 30) {idx : Nat} (hl : Cond.fieldLink own idx "GreatMachine$Job" "nodes" "I" ∈ lw_w) (d : decode cc pc = .ok (.getfield idx, 3)) (kk : g S (pc + 3) L (iv (S m 18 i) :: st)) : g S pc L (rf E (kJb m i) :: st) := gGet C (ci := 2) rfl inw_Jb (kJb_lt hm hi) (zJb hm hi) 1 (by decide) hl rfl d kk
theorem p_Jb_nodes (C : Cw g own cc nL h l E) (hm : m < 2) {i : Nat} (hi : i < 30) {idx : Nat} {x : Int} (hl : Cond.fieldLink own idx "GreatMachine$Job" "nodes" "I" ∈ lw_w) (d : decode cc pc = .ok (.putfield idx, 3)) (kk : g (sm S0 m (tu t 18 i x)) (pc + 3) L st) : g (sm S0 m t) pc L (iv x :: rf E (kJb m i) :: st) := gPut C (ci := 2) (tyf := ty_Jb) (ty := .int) rfl inw_Jb tok_Jb nm_Jb (kJb_lt hm hi) (zJb hm hi) 1 (by decide) hl rfl (by decide +kernel) rfl rfl (by simp [oJb]) (by rw [(zJb hm hi), sm_eq, sm_eq]; simp [oJb, tu]) (zM_ne hm (mx_Jb (by decide) (by decide) hi)) d kk
theorem g_Jb_licences (C : Cw g own cc nL h l E) (hm : m < 2) {i : Nat} (hi : i < 30) {idx : Nat} (hl : Cond.fieldLink own idx "GreatMachine$Job" "licences" "I" ∈ lw_w) (d : decode cc pc = .ok (.getfield idx, 3)) (kk : g (sm S0 m t) (pc + 3) L (iv (t 19 i) :: st)) : g (sm S0 m t) pc L (rf E (kJb m i) :: st) := gGet C (ci := 2) rfl inw_Jb (kJb_lt hm hi) (zJb hm hi) 2 (by decide) hl (by rw [sm_eq]; rfl) d kk
theorem gw_Jb_licences (C : Cw g own cc nL h l E) (hm : m < 2) {i : Nat} (hi : i < 30) {idx : Nat} (hl : Cond.fieldLink own idx "GreatMachine$Job" "licences" "I" ∈ lw_w) (d : decode cc pc = .ok (.getfield idx, 3)) (kk : g S (pc + 3) L (iv (S m 19 i) :: st)) : g S pc L (rf E (kJb m i) :: st) := gGet C (ci := 2) rfl inw_Jb (kJb_lt hm hi) (zJb hm hi) 2 (by decide) hl rfl d kk
theorem p_Jb_licences (C : Cw g own cc nL h l E) (hm : m < 2) {i : Nat} (hi : i < 30) {idx : Nat} {x : Int} (hl : Cond.fieldLink own idx "GreatMachine$Job" "licences" "I" ∈ lw_w) (d : decode cc pc = .ok (.putfield idx, 3)) (kk : g (sm S0 m (tu t 19 i x)) (pc + 3) L st) : g (sm S0 m t) pc L (iv x :: rf E (kJb m i) :: st) := gPut C (ci := 2) (tyf := ty_Jb) (ty := .int) rfl inw_Jb tok_Jb nm_Jb (kJb_lt hm hi) (zJb hm hi) 2 (by decide) hl rfl (by decide +kernel) rfl rfl (by simp [oJb]) (by rw [(zJb hm hi), sm_eq, sm_eq]; simp [oJb, tu]) (zM_ne hm (mx_Jb (by decide) (by decide) hi)) d kk
theorem g_Jb_limit (C : Cw g own cc nL h l E) (hm : m < 2) {i : Nat} (hi : i < 30) {idx : Nat} (hl : Cond.fieldLink own idx "GreatMachine$Job" "limit" "I" ∈ lw_w) (d : decode cc pc = .ok (.getfield idx, 3)) (kk : g (sm S0 m t) (pc + 3) L (iv (t 20 i) :: st)) : g (sm S0 m t) pc L (rf E (kJb m i) :: st) := gGet C (ci := 2) rfl inw_Jb (kJb_lt hm hi) (zJb hm hi) 3 (by decide) hl (by rw [sm_eq]; rfl) d kk
theorem gw_Jb_limit (C : Cw g own cc nL h l E) (hm : m < 2) {i : Nat} (hi : i < 30) {idx : Nat} (hl : Cond.fieldLink own idx "GreatMachine$Job" "limit" "I" ∈ lw_w) (d : decode cc pc = .ok (.getfield idx, 3)) (kk : g S (pc + 3) L (iv (S m 20 i) :: st)) : g S pc L (rf E (kJb m i) :: st) := gGet C (ci := 2) rfl inw_Jb (kJb_lt hm hi) (zJb hm hi) 3 (by decide) hl rfl d kk
theorem p_Jb_limit (C : Cw g own cc nL h l E) (hm : m < 2) {i : Nat} (hi : i < 30) {idx : Nat} {x : Int} (hl : Cond.fieldLink own idx "GreatMachine$Job" "limit" "I" ∈ lw_w) (d : decode cc pc = .ok (.putfield idx, 3)) (kk : g (sm S0 m (tu t 20 i x)) (pc + 3) L st) : g (sm S0 m t) pc L (iv x :: rf E (kJb m i) :: st) := gPut C (ci := 2) (tyf := ty_Jb) (ty := .int) rfl inw_Jb tok_Jb nm_Jb (kJb_lt hm hi) (zJb hm hi) 3 (by decide) hl rfl (by decide +kernel) rfl rfl (by simp [oJb]) (by rw [(zJb hm hi), sm_eq, sm_eq]; simp [oJb, tu]) (zM_ne hm (mx_Jb (by decide) (by decide) hi)) d kk
theorem g_Jb_truly (C : Cw g own cc nL h l E) (hm : m < 2) {i : Nat} (hi : i < 30) {idx : Nat} (hl : Cond.fieldLink own idx "GreatMachine$Job" "truly" "I" ∈ lw_w) (d : decode cc pc = .ok (.getfield idx, 3)) (kk : g (sm S0 m t) (pc + 3) L (iv (t 21 i) :: st)) : g (sm S0 m t) pc L (rf E (kJb m i) :: st) := gGet C (ci := 2) rfl inw_Jb (kJb_lt hm hi) (zJb hm hi) 4 (by decide) hl (by rw [sm_eq]; rfl) d kk
theorem gw_Jb_truly (C : Cw g own cc nL h l E) (hm : m < 2) {i : Nat} (hi : i < 30) {idx : Nat} (hl : Cond.fieldLink own idx "GreatMachine$Job" "truly" "I" ∈ lw_w) (d : decode cc pc = .ok (.getfield idx, 3)) (kk : g S (pc + 3) L (iv (S m 21 i) :: st)) : g S pc L (rf E (kJb m i) :: st) := gGet C (ci := 2) rfl inw_Jb (kJb_lt hm hi) (zJb hm hi) 4 (by decide) hl rfl d kk
theorem p_Jb_truly (C : Cw g own cc nL h l E) (hm : m < 2) {i : Nat} (hi : i < 30) {idx : Nat} {x : Int} (hl : Cond.fieldLink own idx "GreatMachine$Job" "truly" "I" ∈ lw_w) (d : decode cc pc = .ok (.putfield idx, 3)) (kk : g (sm S0 m (tu t 21 i x)) (pc + 3) L st) : g (sm S0 m t) pc L (iv x :: rf E (kJb m i) :: st) := gPut C (ci := 2) (tyf := ty_Jb) (ty := .int) rfl inw_Jb tok_Jb nm_Jb (kJb_lt hm hi) (zJb hm hi) 4 (by decide) hl rfl (by decide +kernel) rfl rfl (by simp [oJb]) (by rw [(zJb hm hi), sm_eq, sm_eq]; simp [oJb, tu]) (zM_ne hm (mx_Jb (by decide) (by decide) hi)) d kk
theorem g_Jb_save (C : Cw g own cc nL h l E) (hm : m < 2) {i : Nat} (hi : i < 30) {idx : Nat} (hl : Cond.fieldLink own idx "GreatMachine$Job" "save" "I" ∈ lw_w) (d : decode cc pc = .ok (.getfield idx, 3)) (kk : g (sm S0 m t) (pc + 3) L (iv (t 22 i) :: st)) : g (sm S0 m t) pc L (rf E (kJb m i) :: st) := gGet C (ci := 2) rfl inw_Jb (kJb_lt hm hi) (zJb hm hi) 5 (by decide) hl (by rw [sm_eq]; rfl) d kk
theorem gw_Jb_save (C : Cw g own cc nL h l E) (hm : m < 2) {i : Nat} (hi : i < 30) {idx : Nat} (hl : Cond.fieldLink own idx "GreatMachine$Job" "save" "I" ∈ lw_w) (d : decode cc pc = .ok (.getfield idx, 3)) (kk : g S (pc + 3) L (iv (S m 22 i) :: st)) : g S pc L (rf E (kJb m i) :: st) := gGet C (ci := 2) rfl inw_Jb (kJb_lt hm hi) (zJb hm hi) 5 (by decide) hl rfl d kk
theorem p_Jb_save (C : Cw g own cc nL h l E) (hm : m < 2) {i : Nat} (hi : i < 30) {idx : Nat} {x : Int} (hl : Cond.fieldLink own idx "GreatMachine$Job" "save" "I" ∈ lw_w) (d : decode cc pc = .ok (.putfield idx, 3)) (kk : g (sm S0 m (tu t 22 i x)) (pc + 3) L st) : g (sm S0 m t) pc L (iv x :: rf E (kJb m i) :: st) := gPut C (ci := 2) (tyf := ty_Jb) (ty := .int) rfl inw_Jb tok_Jb nm_Jb (kJb_lt hm hi) (zJb hm hi) 5 (by decide) hl rfl (by decide +kernel) rfl rfl (by simp [oJb]) (by rw [(zJb hm hi), sm_eq, sm_eq]; simp [oJb, tu]) (zM_ne hm (mx_Jb (by decide) (by decide) hi)) d kk
theorem g_Jb_ahead (C : Cw g own cc nL h l E) (hm : m < 2) {i : Nat} (hi : i < 30) {idx : Nat} (hl : Cond.fieldLink own idx "GreatMachine$Job" "ahead" "I" ∈ lw_w) (d : decode cc pc = .ok (.getfield idx, 3)) (kk : g (sm S0 m t) (pc + 3) L (iv (t 23 i) :: st)) : g (sm S0 m t) pc L (rf E (kJb m i) :: st) := gGet C (ci := 2) rfl inw_Jb (kJb_lt hm hi) (zJb hm hi) 6 (by decide) hl (by rw [sm_eq]; rfl) d kk
theorem gw_Jb_ahead (C : Cw g own cc nL h l E) (hm : m < 2) {i : Nat} (hi : i < 30) {idx : Nat} (hl : Cond.fieldLink own idx "GreatMachine$Job" "ahead" "I" ∈ lw_w) (d : decode cc pc = .ok (.getfield idx, 3)) (kk : g S (pc + 3) L (iv (S m 23 i) :: st)) : g S pc L (rf E (kJb m i) :: st) := gGet C (ci := 2) rfl inw_Jb (kJb_lt hm hi) (zJb hm hi) 6 (by decide) hl rfl d kk
theorem p_Jb_ahead (C : Cw g own cc nL h l E) (hm : m < 2) {i : Nat} (hi : i < 30) {idx : Nat} {x : Int} (hl : Cond.fieldLink own idx "GreatMachine$Job" "ahead" "I" ∈ lw_w) (d : decode cc pc = .ok (.putfield idx, 3)) (kk : g (sm S0 m (tu t 23 i x)) (pc + 3) L st) : g (sm S0 m t) pc L (iv x :: rf E (kJb m i) :: st) := gPut C (ci := 2) (tyf := ty_Jb) (ty := .int) rfl inw_Jb tok_Jb nm_Jb (kJb_lt hm hi) (zJb hm hi) 6 (by decide) hl rfl (by decide +kernel) rfl rfl (by simp [oJb]) (by rw [(zJb hm hi), sm_eq, sm_eq]; simp [oJb, tu]) (zM_ne hm (mx_Jb (by decide) (by decide) hi)) d kk
theorem g_Jb_state (C : Cw g own cc nL h l E) (hm : m < 2) {i : Nat} (hi : i < 30) {idx : Nat} (hl : Cond.fieldLink own idx "GreatMachine$Job" "state" "I" ∈ lw_w) (d : decode cc pc = .ok (.getfield idx, 3)) (kk : g (sm S0 m t) (pc + 3) L (iv (t 24 i) :: st)) : g (sm S0 m t) pc L (rf E (kJb m i) :: st) := gGet C (ci := 2) rfl inw_Jb (kJb_lt hm hi) (zJb hm hi) 7 (by decide) hl (by rw [sm_eq]; rfl) d kk
theorem gw_Jb_state (C : Cw g own cc nL h l E) (hm : m < 2) {i : Nat} (hi : i < 30) {idx : Nat} (hl : Cond.fieldLink own idx "GreatMachine$Job" "state" "I" ∈ lw_w) (d : decode cc pc = .ok (.getfield idx, 3)) (kk : g S (pc + 3) L (iv (S m 24 i) :: st)) : g S pc L (rf E (kJb m i) :: st) := gGet C (ci := 2) rfl inw_Jb (kJb_lt hm hi) (zJb hm hi) 7 (by decide) hl rfl d kk
theorem p_Jb_state (C : Cw g own cc nL h l E) (hm : m < 2) {i : Nat} (hi : i < 30) {idx : Nat} {x : Int} (hl : Cond.fieldLink own idx "GreatMachine$Job" "state" "I" ∈ lw_w) (d : decode cc pc = .ok (.putfield idx, 3)) (kk : g (sm S0 m (tu t 24 i x)) (pc + 3) L st) : g (sm S0 m t) pc L (iv x :: rf E (kJb m i) :: st) := gPut C (ci := 2) (tyf := ty_Jb) (ty := .int) rfl inw_Jb tok_Jb nm_Jb (kJb_lt hm hi) (zJb hm hi) 7 (by decide) hl rfl (by decide +kernel) rfl rfl (by simp [oJb]) (by rw [(zJb hm hi), sm_eq, sm_eq]; simp [oJb, tu]) (zM_ne hm (mx_Jb (by decide) (by decide) hi)) d kk
theorem g_Jb_begun (C : Cw g own cc nL h l E) (hm : m < 2) {i : Nat} (hi : i < 30) {idx : Nat} (hl : Cond.fieldLink own idx "GreatMachine$Job" "begun" "I" ∈ lw_w) (d : decode cc pc = .ok (.getfield idx, 3)) (kk : g (sm S0 m t) (pc + 3) L (iv (t 25 i) :: st)) : g (sm S0 m t) pc L (rf E (kJb m i) :: st) := gGet C (ci := 2) rfl inw_Jb (kJb_lt hm hi) (zJb hm hi) 8 (by decide) hl (by rw [sm_eq]; rfl) d kk
theorem gw_Jb_begun (C : Cw g own cc nL h l E) (hm : m < 2) {i : Nat} (hi : i < 30) {idx : Nat} (hl : Cond.fieldLink own idx "GreatMachine$Job" "begun" "I" ∈ lw_w) (d : decode cc pc = .ok (.getfield idx, 3)) (kk : g S (pc + 3) L (iv (S m 25 i) :: st)) : g S pc L (rf E (kJb m i) :: st) := gGet C (ci := 2) rfl inw_Jb (kJb_lt hm hi) (zJb hm hi) 8 (by decide) hl rfl d kk
theorem p_Jb_begun (C : Cw g own cc nL h l E) (hm : m < 2) {i : Nat} (hi : i < 30) {idx : Nat} {x : Int} (hl : Cond.fieldLink own idx "GreatMachine$Job" "begun" "I" ∈ lw_w) (d : decode cc pc = .ok (.putfield idx, 3)) (kk : g (sm S0 m (tu t 25 i x)) (pc + 3) L st) : g (sm S0 m t) pc L (iv x :: rf E (kJb m i) :: st) := gPut C (ci := 2) (tyf := ty_Jb) (ty := .int) rfl inw_Jb tok_Jb nm_Jb (kJb_lt hm hi) (zJb hm hi) 8 (by decide) hl rfl (by decide +kernel) rfl rfl (by simp [oJb]) (by rw [(zJb hm hi), sm_eq, sm_eq]; simp [oJb, tu]) (zM_ne hm (mx_Jb (by decide) (by decide) hi)) d kk
theorem g_Jb_ended (C : Cw g own cc nL h l E) (hm : m < 2) {i : Nat} (hi : i < 30) {idx : Nat} (hl : Cond.fieldLink own idx "GreatMachine$Job" "ended" "I" ∈ lw_w) (d : decode cc pc = .ok (.getfield idx, 3)) (kk : g (sm S0 m t) (pc + 3) L (iv (t 26 i) :: st)) : g (sm S0 m t) pc L (rf E (kJb m i) :: st) := gGet C (ci := 2) rfl inw_Jb (kJb_lt hm hi) (zJb hm hi) 9 (by decide) hl (by rw [sm_eq]; rfl) d kk
theorem gw_Jb_ended (C : Cw g own cc nL h l E) (hm : m < 2) {i : Nat} (hi : i < 30) {idx : Nat} (hl : Cond.fieldLink own idx "GreatMachine$Job" "ended" "I" ∈ lw_w) (d : decode cc pc = .ok (.getfield idx, 3)) (kk : g S (pc + 3) L (iv (S m 26 i) :: st)) : g S pc L (rf E (kJb m i) :: st) := gGet C (ci := 2) rfl inw_Jb (kJb_lt hm hi) (zJb hm hi) 9 (by decide) hl rfl d kk
theorem p_Jb_ended (C : Cw g own cc nL h l E) (hm : m < 2) {i : Nat} (hi : i < 30) {idx : Nat} {x : Int} (hl : Cond.fieldLink own idx "GreatMachine$Job" "ended" "I" ∈ lw_w) (d : decode cc pc = .ok (.putfield idx, 3)) (kk : g (sm S0 m (tu t 26 i x)) (pc + 3) L st) : g (sm S0 m t) pc L (iv x :: rf E (kJb m i) :: st) := gPut C (ci := 2) (tyf := ty_Jb) (ty := .int) rfl inw_Jb tok_Jb nm_Jb (kJb_lt hm hi) (zJb hm hi) 9 (by decide) hl rfl (by decide +kernel) rfl rfl (by simp [oJb]) (by rw [(zJb hm hi), sm_eq, sm_eq]; simp [oJb, tu]) (zM_ne hm (mx_Jb (by decide) (by decide) hi)) d kk
theorem g_Jb_saved (C : Cw g own cc nL h l E) (hm : m < 2) {i : Nat} (hi : i < 30) {idx : Nat} (hl : Cond.fieldLink own idx "GreatMachine$Job" "saved" "I" ∈ lw_w) (d : decode cc pc = .ok (.getfield idx, 3)) (kk : g (sm S0 m t) (pc + 3) L (iv (t 27 i) :: st)) : g (sm S0 m t) pc L (rf E (kJb m i) :: st) := gGet C (ci := 2) rfl inw_Jb (kJb_lt hm hi) (zJb hm hi) 10 (by decide) hl (by rw [sm_eq]; rfl) d kk
theorem gw_Jb_saved (C : Cw g own cc nL h l E) (hm : m < 2) {i : Nat} (hi : i < 30) {idx : Nat} (hl : Cond.fieldLink own idx "GreatMachine$Job" "saved" "I" ∈ lw_w) (d : decode cc pc = .ok (.getfield idx, 3)) (kk : g S (pc + 3) L (iv (S m 27 i) :: st)) : g S pc L (rf E (kJb m i) :: st) := gGet C (ci := 2) rfl inw_Jb (kJb_lt hm hi) (zJb hm hi) 10 (by decide) hl rfl d kk
theorem p_Jb_saved (C : Cw g own cc nL h l E) (hm : m < 2) {i : Nat} (hi : i < 30) {idx : Nat} {x : Int} (hl : Cond.fieldLink own idx "GreatMachine$Job" "saved" "I" ∈ lw_w) (d : decode cc pc = .ok (.putfield idx, 3)) (kk : g (sm S0 m (tu t 27 i x)) (pc + 3) L st) : g (sm S0 m t) pc L (iv x :: rf E (kJb m i) :: st) := gPut C (ci := 2) (tyf := ty_Jb) (ty := .int) rfl inw_Jb tok_Jb nm_Jb (kJb_lt hm hi) (zJb hm hi) 10 (by decide) hl rfl (by decide +kernel) rfl rfl (by simp [oJb]) (by rw [(zJb hm hi), sm_eq, sm_eq]; simp [oJb, tu]) (zM_ne hm (mx_Jb (by decide) (by decide) hi)) d kk
theorem g_Jb_counted (C : Cw g own cc nL h l E) (hm : m < 2) {i : Nat} (hi : i < 30) {idx : Nat} (hl : Cond.fieldLink own idx "GreatMachine$Job" "counted" "I" ∈ lw_w) (d : decode cc pc = .ok (.getfield idx, 3)) (kk : g (sm S0 m t) (pc + 3) L (iv (t 28 i) :: st)) : g (sm S0 m t) pc L (rf E (kJb m i) :: st) := gGet C (ci := 2) rfl inw_Jb (kJb_lt hm hi) (zJb hm hi) 11 (by decide) hl (by rw [sm_eq]; rfl) d kk
theorem gw_Jb_counted (C : Cw g own cc nL h l E) (hm : m < 2) {i : Nat} (hi : i < 30) {idx : Nat} (hl : Cond.fieldLink own idx "GreatMachine$Job" "counted" "I" ∈ lw_w) (d : decode cc pc = .ok (.getfield idx, 3)) (kk : g S (pc + 3) L (iv (S m 28 i) :: st)) : g S pc L (rf E (kJb m i) :: st) := gGet C (ci := 2) rfl inw_Jb (kJb_lt hm hi) (zJb hm hi) 11 (by decide) hl rfl d kk
theorem p_Jb_counted (C : Cw g own cc nL h l E) (hm : m < 2) {i : Nat} (hi : i < 30) {idx : Nat} {x : Int} (hl : Cond.fieldLink own idx "GreatMachine$Job" "counted" "I" ∈ lw_w) (d : decode cc pc = .ok (.putfield idx, 3)) (kk : g (sm S0 m (tu t 28 i x)) (pc + 3) L st) : g (sm S0 m t) pc L (iv x :: rf E (kJb m i) :: st) := gPut C (ci := 2) (tyf := ty_Jb) (ty := .int) rfl inw_Jb tok_Jb nm_Jb (kJb_lt hm hi) (zJb hm hi) 11 (by decide) hl rfl (by decide +kernel) rfl rfl (by simp [oJb]) (by rw [(zJb hm hi), sm_eq, sm_eq]; simp [oJb, tu]) (zM_ne hm (mx_Jb (by decide) (by decide) hi)) d kk
theorem g_Jb_takesUntil (C : Cw g own cc nL h l E) (hm : m < 2) {i : Nat} (hi : i < 30) {idx : Nat} (hl : Cond.fieldLink own idx "GreatMachine$Job" "takesUntil" "I" ∈ lw_w) (d : decode cc pc = .ok (.getfield idx, 3)) (kk : g (sm S0 m t) (pc + 3) L (iv (t 29 i) :: st)) : g (sm S0 m t) pc L (rf E (kJb m i) :: st) := gGet C (ci := 2) rfl inw_Jb (kJb_lt hm hi) (zJb hm hi) 12 (by decide) hl (by rw [sm_eq]; rfl) d kk
theorem gw_Jb_takesUntil (C : Cw g own cc nL h l E) (hm : m < 2) {i : Nat} (hi : i < 30) {idx : Nat} (hl : Cond.fieldLink own idx "GreatMachine$Job" "takesUntil" "I" ∈ lw_w) (d : decode cc pc = .ok (.getfield idx, 3)) (kk : g S (pc + 3) L (iv (S m 29 i) :: st)) : g S pc L (rf E (kJb m i) :: st) := gGet C (ci := 2) rfl inw_Jb (kJb_lt hm hi) (zJb hm hi) 12 (by decide) hl rfl d kk
theorem p_Jb_takesUntil (C : Cw g own cc nL h l E) (hm : m < 2) {i : Nat} (hi : i < 30) {idx : Nat} {x : Int} (hl : Cond.fieldLink own idx "GreatMachine$Job" "takesUntil" "I" ∈ lw_w) (d : decode cc pc = .ok (.putfield idx, 3)) (kk : g (sm S0 m (tu t 29 i x)) (pc + 3) L st) : g (sm S0 m t) pc L (iv x :: rf E (kJb m i) :: st) := gPut C (ci := 2) (tyf := ty_Jb) (ty := .int) rfl inw_Jb tok_Jb nm_Jb (kJb_lt hm hi) (zJb hm hi) 12 (by decide) hl rfl (by decide +kernel) rfl rfl (by simp [oJb]) (by rw [(zJb hm hi), sm_eq, sm_eq]; simp [oJb, tu]) (zM_ne hm (mx_Jb (by decide) (by decide) hi)) d kk
theorem g_Hd_nodes (C : Cw g own cc nL h l E) (hm : m < 2) {i : Nat} (hi : i < 9) {idx : Nat} (hl : Cond.fieldLink own idx "GreatMachine$Hold" "nodes" "I" ∈ lw_w) (d : decode cc pc = .ok (.getfield idx, 3)) (kk : g (sm S0 m t) (pc + 3) L (iv (t 31 i) :: st)) : g (sm S0 m t) pc L (rf E (kHd m i) :: st) := gGet C (ci := 1) rfl inw_Hd (kHd_lt hm hi) (zHd hm hi) 0 (by decide) hl (by rw [sm_eq]; rfl) d kk
theorem gw_Hd_nodes (C : Cw g own cc nL h l E) (hm : m < 2) {i : Nat} (hi : i < 9) {idx : Nat} (hl : Cond.fieldLink own idx "GreatMachine$Hold" "nodes" "I" ∈ lw_w) (d : decode cc pc = .ok (.getfield idx, 3)) (kk : g S (pc + 3) L (iv (S m 31 i) :: st)) : g S pc L (rf E (kHd m i) :: st) := gGet C (ci := 1) rfl inw_Hd (kHd_lt hm hi) (zHd hm hi) 0 (by decide) hl rfl d kk
theorem p_Hd_nodes (C : Cw g own cc nL h l E) (hm : m < 2) {i : Nat} (hi : i < 9) {idx : Nat} {x : Int} (hl : Cond.fieldLink own idx "GreatMachine$Hold" "nodes" "I" ∈ lw_w) (d : decode cc pc = .ok (.putfield idx, 3)) (kk : g (sm S0 m (tu t 31 i x)) (pc + 3) L st) : g (sm S0 m t) pc L (iv x :: rf E (kHd m i) :: st) := gPut C (ci := 1) (tyf := ty_Hd) (ty := .int) rfl inw_Hd tok_Hd nm_Hd (kHd_lt hm hi) (zHd hm hi) 0 (by decide) hl rfl (by decide +kernel) rfl rfl (by simp [oHd]) (by rw [(zHd hm hi), sm_eq, sm_eq]; simp [oHd, tu]) (zM_ne hm (mx_Hd (by decide) (by decide) hi)) d kk
theorem g_Hd_licences (C : Cw g own cc nL h l E) (hm : m < 2) {i : Nat} (hi : i < 9) {idx : Nat} (hl : Cond.fieldLink own idx "GreatMachine$Hold" "licences" "I" ∈ lw_w) (d : decode cc pc = .ok (.getfield idx, 3)) (kk : g (sm S0 m t) (pc + 3) L (iv (t 32 i) :: st)) : g (sm S0 m t) pc L (rf E (kHd m i) :: st) := gGet C (ci := 1) rfl inw_Hd (kHd_lt hm hi) (zHd hm hi) 1 (by decide) hl (by rw [sm_eq]; rfl) d kk
theorem gw_Hd_licences (C : Cw g own cc nL h l E) (hm : m < 2) {i : Nat} (hi : i < 9) {idx : Nat} (hl : Cond.fieldLink own idx "GreatMachine$Hold" "licences" "I" ∈ lw_w) (d : decode cc pc = .ok (.getfield idx, 3)) (kk : g S (pc + 3) L (iv (S m 32 i) :: st)) : g S pc L (rf E (kHd m i) :: st) := gGet C (ci := 1) rfl inw_Hd (kHd_lt hm hi) (zHd hm hi) 1 (by decide) hl rfl d kk
theorem p_Hd_licences (C : Cw g own cc nL h l E) (hm : m < 2) {i : Nat} (hi : i < 9) {idx : Nat} {x : Int} (hl : Cond.fieldLink own idx "GreatMachine$Hold" "licences" "I" ∈ lw_w) (d : decode cc pc = .ok (.putfield idx, 3)) (kk : g (sm S0 m (tu t 32 i x)) (pc + 3) L st) : g (sm S0 m t) pc L (iv x :: rf E (kHd m i) :: st) := gPut C (ci := 1) (tyf := ty_Hd) (ty := .int) rfl inw_Hd tok_Hd nm_Hd (kHd_lt hm hi) (zHd hm hi) 1 (by decide) hl rfl (by decide +kernel) rfl rfl (by simp [oHd]) (by rw [(zHd hm hi), sm_eq, sm_eq]; simp [oHd, tu]) (zM_ne hm (mx_Hd (by decide) (by decide) hi)) d kk
theorem g_Hd_from (C : Cw g own cc nL h l E) (hm : m < 2) {i : Nat} (hi : i < 9) {idx : Nat} (hl : Cond.fieldLink own idx "GreatMachine$Hold" "from" "I" ∈ lw_w) (d : decode cc pc = .ok (.getfield idx, 3)) (kk : g (sm S0 m t) (pc + 3) L (iv (t 33 i) :: st)) : g (sm S0 m t) pc L (rf E (kHd m i) :: st) := gGet C (ci := 1) rfl inw_Hd (kHd_lt hm hi) (zHd hm hi) 2 (by decide) hl (by rw [sm_eq]; rfl) d kk
theorem gw_Hd_from (C : Cw g own cc nL h l E) (hm : m < 2) {i : Nat} (hi : i < 9) {idx : Nat} (hl : Cond.fieldLink own idx "GreatMachine$Hold" "from" "I" ∈ lw_w) (d : decode cc pc = .ok (.getfield idx, 3)) (kk : g S (pc + 3) L (iv (S m 33 i) :: st)) : g S pc L (rf E (kHd m i) :: st) := gGet C (ci := 1) rfl inw_Hd (kHd_lt hm hi) (zHd hm hi) 2 (by decide) hl rfl d kk
theorem p_Hd_from (C : Cw g own cc nL h l E) (hm : m < 2) {i : Nat} (hi : i < 9) {idx : Nat} {x : Int} (hl : Cond.fieldLink own idx "GreatMachine$Hold" "from" "I" ∈ lw_w) (d : decode cc pc = .ok (.putfield idx, 3)) (kk : g (sm S0 m (tu t 33 i x)) (pc + 3) L st) : g (sm S0 m t) pc L (iv x :: rf E (kHd m i) :: st) := gPut C (ci := 1) (tyf := ty_Hd) (ty := .int) rfl inw_Hd tok_Hd nm_Hd (kHd_lt hm hi) (zHd hm hi) 2 (by decide) hl rfl (by decide +kernel) rfl rfl (by simp [oHd]) (by rw [(zHd hm hi), sm_eq, sm_eq]; simp [oHd, tu]) (zM_ne hm (mx_Hd (by decide) (by decide) hi)) d kk
theorem g_Hd_to (C : Cw g own cc nL h l E) (hm : m < 2) {i : Nat} (hi : i < 9) {idx : Nat} (hl : Cond.fieldLink own idx "GreatMachine$Hold" "to" "I" ∈ lw_w) (d : decode cc pc = .ok (.getfield idx, 3)) (kk : g (sm S0 m t) (pc + 3) L (iv (t 34 i) :: st)) : g (sm S0 m t) pc L (rf E (kHd m i) :: st) := gGet C (ci := 1) rfl inw_Hd (kHd_lt hm hi) (zHd hm hi) 3 (by decide) hl (by rw [sm_eq]; rfl) d kk
theorem gw_Hd_to (C : Cw g own cc nL h l E) (hm : m < 2) {i : Nat} (hi : i < 9) {idx : Nat} (hl : Cond.fieldLink own idx "GreatMachine$Hold" "to" "I" ∈ lw_w) (d : decode cc pc = .ok (.getfield idx, 3)) (kk : g S (pc + 3) L (iv (S m 34 i) :: st)) : g S pc L (rf E (kHd m i) :: st) := gGet C (ci := 1) rfl inw_Hd (kHd_lt hm hi) (zHd hm hi) 3 (by decide) hl rfl d kk
theorem p_Hd_to (C : Cw g own cc nL h l E) (hm : m < 2) {i : Nat} (hi : i < 9) {idx : Nat} {x : Int} (hl : Cond.fieldLink own idx "GreatMachine$Hold" "to" "I" ∈ lw_w) (d : decode cc pc = .ok (.putfield idx, 3)) (kk : g (sm S0 m (tu t 34 i x)) (pc + 3) L st) : g (sm S0 m t) pc L (iv x :: rf E (kHd m i) :: st) := gPut C (ci := 1) (tyf := ty_Hd) (ty := .int) rfl inw_Hd tok_Hd nm_Hd (kHd_lt hm hi) (zHd hm hi) 3 (by decide) hl rfl (by decide +kernel) rfl rfl (by simp [oHd]) (by rw [(zHd hm hi), sm_eq, sm_eq]; simp [oHd, tu]) (zM_ne hm (mx_Hd (by decide) (by decide) hi)) d kk
theorem g_Jb_nodesOn (C : Cw g own cc nL h l E) (hm : m < 2) {i : Nat} (hi : i < 30) {idx : Nat} (hl : Cond.fieldLink own idx "GreatMachine$Job" "nodesOn" "[I" ∈ lw_w) (d : decode cc pc = .ok (.getfield idx, 3)) (kk : g S (pc + 3) L (rf E (kOn m i) :: st)) : g S pc L (rf E (kJb m i) :: st) := gGet C (ci := 2) rfl inw_Jb (kJb_lt hm hi) (zJb hm hi) 13 (by decide) hl rfl d kk
theorem g_Gm_machine (C : Cw g own cc nL h l E) {idx : Nat} (hl : Cond.fieldLink own idx "GreatMachine" "machine" "LGreatMachine$Machine;" ∈ lw_w) (d : decode cc pc = .ok (.getfield idx, 3)) (kk : g S (pc + 3) L (rf E (kMc 0) :: st)) : g S pc L (rf E 0 :: st) := gGet C (ci := 5) rfl inw_Gm (by decide) zGm 0 (by decide) hl rfl d kk
theorem g_Gm_foresight (C : Cw g own cc nL h l E) {idx : Nat} (hl : Cond.fieldLink own idx "GreatMachine" "foresight" "LGreatMachine$Machine;" ∈ lw_w) (d : decode cc pc = .ok (.getfield idx, 3)) (kk : g S (pc + 3) L (rf E (kMc 1) :: st)) : g S pc L (rf E 0 :: st) := gGet C (ci := 5) rfl inw_Gm (by decide) zGm 1 (by decide) hl rfl d kk
theorem g_Md_time (C : Cw g own cc nL h l E) {idx : Nat} (hl : Cond.fieldLink own idx "GreatMachineModel" "time" "I" ∈ lw_w) (d : decode cc pc = .ok (.getfield idx, 3)) (kk : g (sm S0 2 t) (pc + 3) L (iv (t 4 0) :: st)) : g (sm S0 2 t) pc L (rf E 1 :: st) := gGet C (ci := 6) rfl inw_Md (by decide) zMd 0 (by decide) hl (by rw [sm_eq]; rfl) d kk
theorem p_Md_time (C : Cw g own cc nL h l E) {idx : Nat} {x : Int} (hl : Cond.fieldLink own idx "GreatMachineModel" "time" "I" ∈ lw_w) (d : decode cc pc = .ok (.putfield idx, 3)) (kk : g (sm S0 2 (tu t 4 0 x)) (pc + 3) L st) : g (sm S0 2 t) pc L (iv x :: rf E 1 :: st) := gPut C (ci := 6) (tyf := ty_Md) (ty := .int) rfl inw_Md tok_Md nm_Md (by decide) zMd 0 (by decide) hl rfl (by decide +kernel) rfl rfl (by simp [oMd]) (by rw [zMd, sm_eq, sm_eq]; simp [oMd, tu]) (zD_ne (fun hh => absurd rfl hh) (fun a ha _ => ar_ne (mdf_scal a ha _ (by decide)))) d kk
theorem g_Md_half (C : Cw g own cc nL h l E) {idx : Nat} (hl : Cond.fieldLink own idx "GreatMachineModel" "half" "I" ∈ lw_w) (d : decode cc pc = .ok (.getfield idx, 3)) (kk : g (sm S0 2 t) (pc + 3) L (iv (t 5 0) :: st)) : g (sm S0 2 t) pc L (rf E 1 :: st) := gGet C (ci := 6) rfl inw_Md (by decide) zMd 1 (by decide) hl (by rw [sm_eq]; rfl) d kk
theorem p_Md_half (C : Cw g own cc nL h l E) {idx : Nat} {x : Int} (hl : Cond.fieldLink own idx "GreatMachineModel" "half" "I" ∈ lw_w) (d : decode cc pc = .ok (.putfield idx, 3)) (kk : g (sm S0 2 (tu t 5 0 x)) (pc + 3) L st) : g (sm S0 2 t) pc L (iv x :: rf E 1 :: st) := gPut C (ci := 6) (tyf := ty_Md) (ty := .int) rfl inw_Md tok_Md nm_Md (by decide) zMd 1 (by decide) hl rfl (by decide +kernel) rfl rfl (by simp [oMd]) (by rw [zMd, sm_eq, sm_eq]; simp [oMd, tu]) (zD_ne (fun hh => absurd rfl hh) (fun a ha _ => ar_ne (mdf_scal a ha _ (by decide)))) d kk
theorem g_Md_allLicences (C : Cw g own cc nL h l E) {idx : Nat} (hl : Cond.fieldLink own idx "GreatMachineModel" "allLicences" "I" ∈ lw_w) (d : decode cc pc = .ok (.getfield idx, 3)) (kk : g (sm S0 2 t) (pc + 3) L (iv (t 6 0) :: st)) : g (sm S0 2 t) pc L (rf E 1 :: st) := gGet C (ci := 6) rfl inw_Md (by decide) zMd 2 (by decide) hl (by rw [sm_eq]; rfl) d kk
theorem p_Md_allLicences (C : Cw g own cc nL h l E) {idx : Nat} {x : Int} (hl : Cond.fieldLink own idx "GreatMachineModel" "allLicences" "I" ∈ lw_w) (d : decode cc pc = .ok (.putfield idx, 3)) (kk : g (sm S0 2 (tu t 6 0 x)) (pc + 3) L st) : g (sm S0 2 t) pc L (iv x :: rf E 1 :: st) := gPut C (ci := 6) (tyf := ty_Md) (ty := .int) rfl inw_Md tok_Md nm_Md (by decide) zMd 2 (by decide) hl rfl (by decide +kernel) rfl rfl (by simp [oMd]) (by rw [zMd, sm_eq, sm_eq]; simp [oMd, tu]) (zD_ne (fun hh => absurd rfl hh) (fun a ha _ => ar_ne (mdf_scal a ha _ (by decide)))) d kk
theorem g_Md_racks (C : Cw g own cc nL h l E) {idx : Nat} (hl : Cond.fieldLink own idx "GreatMachineModel" "racks" "I" ∈ lw_w) (d : decode cc pc = .ok (.getfield idx, 3)) (kk : g (sm S0 2 t) (pc + 3) L (iv (t 0 0) :: st)) : g (sm S0 2 t) pc L (rf E 1 :: st) := gGet C (ci := 6) rfl inw_Md (by decide) zMd 3 (by decide) hl (by rw [sm_eq]; rfl) d kk
theorem p_Md_racks (C : Cw g own cc nL h l E) {idx : Nat} {x : Int} (hl : Cond.fieldLink own idx "GreatMachineModel" "racks" "I" ∈ lw_w) (d : decode cc pc = .ok (.putfield idx, 3)) (kk : g (sm S0 2 (tu t 0 0 x)) (pc + 3) L st) : g (sm S0 2 t) pc L (iv x :: rf E 1 :: st) := gPut C (ci := 6) (tyf := ty_Md) (ty := .int) rfl inw_Md tok_Md nm_Md (by decide) zMd 3 (by decide) hl rfl (by decide +kernel) rfl rfl (by simp [oMd]) (by rw [zMd, sm_eq, sm_eq]; simp [oMd, tu]) (zD_ne (fun hh => absurd rfl hh) (fun a ha _ => ar_ne (mdf_scal a ha _ (by decide)))) d kk
theorem g_Md_nodes (C : Cw g own cc nL h l E) {idx : Nat} (hl : Cond.fieldLink own idx "GreatMachineModel" "nodes" "[I" ∈ lw_w) (d : decode cc pc = .ok (.getfield idx, 3)) (kk : g S (pc + 3) L (rf E (kMd 0) :: st)) : g S pc L (rf E 1 :: st) := gGet C (ci := 6) rfl inw_Md (by decide) zMd 4 (by decide) hl rfl d kk
theorem g_Md_isDrained (C : Cw g own cc nL h l E) {idx : Nat} (hl : Cond.fieldLink own idx "GreatMachineModel" "isDrained" "[Z" ∈ lw_w) (d : decode cc pc = .ok (.getfield idx, 3)) (kk : g S (pc + 3) L (rf E (kMd 1) :: st)) : g S pc L (rf E 1 :: st) := gGet C (ci := 6) rfl inw_Md (by decide) zMd 5 (by decide) hl rfl d kk
theorem g_Md_accounts (C : Cw g own cc nL h l E) {idx : Nat} (hl : Cond.fieldLink own idx "GreatMachineModel" "accounts" "I" ∈ lw_w) (d : decode cc pc = .ok (.getfield idx, 3)) (kk : g (sm S0 2 t) (pc + 3) L (iv (t 1 0) :: st)) : g (sm S0 2 t) pc L (rf E 1 :: st) := gGet C (ci := 6) rfl inw_Md (by decide) zMd 6 (by decide) hl (by rw [sm_eq]; rfl) d kk
theorem p_Md_accounts (C : Cw g own cc nL h l E) {idx : Nat} {x : Int} (hl : Cond.fieldLink own idx "GreatMachineModel" "accounts" "I" ∈ lw_w) (d : decode cc pc = .ok (.putfield idx, 3)) (kk : g (sm S0 2 (tu t 1 0 x)) (pc + 3) L st) : g (sm S0 2 t) pc L (iv x :: rf E 1 :: st) := gPut C (ci := 6) (tyf := ty_Md) (ty := .int) rfl inw_Md tok_Md nm_Md (by decide) zMd 6 (by decide) hl rfl (by decide +kernel) rfl rfl (by simp [oMd]) (by rw [zMd, sm_eq, sm_eq]; simp [oMd, tu]) (zD_ne (fun hh => absurd rfl hh) (fun a ha _ => ar_ne (mdf_scal a ha _ (by decide)))) d kk
theorem g_Md_shares (C : Cw g own cc nL h l E) {idx : Nat} (hl : Cond.fieldLink own idx "GreatMachineModel" "shares" "[I" ∈ lw_w) (d : decode cc pc = .ok (.getfield idx, 3)) (kk : g S (pc + 3) L (rf E (kMd 2) :: st)) : g S pc L (rf E 1 :: st) := gGet C (ci := 6) rfl inw_Md (by decide) zMd 7 (by decide) hl rfl d kk
theorem g_Md_used (C : Cw g own cc nL h l E) {idx : Nat} (hl : Cond.fieldLink own idx "GreatMachineModel" "used" "[I" ∈ lw_w) (d : decode cc pc = .ok (.getfield idx, 3)) (kk : g S (pc + 3) L (rf E (kMd 3) :: st)) : g S pc L (rf E 1 :: st) := gGet C (ci := 6) rfl inw_Md (by decide) zMd 8 (by decide) hl rfl d kk
theorem g_Md_jobs (C : Cw g own cc nL h l E) {idx : Nat} (hl : Cond.fieldLink own idx "GreatMachineModel" "jobs" "I" ∈ lw_w) (d : decode cc pc = .ok (.getfield idx, 3)) (kk : g (sm S0 2 t) (pc + 3) L (iv (t 2 0) :: st)) : g (sm S0 2 t) pc L (rf E 1 :: st) := gGet C (ci := 6) rfl inw_Md (by decide) zMd 9 (by decide) hl (by rw [sm_eq]; rfl) d kk
theorem p_Md_jobs (C : Cw g own cc nL h l E) {idx : Nat} {x : Int} (hl : Cond.fieldLink own idx "GreatMachineModel" "jobs" "I" ∈ lw_w) (d : decode cc pc = .ok (.putfield idx, 3)) (kk : g (sm S0 2 (tu t 2 0 x)) (pc + 3) L st) : g (sm S0 2 t) pc L (iv x :: rf E 1 :: st) := gPut C (ci := 6) (tyf := ty_Md) (ty := .int) rfl inw_Md tok_Md nm_Md (by decide) zMd 9 (by decide) hl rfl (by decide +kernel) rfl rfl (by simp [oMd]) (by rw [zMd, sm_eq, sm_eq]; simp [oMd, tu]) (zD_ne (fun hh => absurd rfl hh) (fun a ha _ => ar_ne (mdf_scal a ha _ (by decide)))) d kk
theorem g_Md_account (C : Cw g own cc nL h l E) {idx : Nat} (hl : Cond.fieldLink own idx "GreatMachineModel" "account" "[I" ∈ lw_w) (d : decode cc pc = .ok (.getfield idx, 3)) (kk : g S (pc + 3) L (rf E (kMd 4) :: st)) : g S pc L (rf E 1 :: st) := gGet C (ci := 6) rfl inw_Md (by decide) zMd 10 (by decide) hl rfl d kk
theorem g_Md_wants (C : Cw g own cc nL h l E) {idx : Nat} (hl : Cond.fieldLink own idx "GreatMachineModel" "wants" "[I" ∈ lw_w) (d : decode cc pc = .ok (.getfield idx, 3)) (kk : g S (pc + 3) L (rf E (kMd 5) :: st)) : g S pc L (rf E 1 :: st) := gGet C (ci := 6) rfl inw_Md (by decide) zMd 11 (by decide) hl rfl d kk
theorem g_Md_needs (C : Cw g own cc nL h l E) {idx : Nat} (hl : Cond.fieldLink own idx "GreatMachineModel" "needs" "[I" ∈ lw_w) (d : decode cc pc = .ok (.getfield idx, 3)) (kk : g S (pc + 3) L (rf E (kMd 6) :: st)) : g S pc L (rf E 1 :: st) := gGet C (ci := 6) rfl inw_Md (by decide) zMd 12 (by decide) hl rfl d kk
theorem g_Md_limit (C : Cw g own cc nL h l E) {idx : Nat} (hl : Cond.fieldLink own idx "GreatMachineModel" "limit" "[I" ∈ lw_w) (d : decode cc pc = .ok (.getfield idx, 3)) (kk : g S (pc + 3) L (rf E (kMd 7) :: st)) : g S pc L (rf E 1 :: st) := gGet C (ci := 6) rfl inw_Md (by decide) zMd 13 (by decide) hl rfl d kk
theorem g_Md_truly (C : Cw g own cc nL h l E) {idx : Nat} (hl : Cond.fieldLink own idx "GreatMachineModel" "truly" "[I" ∈ lw_w) (d : decode cc pc = .ok (.getfield idx, 3)) (kk : g S (pc + 3) L (rf E (kMd 8) :: st)) : g S pc L (rf E 1 :: st) := gGet C (ci := 6) rfl inw_Md (by decide) zMd 14 (by decide) hl rfl d kk
theorem g_Md_save (C : Cw g own cc nL h l E) {idx : Nat} (hl : Cond.fieldLink own idx "GreatMachineModel" "save" "[I" ∈ lw_w) (d : decode cc pc = .ok (.getfield idx, 3)) (kk : g S (pc + 3) L (rf E (kMd 9) :: st)) : g S pc L (rf E 1 :: st) := gGet C (ci := 6) rfl inw_Md (by decide) zMd 15 (by decide) hl rfl d kk
theorem g_Md_ahead (C : Cw g own cc nL h l E) {idx : Nat} (hl : Cond.fieldLink own idx "GreatMachineModel" "ahead" "[I" ∈ lw_w) (d : decode cc pc = .ok (.getfield idx, 3)) (kk : g S (pc + 3) L (rf E (kMd 10) :: st)) : g S pc L (rf E 1 :: st) := gGet C (ci := 6) rfl inw_Md (by decide) zMd 16 (by decide) hl rfl d kk
theorem g_Md_state (C : Cw g own cc nL h l E) {idx : Nat} (hl : Cond.fieldLink own idx "GreatMachineModel" "state" "[I" ∈ lw_w) (d : decode cc pc = .ok (.getfield idx, 3)) (kk : g S (pc + 3) L (rf E (kMd 11) :: st)) : g S pc L (rf E 1 :: st) := gGet C (ci := 6) rfl inw_Md (by decide) zMd 17 (by decide) hl rfl d kk
theorem g_Md_began (C : Cw g own cc nL h l E) {idx : Nat} (hl : Cond.fieldLink own idx "GreatMachineModel" "began" "[I" ∈ lw_w) (d : decode cc pc = .ok (.getfield idx, 3)) (kk : g S (pc + 3) L (rf E (kMd 12) :: st)) : g S pc L (rf E 1 :: st) := gGet C (ci := 6) rfl inw_Md (by decide) zMd 18 (by decide) hl rfl d kk
theorem g_Md_ended (C : Cw g own cc nL h l E) {idx : Nat} (hl : Cond.fieldLink own idx "GreatMachineModel" "ended" "[I" ∈ lw_w) (d : decode cc pc = .ok (.getfield idx, 3)) (kk : g S (pc + 3) L (rf E (kMd 13) :: st)) : g S pc L (rf E 1 :: st) := gGet C (ci := 6) rfl inw_Md (by decide) zMd 19 (by decide) hl rfl d kk
theorem g_Md_saved (C : Cw g own cc nL h l E) {idx : Nat} (hl : Cond.fieldLink own idx "GreatMachineModel" "saved" "[I" ∈ lw_w) (d : decode cc pc = .ok (.getfield idx, 3)) (kk : g S (pc + 3) L (rf E (kMd 14) :: st)) : g S pc L (rf E 1 :: st) := gGet C (ci := 6) rfl inw_Md (by decide) zMd 20 (by decide) hl rfl d kk
theorem g_Md_ran (C : Cw g own cc nL h l E) {idx : Nat} (hl : Cond.fieldLink own idx "GreatMachineModel" "ran" "[I" ∈ lw_w) (d : decode cc pc = .ok (.getfield idx, 3)) (kk : g S (pc + 3) L (rf E (kMd 15) :: st)) : g S pc L (rf E 1 :: st) := gGet C (ci := 6) rfl inw_Md (by decide) zMd 21 (by decide) hl rfl d kk
theorem g_Md_leftAt (C : Cw g own cc nL h l E) {idx : Nat} (hl : Cond.fieldLink own idx "GreatMachineModel" "leftAt" "[I" ∈ lw_w) (d : decode cc pc = .ok (.getfield idx, 3)) (kk : g S (pc + 3) L (rf E (kMd 16) :: st)) : g S pc L (rf E 1 :: st) := gGet C (ci := 6) rfl inw_Md (by decide) zMd 22 (by decide) hl rfl d kk
theorem g_Md_on (C : Cw g own cc nL h l E) {idx : Nat} (hl : Cond.fieldLink own idx "GreatMachineModel" "on" "[I" ∈ lw_w) (d : decode cc pc = .ok (.getfield idx, 3)) (kk : g S (pc + 3) L (rf E (kMd 17) :: st)) : g S pc L (rf E 1 :: st) := gGet C (ci := 6) rfl inw_Md (by decide) zMd 23 (by decide) hl rfl d kk
theorem g_Md_bookings (C : Cw g own cc nL h l E) {idx : Nat} (hl : Cond.fieldLink own idx "GreatMachineModel" "bookings" "I" ∈ lw_w) (d : decode cc pc = .ok (.getfield idx, 3)) (kk : g (sm S0 2 t) (pc + 3) L (iv (t 3 0) :: st)) : g (sm S0 2 t) pc L (rf E 1 :: st) := gGet C (ci := 6) rfl inw_Md (by decide) zMd 24 (by decide) hl (by rw [sm_eq]; rfl) d kk
theorem p_Md_bookings (C : Cw g own cc nL h l E) {idx : Nat} {x : Int} (hl : Cond.fieldLink own idx "GreatMachineModel" "bookings" "I" ∈ lw_w) (d : decode cc pc = .ok (.putfield idx, 3)) (kk : g (sm S0 2 (tu t 3 0 x)) (pc + 3) L st) : g (sm S0 2 t) pc L (iv x :: rf E 1 :: st) := gPut C (ci := 6) (tyf := ty_Md) (ty := .int) rfl inw_Md tok_Md nm_Md (by decide) zMd 24 (by decide) hl rfl (by decide +kernel) rfl rfl (by simp [oMd]) (by rw [zMd, sm_eq, sm_eq]; simp [oMd, tu]) (zD_ne (fun hh => absurd rfl hh) (fun a ha _ => ar_ne (mdf_scal a ha _ (by decide)))) d kk
theorem g_Md_bookNodes (C : Cw g own cc nL h l E) {idx : Nat} (hl : Cond.fieldLink own idx "GreatMachineModel" "bookNodes" "[I" ∈ lw_w) (d : decode cc pc = .ok (.getfield idx, 3)) (kk : g S (pc + 3) L (rf E (kMd 18) :: st)) : g S pc L (rf E 1 :: st) := gGet C (ci := 6) rfl inw_Md (by decide) zMd 25 (by decide) hl rfl d kk
theorem g_Md_bookFrom (C : Cw g own cc nL h l E) {idx : Nat} (hl : Cond.fieldLink own idx "GreatMachineModel" "bookFrom" "[I" ∈ lw_w) (d : decode cc pc = .ok (.getfield idx, 3)) (kk : g S (pc + 3) L (rf E (kMd 19) :: st)) : g S pc L (rf E 1 :: st) := gGet C (ci := 6) rfl inw_Md (by decide) zMd 26 (by decide) hl rfl d kk
theorem g_Md_bookTo (C : Cw g own cc nL h l E) {idx : Nat} (hl : Cond.fieldLink own idx "GreatMachineModel" "bookTo" "[I" ∈ lw_w) (d : decode cc pc = .ok (.getfield idx, 3)) (kk : g S (pc + 3) L (rf E (kMd 20) :: st)) : g S pc L (rf E 1 :: st) := gGet C (ci := 6) rfl inw_Md (by decide) zMd 27 (by decide) hl rfl d kk
theorem g_Md_blocked (C : Cw g own cc nL h l E) {idx : Nat} (hl : Cond.fieldLink own idx "GreatMachineModel" "blocked" "I" ∈ lw_w) (d : decode cc pc = .ok (.getfield idx, 3)) (kk : g (sm S0 2 t) (pc + 3) L (iv (t 8 0) :: st)) : g (sm S0 2 t) pc L (rf E 1 :: st) := gGet C (ci := 6) rfl inw_Md (by decide) zMd 28 (by decide) hl (by rw [sm_eq]; rfl) d kk
theorem p_Md_blocked (C : Cw g own cc nL h l E) {idx : Nat} {x : Int} (hl : Cond.fieldLink own idx "GreatMachineModel" "blocked" "I" ∈ lw_w) (d : decode cc pc = .ok (.putfield idx, 3)) (kk : g (sm S0 2 (tu t 8 0 x)) (pc + 3) L st) : g (sm S0 2 t) pc L (iv x :: rf E 1 :: st) := gPut C (ci := 6) (tyf := ty_Md) (ty := .int) rfl inw_Md tok_Md nm_Md (by decide) zMd 28 (by decide) hl rfl (by decide +kernel) rfl rfl (by simp [oMd]) (by rw [zMd, sm_eq, sm_eq]; simp [oMd, tu]) (zD_ne (fun hh => absurd rfl hh) (fun a ha _ => ar_ne (mdf_scal a ha _ (by decide)))) d kk
theorem g_Md_kept (C : Cw g own cc nL h l E) {idx : Nat} (hl : Cond.fieldLink own idx "GreatMachineModel" "kept" "I" ∈ lw_w) (d : decode cc pc = .ok (.getfield idx, 3)) (kk : g (sm S0 2 t) (pc + 3) L (iv (t 9 0) :: st)) : g (sm S0 2 t) pc L (rf E 1 :: st) := gGet C (ci := 6) rfl inw_Md (by decide) zMd 29 (by decide) hl (by rw [sm_eq]; rfl) d kk
theorem p_Md_kept (C : Cw g own cc nL h l E) {idx : Nat} {x : Int} (hl : Cond.fieldLink own idx "GreatMachineModel" "kept" "I" ∈ lw_w) (d : decode cc pc = .ok (.putfield idx, 3)) (kk : g (sm S0 2 (tu t 9 0 x)) (pc + 3) L st) : g (sm S0 2 t) pc L (iv x :: rf E 1 :: st) := gPut C (ci := 6) (tyf := ty_Md) (ty := .int) rfl inw_Md tok_Md nm_Md (by decide) zMd 29 (by decide) hl rfl (by decide +kernel) rfl rfl (by simp [oMd]) (by rw [zMd, sm_eq, sm_eq]; simp [oMd, tu]) (zD_ne (fun hh => absurd rfl hh) (fun a ha _ => ar_ne (mdf_scal a ha _ (by decide)))) d kk
theorem g_Md_keptLeft (C : Cw g own cc nL h l E) {idx : Nat} (hl : Cond.fieldLink own idx "GreatMachineModel" "keptLeft" "I" ∈ lw_w) (d : decode cc pc = .ok (.getfield idx, 3)) (kk : g (sm S0 2 t) (pc + 3) L (iv (t 37 0) :: st)) : g (sm S0 2 t) pc L (rf E 1 :: st) := gGet C (ci := 6) rfl inw_Md (by decide) zMd 30 (by decide) hl (by rw [sm_eq]; rfl) d kk
theorem p_Md_keptLeft (C : Cw g own cc nL h l E) {idx : Nat} {x : Int} (hl : Cond.fieldLink own idx "GreatMachineModel" "keptLeft" "I" ∈ lw_w) (d : decode cc pc = .ok (.putfield idx, 3)) (kk : g (sm S0 2 (tu t 37 0 x)) (pc + 3) L st) : g (sm S0 2 t) pc L (iv x :: rf E 1 :: st) := gPut C (ci := 6) (tyf := ty_Md) (ty := .int) rfl inw_Md tok_Md nm_Md (by decide) zMd 30 (by decide) hl rfl (by decide +kernel) rfl rfl (by simp [oMd]) (by rw [zMd, sm_eq, sm_eq]; simp [oMd, tu]) (zD_ne (fun hh => absurd rfl hh) (fun a ha _ => ar_ne (mdf_scal a ha _ (by decide)))) d kk
theorem g_Md_isForeseen (C : Cw g own cc nL h l E) {idx : Nat} (hl : Cond.fieldLink own idx "GreatMachineModel" "isForeseen" "Z" ∈ lw_w) (d : decode cc pc = .ok (.getfield idx, 3)) (kk : g (sm S0 2 t) (pc + 3) L (iv (t 38 0) :: st)) : g (sm S0 2 t) pc L (rf E 1 :: st) := gGet C (ci := 6) rfl inw_Md (by decide) zMd 31 (by decide) hl (by rw [sm_eq]; rfl) d kk
theorem p_Md_isForeseen (C : Cw g own cc nL h l E) {idx : Nat} {x : Int} (hv : x = 0 ∨ x = 1) (hl : Cond.fieldLink own idx "GreatMachineModel" "isForeseen" "Z" ∈ lw_w) (d : decode cc pc = .ok (.putfield idx, 3)) (kk : g (sm S0 2 (tu t 38 0 x)) (pc + 3) L st) : g (sm S0 2 t) pc L (iv x :: rf E 1 :: st) := gPut C (ci := 6) (tyf := ty_Md) (ty := .boolean) rfl inw_Md tok_Md nm_Md (by decide) zMd 31 (by decide) hl rfl (by decide +kernel) (by rcases hv with rfl | rfl <;> rfl) (by rcases hv with rfl | rfl <;> rfl) (by simp [oMd]) (by rw [zMd, sm_eq, sm_eq]; simp [oMd, tu]) (zD_ne (fun hh => absurd rfl hh) (fun a ha _ => ar_ne (mdf_scal a ha _ (by decide)))) d kk
theorem g_Md_roomNow (C : Cw g own cc nL h l E) {idx : Nat} (hl : Cond.fieldLink own idx "GreatMachineModel" "roomNow" "I" ∈ lw_w) (d : decode cc pc = .ok (.getfield idx, 3)) (kk : g (sm S0 2 t) (pc + 3) L (iv (t 48 0) :: st)) : g (sm S0 2 t) pc L (rf E 1 :: st) := gGet C (ci := 6) rfl inw_Md (by decide) zMd 32 (by decide) hl (by rw [sm_eq]; rfl) d kk
theorem p_Md_roomNow (C : Cw g own cc nL h l E) {idx : Nat} {x : Int} (hl : Cond.fieldLink own idx "GreatMachineModel" "roomNow" "I" ∈ lw_w) (d : decode cc pc = .ok (.putfield idx, 3)) (kk : g (sm S0 2 (tu t 48 0 x)) (pc + 3) L st) : g (sm S0 2 t) pc L (iv x :: rf E 1 :: st) := gPut C (ci := 6) (tyf := ty_Md) (ty := .int) rfl inw_Md tok_Md nm_Md (by decide) zMd 32 (by decide) hl rfl (by decide +kernel) rfl rfl (by simp [oMd]) (by rw [zMd, sm_eq, sm_eq]; simp [oMd, tu]) (zD_ne (fun hh => absurd rfl hh) (fun a ha _ => ar_ne (mdf_scal a ha _ (by decide)))) d kk
theorem g_Md_nodesAt (C : Cw g own cc nL h l E) {idx : Nat} (hl : Cond.fieldLink own idx "GreatMachineModel" "nodesAt" "[I" ∈ lw_w) (d : decode cc pc = .ok (.getfield idx, 3)) (kk : g S (pc + 3) L (rf E (kMd 21) :: st)) : g S pc L (rf E 1 :: st) := gGet C (ci := 6) rfl inw_Md (by decide) zMd 33 (by decide) hl rfl d kk
theorem g_Md_licencesAt (C : Cw g own cc nL h l E) {idx : Nat} (hl : Cond.fieldLink own idx "GreatMachineModel" "licencesAt" "[I" ∈ lw_w) (d : decode cc pc = .ok (.getfield idx, 3)) (kk : g S (pc + 3) L (rf E (kMd 22) :: st)) : g S pc L (rf E 1 :: st) := gGet C (ci := 6) rfl inw_Md (by decide) zMd 34 (by decide) hl rfl d kk
theorem g_Md_queue (C : Cw g own cc nL h l E) {idx : Nat} (hl : Cond.fieldLink own idx "GreatMachineModel" "queue" "[I" ∈ lw_w) (d : decode cc pc = .ok (.getfield idx, 3)) (kk : g S (pc + 3) L (rf E (kMd 23) :: st)) : g S pc L (rf E 1 :: st) := gGet C (ci := 6) rfl inw_Md (by decide) zMd 35 (by decide) hl rfl d kk
theorem g_Md_queued (C : Cw g own cc nL h l E) {idx : Nat} (hl : Cond.fieldLink own idx "GreatMachineModel" "queued" "I" ∈ lw_w) (d : decode cc pc = .ok (.getfield idx, 3)) (kk : g (sm S0 2 t) (pc + 3) L (iv (t 10 0) :: st)) : g (sm S0 2 t) pc L (rf E 1 :: st) := gGet C (ci := 6) rfl inw_Md (by decide) zMd 36 (by decide) hl (by rw [sm_eq]; rfl) d kk
theorem p_Md_queued (C : Cw g own cc nL h l E) {idx : Nat} {x : Int} (hl : Cond.fieldLink own idx "GreatMachineModel" "queued" "I" ∈ lw_w) (d : decode cc pc = .ok (.putfield idx, 3)) (kk : g (sm S0 2 (tu t 10 0 x)) (pc + 3) L st) : g (sm S0 2 t) pc L (iv x :: rf E 1 :: st) := gPut C (ci := 6) (tyf := ty_Md) (ty := .int) rfl inw_Md tok_Md nm_Md (by decide) zMd 36 (by decide) hl rfl (by decide +kernel) rfl rfl (by simp [oMd]) (by rw [zMd, sm_eq, sm_eq]; simp [oMd, tu]) (zD_ne (fun hh => absurd rfl hh) (fun a ha _ => ar_ne (mdf_scal a ha _ (by decide)))) d kk
theorem g_Md_wasState (C : Cw g own cc nL h l E) {idx : Nat} (hl : Cond.fieldLink own idx "GreatMachineModel" "wasState" "[I" ∈ lw_w) (d : decode cc pc = .ok (.getfield idx, 3)) (kk : g S (pc + 3) L (rf E (kMd 24) :: st)) : g S pc L (rf E 1 :: st) := gGet C (ci := 6) rfl inw_Md (by decide) zMd 37 (by decide) hl rfl d kk
theorem g_Md_wasBegan (C : Cw g own cc nL h l E) {idx : Nat} (hl : Cond.fieldLink own idx "GreatMachineModel" "wasBegan" "[I" ∈ lw_w) (d : decode cc pc = .ok (.getfield idx, 3)) (kk : g S (pc + 3) L (rf E (kMd 25) :: st)) : g S pc L (rf E 1 :: st) := gGet C (ci := 6) rfl inw_Md (by decide) zMd 38 (by decide) hl rfl d kk
theorem g_Md_wasEnded (C : Cw g own cc nL h l E) {idx : Nat} (hl : Cond.fieldLink own idx "GreatMachineModel" "wasEnded" "[I" ∈ lw_w) (d : decode cc pc = .ok (.getfield idx, 3)) (kk : g S (pc + 3) L (rf E (kMd 26) :: st)) : g S pc L (rf E 1 :: st) := gGet C (ci := 6) rfl inw_Md (by decide) zMd 39 (by decide) hl rfl d kk
theorem g_Md_wasRan (C : Cw g own cc nL h l E) {idx : Nat} (hl : Cond.fieldLink own idx "GreatMachineModel" "wasRan" "[I" ∈ lw_w) (d : decode cc pc = .ok (.getfield idx, 3)) (kk : g S (pc + 3) L (rf E (kMd 27) :: st)) : g S pc L (rf E 1 :: st) := gGet C (ci := 6) rfl inw_Md (by decide) zMd 40 (by decide) hl rfl d kk
theorem g_Md_wasLeft (C : Cw g own cc nL h l E) {idx : Nat} (hl : Cond.fieldLink own idx "GreatMachineModel" "wasLeft" "[I" ∈ lw_w) (d : decode cc pc = .ok (.getfield idx, 3)) (kk : g S (pc + 3) L (rf E (kMd 28) :: st)) : g S pc L (rf E 1 :: st) := gGet C (ci := 6) rfl inw_Md (by decide) zMd 41 (by decide) hl rfl d kk
theorem g_Md_wasOn (C : Cw g own cc nL h l E) {idx : Nat} (hl : Cond.fieldLink own idx "GreatMachineModel" "wasOn" "[I" ∈ lw_w) (d : decode cc pc = .ok (.getfield idx, 3)) (kk : g S (pc + 3) L (rf E (kMd 29) :: st)) : g S pc L (rf E 1 :: st) := gGet C (ci := 6) rfl inw_Md (by decide) zMd 42 (by decide) hl rfl d kk
theorem g_Md_wasUsed (C : Cw g own cc nL h l E) {idx : Nat} (hl : Cond.fieldLink own idx "GreatMachineModel" "wasUsed" "[I" ∈ lw_w) (d : decode cc pc = .ok (.getfield idx, 3)) (kk : g S (pc + 3) L (rf E (kMd 30) :: st)) : g S pc L (rf E 1 :: st) := gGet C (ci := 6) rfl inw_Md (by decide) zMd 43 (by decide) hl rfl d kk
theorem xAld (C : Cw g own cc nL h l E) {k : Nat} (hk : k < 203) {F : Nat → Int32} {n : Nat} (hz : zcel E S k = .inl (E.2 0, n, .inl F)) {e : Int} {i : Nat} (he : e = (i : Int)) (hi : i < n) (hn : n < 2147483648) (d : decode cc pc = .ok (.iaload, 1)) (kk : g S (pc + 1) L (.int (F i) :: st)) : g S pc L (iv e :: rf E k :: st) := by
  obtain ⟨p, e0, R, s, mi, args, below, meth, c, cells, slots, Q, A, H0, D, ⟨hx, hb, hml, hown, hts⟩, hE, hA, hK, hR, hg⟩ := C
  refine (hg _ _ _ _).mpr fun H locs ls hP hS hL => ?_
  have hwk := wld_at (E := E) (S := S) hk
  rw [hz] at hwk
  obtain ⟨q1, q2⟩ := ir_in he hi hn
  refine va_iald hx hb hK hP k 0 hwk rfl q1 d ?_
  rw [q2]
  exact (hg _ _ _ _).mp kk H locs ls hP hS hL
theorem xBld (C : Cw g own cc nL h l E) {k : Nat} (hk : k < 203) {F : Nat → Int32} {n : Nat} (hz : zcel E S k = .inl (E.2 1, n, .inl F)) {e : Int} {i : Nat} (he : e = (i : Int)) (hi : i < n) (hn : n < 2147483648) (d : decode cc pc = .ok (.baload, 1)) (kk : g S (pc + 1) L (.int (F i) :: st)) : g S pc L (iv e :: rf E k :: st) := by
  obtain ⟨p, e0, R, s, mi, args, below, meth, c, cells, slots, Q, A, H0, D, ⟨hx, hb, hml, hown, hts⟩, hE, hA, hK, hR, hg⟩ := C
  refine (hg _ _ _ _).mpr fun H locs ls hP hS hL => ?_
  have hwk := wld_at (E := E) (S := S) hk
  rw [hz] at hwk
  obtain ⟨q1, q2⟩ := ir_in he hi hn
  refine va_zald hx hb hK hP k 1 hwk rfl q1 d ?_
  rw [q2]
  exact (hg _ _ _ _).mp kk H locs ls hP hS hL
theorem xQld (C : Cw g own cc nL h l E) {k : Nat} (hk : k < 203) {F : Nat → Nat} {n j : Nat} {Cn : String} {c6 : ClassId} (hz : zcel E S k = .inl (c6, n, .inr (.inr (.inr (.inr fun i => some (E.1 (F i))))))) (ht : (tys E)[j]? = some (c6, .object Cn)) {e : Int} {i : Nat} (he : e = (i : Int)) (hi : i < n) (hn : n < 2147483648) (d : decode cc pc = .ok (.aaload, 1)) (kk : g S (pc + 1) L (rf E (F i) :: st)) : g S pc L (iv e :: rf E k :: st) := by
  obtain ⟨p, e0, R, s, mi, args, below, meth, c, cells, slots, Q, A, H0, D, ⟨hx, hb, hml, hown, hts⟩, hE, hA, hK, hR, hg⟩ := C
  refine (hg _ _ _ _).mpr fun H locs ls hP hS hL => ?_
  have hwk := wld_at (E := E) (S := S) hk
  rw [hz] at hwk
  obtain ⟨q1, q2⟩ := ir_in he hi hn
  refine va_aldq hx hb hK hP k j hwk ht q1 d ?_
  rw [q2]
  exact (hg _ _ _ _).mp kk H locs ls hP hS hL
theorem xIst (C : Cw g own cc nL h l E) {k : Nat} (hk : k < 203) {F : Nat → Int32} {n : Nat} (hz : zcel E S k = .inl (E.2 0, n, .inl F)) {e x : Int} {i : Nat} (he : e = (i : Int)) (hi : i < n) (hn : n < 2147483648) (hz' : zcel E S' k = .inl (E.2 0, n, .inl (upd F i (Int32.ofInt x)))) (ho : ∀ j, j < 203 → j ≠ k → zcel E S' j = zcel E S j) (d : decode cc pc = .ok (.iastore, 1)) (kk : g S' (pc + 1) L st) : g S pc L (iv x :: iv e :: rf E k :: st) := by
  obtain ⟨p, e0, R, s, mi, args, below, meth, c, cells, slots, Q, A, H0, D, ⟨hx, hb, hml, hown, hts⟩, hE, hA, hK, hR, hg⟩ := C
  refine (hg _ _ _ _).mpr fun H locs ls hP hS hL => ?_
  have hwk := wld_at (E := E) (S := S) hk
  rw [hz] at hwk
  obtain ⟨q1, q2⟩ := ir_in he hi hn
  refine va_iast hx hb hK hP (wld_D hE hA) hS k 0 hwk rfl q1 d (fun H1 locs1 hP1 hD1 hS1 => ?_)
  rw [q2, wld_set hk hz' ho] at hP1
  exact (hg _ _ _ _).mp kk H1 locs1 ls hP1 hS1 hL
theorem xBst (C : Cw g own cc nL h l E) {k : Nat} (hk : k < 203) {F : Nat → Int32} {n : Nat} (hz : zcel E S k = .inl (E.2 1, n, .inl F)) {e x : Int} {i : Nat} (hv : x = 0 ∨ x = 1) (he : e = (i : Int)) (hi : i < n) (hn : n < 2147483648) (hz' : zcel E S' k = .inl (E.2 1, n, .inl (upd F i (Int32.ofInt x)))) (ho : ∀ j, j < 203 → j ≠ k → zcel E S' j = zcel E S j) (d : decode cc pc = .ok (.bastore, 1)) (kk : g S' (pc + 1) L st) : g S pc L (iv x :: iv e :: rf E k :: st) := by
  obtain ⟨p, e0, R, s, mi, args, below, meth, c, cells, slots, Q, A, H0, D, ⟨hx, hb, hml, hown, hts⟩, hE, hA, hK, hR, hg⟩ := C
  refine (hg _ _ _ _).mpr fun H locs ls hP hS hL => ?_
  have hwk := wld_at (E := E) (S := S) hk
  rw [hz] at hwk
  obtain ⟨q1, q2⟩ := ir_in he hi hn
  refine va_zast hx hb hK hP (wld_D hE hA) hS k 1 hwk rfl q1 d (fun H1 locs1 hP1 hD1 hS1 => ?_)
  rw [show vp_nar .boolean (Int32.ofInt x) = Int32.ofInt x by rcases hv with rfl | rfl <;> rfl, q2, wld_set hk hz' ho] at hP1
  exact (hg _ _ _ _).mp kk H1 locs1 ls hP1 hS1 hL
theorem x_Rk (C : Cw g own cc nL h l E) (hm : m < 2) {e : Int} (i : Nat) (he : e = (i : Int)) (hi : i < 4) (d : decode cc pc = .ok (.aaload, 1)) (kk : g S (pc + 1) L (rf E (kRk m i) :: st)) : g S pc L (iv e :: rf E (kRa m) :: st) := xQld C (j := 2) (F := fun i => kRk m i) (kRa_lt hm) (zRa hm) rfl he hi (by decide) d kk
theorem x_Ac (C : Cw g own cc nL h l E) (hm : m < 2) {e : Int} (i : Nat) (he : e = (i : Int)) (hi : i < 6) (d : decode cc pc = .ok (.aaload, 1)) (kk : g S (pc + 1) L (rf E (kAc m i) :: st)) : g S pc L (iv e :: rf E (kAa m) :: st) := xQld C (j := 3) (F := fun i => kAc m i) (kAa_lt hm) (zAa hm) rfl he hi (by decide) d kk
theorem x_Jb (C : Cw g own cc nL h l E) (hm : m < 2) {e : Int} (i : Nat) (he : e = (i : Int)) (hi : i < 30) (d : decode cc pc = .ok (.aaload, 1)) (kk : g S (pc + 1) L (rf E (kJb m i) :: st)) : g S pc L (iv e :: rf E (kJa m) :: st) := xQld C (j := 4) (F := fun i => kJb m i) (kJa_lt hm) (zJa hm) rfl he hi (by decide) d kk
theorem x_Hd (C : Cw g own cc nL h l E) (hm : m < 2) {e : Int} (i : Nat) (he : e = (i : Int)) (hi : i < 9) (d : decode cc pc = .ok (.aaload, 1)) (kk : g S (pc + 1) L (rf E (kHd m i) :: st)) : g S pc L (iv e :: rf E (kHa m) :: st) := xQld C (j := 5) (F := fun i => kHd m i) (kHa_lt hm) (zHa hm) rfl he hi (by decide) d kk
theorem x_Qu (C : Cw g own cc nL h l E) (hm : m < 2) {e : Int} (i : Nat) (he : e = (i : Int)) (hi : i < 30) (d : decode cc pc = .ok (.iaload, 1)) (kk : g (sm S0 m t) (pc + 1) L (iv (t 11 i) :: st)) : g (sm S0 m t) pc L (iv e :: rf E (kQu m) :: st) := xAld C (F := ar t 11) (kQu_lt hm) (by rw [zQu hm, sm_eq]) he hi (by decide) d kk
theorem x_On (C : Cw g own cc nL h l E) (hm : m < 2) {j : Nat} (hj : j < 30) {e : Int} (i : Nat) (he : e = (i : Int)) (hi : i < 4) (d : decode cc pc = .ok (.iaload, 1)) (kk : g (sm S0 m t) (pc + 1) L (iv (t (100 + j) i) :: st)) : g (sm S0 m t) pc L (iv e :: rf E (kOn m j) :: st) := xAld C (F := ar t (100 + j)) (kOn_lt hm hj) (by rw [zOn hm hj, sm_eq]) he hi (by decide) d kk
theorem xw_On (C : Cw g own cc nL h l E) (hm : m < 2) {j : Nat} (hj : j < 30) {e : Int} (i : Nat) (he : e = (i : Int)) (hi : i < 4) (d : decode cc pc = .ok (.iaload, 1)) (kk : g S (pc + 1) L (iv (S m (100 + j) i) :: st)) : g S pc L (iv e :: rf E (kOn m j) :: st) := xAld C (F := ar (S m) (100 + j)) (kOn_lt hm hj) (by rw [zOn hm hj]) he hi (by decide) d kk
theorem st_Qu (C : Cw g own cc nL h l E) (hm : m < 2) {e x : Int} (i : Nat) (he : e = (i : Int)) (hi : i < 30) (d : decode cc pc = .ok (.iastore, 1)) (kk : g (sm S0 m (tu t 11 i x)) (pc + 1) L st) : g (sm S0 m t) pc L (iv x :: iv e :: rf E (kQu m) :: st) := xIst C (F := ar t 11) (kQu_lt hm) (by rw [zQu hm, sm_eq]) he hi (by decide) (by rw [zQu hm, sm_eq, ar_eq]) (zM_ne hm (mx_Qu rfl)) d kk
theorem st_On (C : Cw g own cc nL h l E) (hm : m < 2) {j : Nat} (hj : j < 30) {e x : Int} (i : Nat) (he : e = (i : Int)) (hi : i < 4) (d : decode cc pc = .ok (.iastore, 1)) (kk : g (sm S0 m (tu t (100 + j) i x)) (pc + 1) L st) : g (sm S0 m t) pc L (iv x :: iv e :: rf E (kOn m j) :: st) := xIst C (F := ar t (100 + j)) (kOn_lt hm hj) (by rw [zOn hm hj, sm_eq]) he hi (by decide) (by rw [zOn hm hj, sm_eq, ar_eq]) (zM_ne hm (mx_On rfl hj)) d kk
theorem x_Md_nodes (C : Cw g own cc nL h l E) {e : Int} (i : Nat) (he : e = (i : Int)) (hi : i < 4) (d : decode cc pc = .ok (.iaload, 1)) (kk : g (sm S0 2 t) (pc + 1) L (iv (t 12 i) :: st)) : g (sm S0 2 t) pc L (iv e :: rf E (kMd 0) :: st) := xAld C (F := ar t 12) (n := 4) (kMd_lt (by decide)) (by rw [zMa (by decide), sm_eq]; rfl) he hi (by decide) d kk
theorem st_Md_nodes (C : Cw g own cc nL h l E) {e x : Int} (i : Nat) (he : e = (i : Int)) (hi : i < 4) (d : decode cc pc = .ok (.iastore, 1)) (kk : g (sm S0 2 (tu t 12 i x)) (pc + 1) L st) : g (sm S0 2 t) pc L (iv x :: iv e :: rf E (kMd 0) :: st) := xIst C (F := ar t 12) (n := 4) (kMd_lt (by decide)) (by rw [zMa (by decide), sm_eq]; rfl) he hi (by decide) (by rw [zMa (by decide), sm_eq, ← ar_eq]; rfl) (zD_ne (fun _ => oMd_ne (a := 0) (by decide)) (fun a ha hk => ar_ne (fun hh => hk (by rw [mdf_inj a ha 0 (by decide) hh])))) d kk
theorem x_Md_isDrained (C : Cw g own cc nL h l E) {e : Int} (i : Nat) (he : e = (i : Int)) (hi : i < 4) (d : decode cc pc = .ok (.baload, 1)) (kk : g (sm S0 2 t) (pc + 1) L (iv (t 14 i) :: st)) : g (sm S0 2 t) pc L (iv e :: rf E (kMd 1) :: st) := xBld C (F := ar t 14) (n := 4) (kMd_lt (by decide)) (by rw [zMa (by decide), sm_eq]; rfl) he hi (by decide) d kk
theorem st_Md_isDrained (C : Cw g own cc nL h l E) {e x : Int} (hv : x = 0 ∨ x = 1) (i : Nat) (he : e = (i : Int)) (hi : i < 4) (d : decode cc pc = .ok (.bastore, 1)) (kk : g (sm S0 2 (tu t 14 i x)) (pc + 1) L st) : g (sm S0 2 t) pc L (iv x :: iv e :: rf E (kMd 1) :: st) := xBst C (F := ar t 14) (n := 4) (kMd_lt (by decide)) (by rw [zMa (by decide), sm_eq]; rfl) hv he hi (by decide) (by rw [zMa (by decide), sm_eq, ← ar_eq]; rfl) (zD_ne (fun _ => oMd_ne (a := 1) (by decide)) (fun a ha hk => ar_ne (fun hh => hk (by rw [mdf_inj a ha 1 (by decide) hh])))) d kk
theorem x_Md_shares (C : Cw g own cc nL h l E) {e : Int} (i : Nat) (he : e = (i : Int)) (hi : i < 6) (d : decode cc pc = .ok (.iaload, 1)) (kk : g (sm S0 2 t) (pc + 1) L (iv (t 15 i) :: st)) : g (sm S0 2 t) pc L (iv e :: rf E (kMd 2) :: st) := xAld C (F := ar t 15) (n := 6) (kMd_lt (by decide)) (by rw [zMa (by decide), sm_eq]; rfl) he hi (by decide) d kk
theorem st_Md_shares (C : Cw g own cc nL h l E) {e x : Int} (i : Nat) (he : e = (i : Int)) (hi : i < 6) (d : decode cc pc = .ok (.iastore, 1)) (kk : g (sm S0 2 (tu t 15 i x)) (pc + 1) L st) : g (sm S0 2 t) pc L (iv x :: iv e :: rf E (kMd 2) :: st) := xIst C (F := ar t 15) (n := 6) (kMd_lt (by decide)) (by rw [zMa (by decide), sm_eq]; rfl) he hi (by decide) (by rw [zMa (by decide), sm_eq, ← ar_eq]; rfl) (zD_ne (fun _ => oMd_ne (a := 2) (by decide)) (fun a ha hk => ar_ne (fun hh => hk (by rw [mdf_inj a ha 2 (by decide) hh])))) d kk
theorem x_Md_used (C : Cw g own cc nL h l E) {e : Int} (i : Nat) (he : e = (i : Int)) (hi : i < 6) (d : decode cc pc = .ok (.iaload, 1)) (kk : g (sm S0 2 t) (pc + 1) L (iv (t 16 i) :: st)) : g (sm S0 2 t) pc L (iv e :: rf E (kMd 3) :: st) := xAld C (F := ar t 16) (n := 6) (kMd_lt (by decide)) (by rw [zMa (by decide), sm_eq]; rfl) he hi (by decide) d kk
theorem st_Md_used (C : Cw g own cc nL h l E) {e x : Int} (i : Nat) (he : e = (i : Int)) (hi : i < 6) (d : decode cc pc = .ok (.iastore, 1)) (kk : g (sm S0 2 (tu t 16 i x)) (pc + 1) L st) : g (sm S0 2 t) pc L (iv x :: iv e :: rf E (kMd 3) :: st) := xIst C (F := ar t 16) (n := 6) (kMd_lt (by decide)) (by rw [zMa (by decide), sm_eq]; rfl) he hi (by decide) (by rw [zMa (by decide), sm_eq, ← ar_eq]; rfl) (zD_ne (fun _ => oMd_ne (a := 3) (by decide)) (fun a ha hk => ar_ne (fun hh => hk (by rw [mdf_inj a ha 3 (by decide) hh])))) d kk
theorem x_Md_account (C : Cw g own cc nL h l E) {e : Int} (i : Nat) (he : e = (i : Int)) (hi : i < 30) (d : decode cc pc = .ok (.iaload, 1)) (kk : g (sm S0 2 t) (pc + 1) L (iv (t 17 i) :: st)) : g (sm S0 2 t) pc L (iv e :: rf E (kMd 4) :: st) := xAld C (F := ar t 17) (n := 30) (kMd_lt (by decide)) (by rw [zMa (by decide), sm_eq]; rfl) he hi (by decide) d kk
theorem st_Md_account (C : Cw g own cc nL h l E) {e x : Int} (i : Nat) (he : e = (i : Int)) (hi : i < 30) (d : decode cc pc = .ok (.iastore, 1)) (kk : g (sm S0 2 (tu t 17 i x)) (pc + 1) L st) : g (sm S0 2 t) pc L (iv x :: iv e :: rf E (kMd 4) :: st) := xIst C (F := ar t 17) (n := 30) (kMd_lt (by decide)) (by rw [zMa (by decide), sm_eq]; rfl) he hi (by decide) (by rw [zMa (by decide), sm_eq, ← ar_eq]; rfl) (zD_ne (fun _ => oMd_ne (a := 4) (by decide)) (fun a ha hk => ar_ne (fun hh => hk (by rw [mdf_inj a ha 4 (by decide) hh])))) d kk
theorem x_Md_wants (C : Cw g own cc nL h l E) {e : Int} (i : Nat) (he : e = (i : Int)) (hi : i < 30) (d : decode cc pc = .ok (.iaload, 1)) (kk : g (sm S0 2 t) (pc + 1) L (iv (t 18 i) :: st)) : g (sm S0 2 t) pc L (iv e :: rf E (kMd 5) :: st) := xAld C (F := ar t 18) (n := 30) (kMd_lt (by decide)) (by rw [zMa (by decide), sm_eq]; rfl) he hi (by decide) d kk
theorem st_Md_wants (C : Cw g own cc nL h l E) {e x : Int} (i : Nat) (he : e = (i : Int)) (hi : i < 30) (d : decode cc pc = .ok (.iastore, 1)) (kk : g (sm S0 2 (tu t 18 i x)) (pc + 1) L st) : g (sm S0 2 t) pc L (iv x :: iv e :: rf E (kMd 5) :: st) := xIst C (F := ar t 18) (n := 30) (kMd_lt (by decide)) (by rw [zMa (by decide), sm_eq]; rfl) he hi (by decide) (by rw [zMa (by decide), sm_eq, ← ar_eq]; rfl) (zD_ne (fun _ => oMd_ne (a := 5) (by decide)) (fun a ha hk => ar_ne (fun hh => hk (by rw [mdf_inj a ha 5 (by decide) hh])))) d kk
theorem x_Md_needs (C : Cw g own cc nL h l E) {e : Int} (i : Nat) (he : e = (i : Int)) (hi : i < 30) (d : decode cc pc = .ok (.iaload, 1)) (kk : g (sm S0 2 t) (pc + 1) L (iv (t 19 i) :: st)) : g (sm S0 2 t) pc L (iv e :: rf E (kMd 6) :: st) := xAld C (F := ar t 19) (n := 30) (kMd_lt (by decide)) (by rw [zMa (by decide), sm_eq]; rfl) he hi (by decide) d kk
theorem st_Md_needs (C : Cw g own cc nL h l E) {e x : Int} (i : Nat) (he : e = (i : Int)) (hi : i < 30) (d : decode cc pc = .ok (.iastore, 1)) (kk : g (sm S0 2 (tu t 19 i x)) (pc + 1) L st) : g (sm S0 2 t) pc L (iv x :: iv e :: rf E (kMd 6) :: st) := xIst C (F := ar t 19) (n := 30) (kMd_lt (by decide)) (by rw [zMa (by decide), sm_eq]; rfl) he hi (by decide) (by rw [zMa (by decide), sm_eq, ← ar_eq]; rfl) (zD_ne (fun _ => oMd_ne (a := 6) (by decide)) (fun a ha hk => ar_ne (fun hh => hk (by rw [mdf_inj a ha 6 (by decide) hh])))) d kk
theorem x_Md_limit (C : Cw g own cc nL h l E) {e : Int} (i : Nat) (he : e = (i : Int)) (hi : i < 30) (d : decode cc pc = .ok (.iaload, 1)) (kk : g (sm S0 2 t) (pc + 1) L (iv (t 20 i) :: st)) : g (sm S0 2 t) pc L (iv e :: rf E (kMd 7) :: st) := xAld C (F := ar t 20) (n := 30) (kMd_lt (by decide)) (by rw [zMa (by decide), sm_eq]; rfl) he hi (by decide) d kk
theorem st_Md_limit (C : Cw g own cc nL h l E) {e x : Int} (i : Nat) (he : e = (i : Int)) (hi : i < 30) (d : decode cc pc = .ok (.iastore, 1)) (kk : g (sm S0 2 (tu t 20 i x)) (pc + 1) L st) : g (sm S0 2 t) pc L (iv x :: iv e :: rf E (kMd 7) :: st) := xIst C (F := ar t 20) (n := 30) (kMd_lt (by decide)) (by rw [zMa (by decide), sm_eq]; rfl) he hi (by decide) (by rw [zMa (by decide), sm_eq, ← ar_eq]; rfl) (zD_ne (fun _ => oMd_ne (a := 7) (by decide)) (fun a ha hk => ar_ne (fun hh => hk (by rw [mdf_inj a ha 7 (by decide) hh])))) d kk
theorem x_Md_truly (C : Cw g own cc nL h l E) {e : Int} (i : Nat) (he : e = (i : Int)) (hi : i < 30) (d : decode cc pc = .ok (.iaload, 1)) (kk : g (sm S0 2 t) (pc + 1) L (iv (t 21 i) :: st)) : g (sm S0 2 t) pc L (iv e :: rf E (kMd 8) :: st) := xAld C (F := ar t 21) (n := 30) (kMd_lt (by decide)) (by rw [zMa (by decide), sm_eq]; rfl) he hi (by decide) d kk
theorem st_Md_truly (C : Cw g own cc nL h l E) {e x : Int} (i : Nat) (he : e = (i : Int)) (hi : i < 30) (d : decode cc pc = .ok (.iastore, 1)) (kk : g (sm S0 2 (tu t 21 i x)) (pc + 1) L st) : g (sm S0 2 t) pc L (iv x :: iv e :: rf E (kMd 8) :: st) := xIst C (F := ar t 21) (n := 30) (kMd_lt (by decide)) (by rw [zMa (by decide), sm_eq]; rfl) he hi (by decide) (by rw [zMa (by decide), sm_eq, ← ar_eq]; rfl) (zD_ne (fun _ => oMd_ne (a := 8) (by decide)) (fun a ha hk => ar_ne (fun hh => hk (by rw [mdf_inj a ha 8 (by decide) hh])))) d kk
theorem x_Md_save (C : Cw g own cc nL h l E) {e : Int} (i : Nat) (he : e = (i : Int)) (hi : i < 30) (d : decode cc pc = .ok (.iaload, 1)) (kk : g (sm S0 2 t) (pc + 1) L (iv (t 22 i) :: st)) : g (sm S0 2 t) pc L (iv e :: rf E (kMd 9) :: st) := xAld C (F := ar t 22) (n := 30) (kMd_lt (by decide)) (by rw [zMa (by decide), sm_eq]; rfl) he hi (by decide) d kk
theorem st_Md_save (C : Cw g own cc nL h l E) {e x : Int} (i : Nat) (he : e = (i : Int)) (hi : i < 30) (d : decode cc pc = .ok (.iastore, 1)) (kk : g (sm S0 2 (tu t 22 i x)) (pc + 1) L st) : g (sm S0 2 t) pc L (iv x :: iv e :: rf E (kMd 9) :: st) := xIst C (F := ar t 22) (n := 30) (kMd_lt (by decide)) (by rw [zMa (by decide), sm_eq]; rfl) he hi (by decide) (by rw [zMa (by decide), sm_eq, ← ar_eq]; rfl) (zD_ne (fun _ => oMd_ne (a := 9) (by decide)) (fun a ha hk => ar_ne (fun hh => hk (by rw [mdf_inj a ha 9 (by decide) hh])))) d kk
theorem x_Md_ahead (C : Cw g own cc nL h l E) {e : Int} (i : Nat) (he : e = (i : Int)) (hi : i < 30) (d : decode cc pc = .ok (.iaload, 1)) (kk : g (sm S0 2 t) (pc + 1) L (iv (t 23 i) :: st)) : g (sm S0 2 t) pc L (iv e :: rf E (kMd 10) :: st) := xAld C (F := ar t 23) (n := 30) (kMd_lt (by decide)) (by rw [zMa (by decide), sm_eq]; rfl) he hi (by decide) d kk
theorem st_Md_ahead (C : Cw g own cc nL h l E) {e x : Int} (i : Nat) (he : e = (i : Int)) (hi : i < 30) (d : decode cc pc = .ok (.iastore, 1)) (kk : g (sm S0 2 (tu t 23 i x)) (pc + 1) L st) : g (sm S0 2 t) pc L (iv x :: iv e :: rf E (kMd 10) :: st) := xIst C (F := ar t 23) (n := 30) (kMd_lt (by decide)) (by rw [zMa (by decide), sm_eq]; rfl) he hi (by decide) (by rw [zMa (by decide), sm_eq, ← ar_eq]; rfl) (zD_ne (fun _ => oMd_ne (a := 10) (by decide)) (fun a ha hk => ar_ne (fun hh => hk (by rw [mdf_inj a ha 10 (by decide) hh])))) d kk
theorem x_Md_state (C : Cw g own cc nL h l E) {e : Int} (i : Nat) (he : e = (i : Int)) (hi : i < 30) (d : decode cc pc = .ok (.iaload, 1)) (kk : g (sm S0 2 t) (pc + 1) L (iv (t 24 i) :: st)) : g (sm S0 2 t) pc L (iv e :: rf E (kMd 11) :: st) := xAld C (F := ar t 24) (n := 30) (kMd_lt (by decide)) (by rw [zMa (by decide), sm_eq]; rfl) he hi (by decide) d kk
theorem st_Md_state (C : Cw g own cc nL h l E) {e x : Int} (i : Nat) (he : e = (i : Int)) (hi : i < 30) (d : decode cc pc = .ok (.iastore, 1)) (kk : g (sm S0 2 (tu t 24 i x)) (pc + 1) L st) : g (sm S0 2 t) pc L (iv x :: iv e :: rf E (kMd 11) :: st) := xIst C (F := ar t 24) (n := 30) (kMd_lt (by decide)) (by rw [zMa (by decide), sm_eq]; rfl) he hi (by decide) (by rw [zMa (by decide), sm_eq, ← ar_eq]; rfl) (zD_ne (fun _ => oMd_ne (a := 11) (by decide)) (fun a ha hk => ar_ne (fun hh => hk (by rw [mdf_inj a ha 11 (by decide) hh])))) d kk
theorem x_Md_began (C : Cw g own cc nL h l E) {e : Int} (i : Nat) (he : e = (i : Int)) (hi : i < 30) (d : decode cc pc = .ok (.iaload, 1)) (kk : g (sm S0 2 t) (pc + 1) L (iv (t 25 i) :: st)) : g (sm S0 2 t) pc L (iv e :: rf E (kMd 12) :: st) := xAld C (F := ar t 25) (n := 30) (kMd_lt (by decide)) (by rw [zMa (by decide), sm_eq]; rfl) he hi (by decide) d kk
theorem st_Md_began (C : Cw g own cc nL h l E) {e x : Int} (i : Nat) (he : e = (i : Int)) (hi : i < 30) (d : decode cc pc = .ok (.iastore, 1)) (kk : g (sm S0 2 (tu t 25 i x)) (pc + 1) L st) : g (sm S0 2 t) pc L (iv x :: iv e :: rf E (kMd 12) :: st) := xIst C (F := ar t 25) (n := 30) (kMd_lt (by decide)) (by rw [zMa (by decide), sm_eq]; rfl) he hi (by decide) (by rw [zMa (by decide), sm_eq, ← ar_eq]; rfl) (zD_ne (fun _ => oMd_ne (a := 12) (by decide)) (fun a ha hk => ar_ne (fun hh => hk (by rw [mdf_inj a ha 12 (by decide) hh])))) d kk
theorem x_Md_ended (C : Cw g own cc nL h l E) {e : Int} (i : Nat) (he : e = (i : Int)) (hi : i < 30) (d : decode cc pc = .ok (.iaload, 1)) (kk : g (sm S0 2 t) (pc + 1) L (iv (t 26 i) :: st)) : g (sm S0 2 t) pc L (iv e :: rf E (kMd 13) :: st) := xAld C (F := ar t 26) (n := 30) (kMd_lt (by decide)) (by rw [zMa (by decide), sm_eq]; rfl) he hi (by decide) d kk
theorem st_Md_ended (C : Cw g own cc nL h l E) {e x : Int} (i : Nat) (he : e = (i : Int)) (hi : i < 30) (d : decode cc pc = .ok (.iastore, 1)) (kk : g (sm S0 2 (tu t 26 i x)) (pc + 1) L st) : g (sm S0 2 t) pc L (iv x :: iv e :: rf E (kMd 13) :: st) := xIst C (F := ar t 26) (n := 30) (kMd_lt (by decide)) (by rw [zMa (by decide), sm_eq]; rfl) he hi (by decide) (by rw [zMa (by decide), sm_eq, ← ar_eq]; rfl) (zD_ne (fun _ => oMd_ne (a := 13) (by decide)) (fun a ha hk => ar_ne (fun hh => hk (by rw [mdf_inj a ha 13 (by decide) hh])))) d kk
theorem x_Md_saved (C : Cw g own cc nL h l E) {e : Int} (i : Nat) (he : e = (i : Int)) (hi : i < 30) (d : decode cc pc = .ok (.iaload, 1)) (kk : g (sm S0 2 t) (pc + 1) L (iv (t 27 i) :: st)) : g (sm S0 2 t) pc L (iv e :: rf E (kMd 14) :: st) := xAld C (F := ar t 27) (n := 30) (kMd_lt (by decide)) (by rw [zMa (by decide), sm_eq]; rfl) he hi (by decide) d kk
theorem st_Md_saved (C : Cw g own cc nL h l E) {e x : Int} (i : Nat) (he : e = (i : Int)) (hi : i < 30) (d : decode cc pc = .ok (.iastore, 1)) (kk : g (sm S0 2 (tu t 27 i x)) (pc + 1) L st) : g (sm S0 2 t) pc L (iv x :: iv e :: rf E (kMd 14) :: st) := xIst C (F := ar t 27) (n := 30) (kMd_lt (by decide)) (by rw [zMa (by decide), sm_eq]; rfl) he hi (by decide) (by rw [zMa (by decide), sm_eq, ← ar_eq]; rfl) (zD_ne (fun _ => oMd_ne (a := 14) (by decide)) (fun a ha hk => ar_ne (fun hh => hk (by rw [mdf_inj a ha 14 (by decide) hh])))) d kk
theorem x_Md_ran (C : Cw g own cc nL h l E) {e : Int} (i : Nat) (he : e = (i : Int)) (hi : i < 30) (d : decode cc pc = .ok (.iaload, 1)) (kk : g (sm S0 2 t) (pc + 1) L (iv (t 35 i) :: st)) : g (sm S0 2 t) pc L (iv e :: rf E (kMd 15) :: st) := xAld C (F := ar t 35) (n := 30) (kMd_lt (by decide)) (by rw [zMa (by decide), sm_eq]; rfl) he hi (by decide) d kk
theorem st_Md_ran (C : Cw g own cc nL h l E) {e x : Int} (i : Nat) (he : e = (i : Int)) (hi : i < 30) (d : decode cc pc = .ok (.iastore, 1)) (kk : g (sm S0 2 (tu t 35 i x)) (pc + 1) L st) : g (sm S0 2 t) pc L (iv x :: iv e :: rf E (kMd 15) :: st) := xIst C (F := ar t 35) (n := 30) (kMd_lt (by decide)) (by rw [zMa (by decide), sm_eq]; rfl) he hi (by decide) (by rw [zMa (by decide), sm_eq, ← ar_eq]; rfl) (zD_ne (fun _ => oMd_ne (a := 15) (by decide)) (fun a ha hk => ar_ne (fun hh => hk (by rw [mdf_inj a ha 15 (by decide) hh])))) d kk
theorem x_Md_leftAt (C : Cw g own cc nL h l E) {e : Int} (i : Nat) (he : e = (i : Int)) (hi : i < 30) (d : decode cc pc = .ok (.iaload, 1)) (kk : g (sm S0 2 t) (pc + 1) L (iv (t 36 i) :: st)) : g (sm S0 2 t) pc L (iv e :: rf E (kMd 16) :: st) := xAld C (F := ar t 36) (n := 30) (kMd_lt (by decide)) (by rw [zMa (by decide), sm_eq]; rfl) he hi (by decide) d kk
theorem st_Md_leftAt (C : Cw g own cc nL h l E) {e x : Int} (i : Nat) (he : e = (i : Int)) (hi : i < 30) (d : decode cc pc = .ok (.iastore, 1)) (kk : g (sm S0 2 (tu t 36 i x)) (pc + 1) L st) : g (sm S0 2 t) pc L (iv x :: iv e :: rf E (kMd 16) :: st) := xIst C (F := ar t 36) (n := 30) (kMd_lt (by decide)) (by rw [zMa (by decide), sm_eq]; rfl) he hi (by decide) (by rw [zMa (by decide), sm_eq, ← ar_eq]; rfl) (zD_ne (fun _ => oMd_ne (a := 16) (by decide)) (fun a ha hk => ar_ne (fun hh => hk (by rw [mdf_inj a ha 16 (by decide) hh])))) d kk
theorem x_Md_on (C : Cw g own cc nL h l E) {e : Int} (i : Nat) (he : e = (i : Int)) (hi : i < 120) (d : decode cc pc = .ok (.iaload, 1)) (kk : g (sm S0 2 t) (pc + 1) L (iv (t 30 i) :: st)) : g (sm S0 2 t) pc L (iv e :: rf E (kMd 17) :: st) := xAld C (F := ar t 30) (n := 120) (kMd_lt (by decide)) (by rw [zMa (by decide), sm_eq]; rfl) he hi (by decide) d kk
theorem st_Md_on (C : Cw g own cc nL h l E) {e x : Int} (i : Nat) (he : e = (i : Int)) (hi : i < 120) (d : decode cc pc = .ok (.iastore, 1)) (kk : g (sm S0 2 (tu t 30 i x)) (pc + 1) L st) : g (sm S0 2 t) pc L (iv x :: iv e :: rf E (kMd 17) :: st) := xIst C (F := ar t 30) (n := 120) (kMd_lt (by decide)) (by rw [zMa (by decide), sm_eq]; rfl) he hi (by decide) (by rw [zMa (by decide), sm_eq, ← ar_eq]; rfl) (zD_ne (fun _ => oMd_ne (a := 17) (by decide)) (fun a ha hk => ar_ne (fun hh => hk (by rw [mdf_inj a ha 17 (by decide) hh])))) d kk
theorem x_Md_bookNodes (C : Cw g own cc nL h l E) {e : Int} (i : Nat) (he : e = (i : Int)) (hi : i < 8) (d : decode cc pc = .ok (.iaload, 1)) (kk : g (sm S0 2 t) (pc + 1) L (iv (t 31 i) :: st)) : g (sm S0 2 t) pc L (iv e :: rf E (kMd 18) :: st) := xAld C (F := ar t 31) (n := 8) (kMd_lt (by decide)) (by rw [zMa (by decide), sm_eq]; rfl) he hi (by decide) d kk
theorem st_Md_bookNodes (C : Cw g own cc nL h l E) {e x : Int} (i : Nat) (he : e = (i : Int)) (hi : i < 8) (d : decode cc pc = .ok (.iastore, 1)) (kk : g (sm S0 2 (tu t 31 i x)) (pc + 1) L st) : g (sm S0 2 t) pc L (iv x :: iv e :: rf E (kMd 18) :: st) := xIst C (F := ar t 31) (n := 8) (kMd_lt (by decide)) (by rw [zMa (by decide), sm_eq]; rfl) he hi (by decide) (by rw [zMa (by decide), sm_eq, ← ar_eq]; rfl) (zD_ne (fun _ => oMd_ne (a := 18) (by decide)) (fun a ha hk => ar_ne (fun hh => hk (by rw [mdf_inj a ha 18 (by decide) hh])))) d kk
theorem x_Md_bookFrom (C : Cw g own cc nL h l E) {e : Int} (i : Nat) (he : e = (i : Int)) (hi : i < 8) (d : decode cc pc = .ok (.iaload, 1)) (kk : g (sm S0 2 t) (pc + 1) L (iv (t 33 i) :: st)) : g (sm S0 2 t) pc L (iv e :: rf E (kMd 19) :: st) := xAld C (F := ar t 33) (n := 8) (kMd_lt (by decide)) (by rw [zMa (by decide), sm_eq]; rfl) he hi (by decide) d kk
theorem st_Md_bookFrom (C : Cw g own cc nL h l E) {e x : Int} (i : Nat) (he : e = (i : Int)) (hi : i < 8) (d : decode cc pc = .ok (.iastore, 1)) (kk : g (sm S0 2 (tu t 33 i x)) (pc + 1) L st) : g (sm S0 2 t) pc L (iv x :: iv e :: rf E (kMd 19) :: st) := xIst C (F := ar t 33) (n := 8) (kMd_lt (by decide)) (by rw [zMa (by decide), sm_eq]; rfl) he hi (by decide) (by rw [zMa (by decide), sm_eq, ← ar_eq]; rfl) (zD_ne (fun _ => oMd_ne (a := 19) (by decide)) (fun a ha hk => ar_ne (fun hh => hk (by rw [mdf_inj a ha 19 (by decide) hh])))) d kk
theorem x_Md_bookTo (C : Cw g own cc nL h l E) {e : Int} (i : Nat) (he : e = (i : Int)) (hi : i < 8) (d : decode cc pc = .ok (.iaload, 1)) (kk : g (sm S0 2 t) (pc + 1) L (iv (t 34 i) :: st)) : g (sm S0 2 t) pc L (iv e :: rf E (kMd 20) :: st) := xAld C (F := ar t 34) (n := 8) (kMd_lt (by decide)) (by rw [zMa (by decide), sm_eq]; rfl) he hi (by decide) d kk
theorem st_Md_bookTo (C : Cw g own cc nL h l E) {e x : Int} (i : Nat) (he : e = (i : Int)) (hi : i < 8) (d : decode cc pc = .ok (.iastore, 1)) (kk : g (sm S0 2 (tu t 34 i x)) (pc + 1) L st) : g (sm S0 2 t) pc L (iv x :: iv e :: rf E (kMd 20) :: st) := xIst C (F := ar t 34) (n := 8) (kMd_lt (by decide)) (by rw [zMa (by decide), sm_eq]; rfl) he hi (by decide) (by rw [zMa (by decide), sm_eq, ← ar_eq]; rfl) (zD_ne (fun _ => oMd_ne (a := 20) (by decide)) (fun a ha hk => ar_ne (fun hh => hk (by rw [mdf_inj a ha 20 (by decide) hh])))) d kk
theorem x_Md_nodesAt (C : Cw g own cc nL h l E) {e : Int} (i : Nat) (he : e = (i : Int)) (hi : i < 260) (d : decode cc pc = .ok (.iaload, 1)) (kk : g (sm S0 2 t) (pc + 1) L (iv (t 39 i) :: st)) : g (sm S0 2 t) pc L (iv e :: rf E (kMd 21) :: st) := xAld C (F := ar t 39) (n := 260) (kMd_lt (by decide)) (by rw [zMa (by decide), sm_eq]; rfl) he hi (by decide) d kk
theorem st_Md_nodesAt (C : Cw g own cc nL h l E) {e x : Int} (i : Nat) (he : e = (i : Int)) (hi : i < 260) (d : decode cc pc = .ok (.iastore, 1)) (kk : g (sm S0 2 (tu t 39 i x)) (pc + 1) L st) : g (sm S0 2 t) pc L (iv x :: iv e :: rf E (kMd 21) :: st) := xIst C (F := ar t 39) (n := 260) (kMd_lt (by decide)) (by rw [zMa (by decide), sm_eq]; rfl) he hi (by decide) (by rw [zMa (by decide), sm_eq, ← ar_eq]; rfl) (zD_ne (fun _ => oMd_ne (a := 21) (by decide)) (fun a ha hk => ar_ne (fun hh => hk (by rw [mdf_inj a ha 21 (by decide) hh])))) d kk
theorem x_Md_licencesAt (C : Cw g own cc nL h l E) {e : Int} (i : Nat) (he : e = (i : Int)) (hi : i < 260) (d : decode cc pc = .ok (.iaload, 1)) (kk : g (sm S0 2 t) (pc + 1) L (iv (t 40 i) :: st)) : g (sm S0 2 t) pc L (iv e :: rf E (kMd 22) :: st) := xAld C (F := ar t 40) (n := 260) (kMd_lt (by decide)) (by rw [zMa (by decide), sm_eq]; rfl) he hi (by decide) d kk
theorem st_Md_licencesAt (C : Cw g own cc nL h l E) {e x : Int} (i : Nat) (he : e = (i : Int)) (hi : i < 260) (d : decode cc pc = .ok (.iastore, 1)) (kk : g (sm S0 2 (tu t 40 i x)) (pc + 1) L st) : g (sm S0 2 t) pc L (iv x :: iv e :: rf E (kMd 22) :: st) := xIst C (F := ar t 40) (n := 260) (kMd_lt (by decide)) (by rw [zMa (by decide), sm_eq]; rfl) he hi (by decide) (by rw [zMa (by decide), sm_eq, ← ar_eq]; rfl) (zD_ne (fun _ => oMd_ne (a := 22) (by decide)) (fun a ha hk => ar_ne (fun hh => hk (by rw [mdf_inj a ha 22 (by decide) hh])))) d kk
theorem x_Md_queue (C : Cw g own cc nL h l E) {e : Int} (i : Nat) (he : e = (i : Int)) (hi : i < 30) (d : decode cc pc = .ok (.iaload, 1)) (kk : g (sm S0 2 t) (pc + 1) L (iv (t 11 i) :: st)) : g (sm S0 2 t) pc L (iv e :: rf E (kMd 23) :: st) := xAld C (F := ar t 11) (n := 30) (kMd_lt (by decide)) (by rw [zMa (by decide), sm_eq]; rfl) he hi (by decide) d kk
theorem st_Md_queue (C : Cw g own cc nL h l E) {e x : Int} (i : Nat) (he : e = (i : Int)) (hi : i < 30) (d : decode cc pc = .ok (.iastore, 1)) (kk : g (sm S0 2 (tu t 11 i x)) (pc + 1) L st) : g (sm S0 2 t) pc L (iv x :: iv e :: rf E (kMd 23) :: st) := xIst C (F := ar t 11) (n := 30) (kMd_lt (by decide)) (by rw [zMa (by decide), sm_eq]; rfl) he hi (by decide) (by rw [zMa (by decide), sm_eq, ← ar_eq]; rfl) (zD_ne (fun _ => oMd_ne (a := 23) (by decide)) (fun a ha hk => ar_ne (fun hh => hk (by rw [mdf_inj a ha 23 (by decide) hh])))) d kk
theorem x_Md_wasState (C : Cw g own cc nL h l E) {e : Int} (i : Nat) (he : e = (i : Int)) (hi : i < 30) (d : decode cc pc = .ok (.iaload, 1)) (kk : g (sm S0 2 t) (pc + 1) L (iv (t 41 i) :: st)) : g (sm S0 2 t) pc L (iv e :: rf E (kMd 24) :: st) := xAld C (F := ar t 41) (n := 30) (kMd_lt (by decide)) (by rw [zMa (by decide), sm_eq]; rfl) he hi (by decide) d kk
theorem st_Md_wasState (C : Cw g own cc nL h l E) {e x : Int} (i : Nat) (he : e = (i : Int)) (hi : i < 30) (d : decode cc pc = .ok (.iastore, 1)) (kk : g (sm S0 2 (tu t 41 i x)) (pc + 1) L st) : g (sm S0 2 t) pc L (iv x :: iv e :: rf E (kMd 24) :: st) := xIst C (F := ar t 41) (n := 30) (kMd_lt (by decide)) (by rw [zMa (by decide), sm_eq]; rfl) he hi (by decide) (by rw [zMa (by decide), sm_eq, ← ar_eq]; rfl) (zD_ne (fun _ => oMd_ne (a := 24) (by decide)) (fun a ha hk => ar_ne (fun hh => hk (by rw [mdf_inj a ha 24 (by decide) hh])))) d kk
theorem x_Md_wasBegan (C : Cw g own cc nL h l E) {e : Int} (i : Nat) (he : e = (i : Int)) (hi : i < 30) (d : decode cc pc = .ok (.iaload, 1)) (kk : g (sm S0 2 t) (pc + 1) L (iv (t 42 i) :: st)) : g (sm S0 2 t) pc L (iv e :: rf E (kMd 25) :: st) := xAld C (F := ar t 42) (n := 30) (kMd_lt (by decide)) (by rw [zMa (by decide), sm_eq]; rfl) he hi (by decide) d kk
theorem st_Md_wasBegan (C : Cw g own cc nL h l E) {e x : Int} (i : Nat) (he : e = (i : Int)) (hi : i < 30) (d : decode cc pc = .ok (.iastore, 1)) (kk : g (sm S0 2 (tu t 42 i x)) (pc + 1) L st) : g (sm S0 2 t) pc L (iv x :: iv e :: rf E (kMd 25) :: st) := xIst C (F := ar t 42) (n := 30) (kMd_lt (by decide)) (by rw [zMa (by decide), sm_eq]; rfl) he hi (by decide) (by rw [zMa (by decide), sm_eq, ← ar_eq]; rfl) (zD_ne (fun _ => oMd_ne (a := 25) (by decide)) (fun a ha hk => ar_ne (fun hh => hk (by rw [mdf_inj a ha 25 (by decide) hh])))) d kk
theorem x_Md_wasEnded (C : Cw g own cc nL h l E) {e : Int} (i : Nat) (he : e = (i : Int)) (hi : i < 30) (d : decode cc pc = .ok (.iaload, 1)) (kk : g (sm S0 2 t) (pc + 1) L (iv (t 43 i) :: st)) : g (sm S0 2 t) pc L (iv e :: rf E (kMd 26) :: st) := xAld C (F := ar t 43) (n := 30) (kMd_lt (by decide)) (by rw [zMa (by decide), sm_eq]; rfl) he hi (by decide) d kk
theorem st_Md_wasEnded (C : Cw g own cc nL h l E) {e x : Int} (i : Nat) (he : e = (i : Int)) (hi : i < 30) (d : decode cc pc = .ok (.iastore, 1)) (kk : g (sm S0 2 (tu t 43 i x)) (pc + 1) L st) : g (sm S0 2 t) pc L (iv x :: iv e :: rf E (kMd 26) :: st) := xIst C (F := ar t 43) (n := 30) (kMd_lt (by decide)) (by rw [zMa (by decide), sm_eq]; rfl) he hi (by decide) (by rw [zMa (by decide), sm_eq, ← ar_eq]; rfl) (zD_ne (fun _ => oMd_ne (a := 26) (by decide)) (fun a ha hk => ar_ne (fun hh => hk (by rw [mdf_inj a ha 26 (by decide) hh])))) d kk
theorem x_Md_wasRan (C : Cw g own cc nL h l E) {e : Int} (i : Nat) (he : e = (i : Int)) (hi : i < 30) (d : decode cc pc = .ok (.iaload, 1)) (kk : g (sm S0 2 t) (pc + 1) L (iv (t 44 i) :: st)) : g (sm S0 2 t) pc L (iv e :: rf E (kMd 27) :: st) := xAld C (F := ar t 44) (n := 30) (kMd_lt (by decide)) (by rw [zMa (by decide), sm_eq]; rfl) he hi (by decide) d kk
theorem st_Md_wasRan (C : Cw g own cc nL h l E) {e x : Int} (i : Nat) (he : e = (i : Int)) (hi : i < 30) (d : decode cc pc = .ok (.iastore, 1)) (kk : g (sm S0 2 (tu t 44 i x)) (pc + 1) L st) : g (sm S0 2 t) pc L (iv x :: iv e :: rf E (kMd 27) :: st) := xIst C (F := ar t 44) (n := 30) (kMd_lt (by decide)) (by rw [zMa (by decide), sm_eq]; rfl) he hi (by decide) (by rw [zMa (by decide), sm_eq, ← ar_eq]; rfl) (zD_ne (fun _ => oMd_ne (a := 27) (by decide)) (fun a ha hk => ar_ne (fun hh => hk (by rw [mdf_inj a ha 27 (by decide) hh])))) d kk
theorem x_Md_wasLeft (C : Cw g own cc nL h l E) {e : Int} (i : Nat) (he : e = (i : Int)) (hi : i < 30) (d : decode cc pc = .ok (.iaload, 1)) (kk : g (sm S0 2 t) (pc + 1) L (iv (t 45 i) :: st)) : g (sm S0 2 t) pc L (iv e :: rf E (kMd 28) :: st) := xAld C (F := ar t 45) (n := 30) (kMd_lt (by decide)) (by rw [zMa (by decide), sm_eq]; rfl) he hi (by decide) d kk
theorem st_Md_wasLeft (C : Cw g own cc nL h l E) {e x : Int} (i : Nat) (he : e = (i : Int)) (hi : i < 30) (d : decode cc pc = .ok (.iastore, 1)) (kk : g (sm S0 2 (tu t 45 i x)) (pc + 1) L st) : g (sm S0 2 t) pc L (iv x :: iv e :: rf E (kMd 28) :: st) := xIst C (F := ar t 45) (n := 30) (kMd_lt (by decide)) (by rw [zMa (by decide), sm_eq]; rfl) he hi (by decide) (by rw [zMa (by decide), sm_eq, ← ar_eq]; rfl) (zD_ne (fun _ => oMd_ne (a := 28) (by decide)) (fun a ha hk => ar_ne (fun hh => hk (by rw [mdf_inj a ha 28 (by decide) hh])))) d kk
theorem x_Md_wasOn (C : Cw g own cc nL h l E) {e : Int} (i : Nat) (he : e = (i : Int)) (hi : i < 120) (d : decode cc pc = .ok (.iaload, 1)) (kk : g (sm S0 2 t) (pc + 1) L (iv (t 46 i) :: st)) : g (sm S0 2 t) pc L (iv e :: rf E (kMd 29) :: st) := xAld C (F := ar t 46) (n := 120) (kMd_lt (by decide)) (by rw [zMa (by decide), sm_eq]; rfl) he hi (by decide) d kk
theorem st_Md_wasOn (C : Cw g own cc nL h l E) {e x : Int} (i : Nat) (he : e = (i : Int)) (hi : i < 120) (d : decode cc pc = .ok (.iastore, 1)) (kk : g (sm S0 2 (tu t 46 i x)) (pc + 1) L st) : g (sm S0 2 t) pc L (iv x :: iv e :: rf E (kMd 29) :: st) := xIst C (F := ar t 46) (n := 120) (kMd_lt (by decide)) (by rw [zMa (by decide), sm_eq]; rfl) he hi (by decide) (by rw [zMa (by decide), sm_eq, ← ar_eq]; rfl) (zD_ne (fun _ => oMd_ne (a := 29) (by decide)) (fun a ha hk => ar_ne (fun hh => hk (by rw [mdf_inj a ha 29 (by decide) hh])))) d kk
theorem x_Md_wasUsed (C : Cw g own cc nL h l E) {e : Int} (i : Nat) (he : e = (i : Int)) (hi : i < 6) (d : decode cc pc = .ok (.iaload, 1)) (kk : g (sm S0 2 t) (pc + 1) L (iv (t 47 i) :: st)) : g (sm S0 2 t) pc L (iv e :: rf E (kMd 30) :: st) := xAld C (F := ar t 47) (n := 6) (kMd_lt (by decide)) (by rw [zMa (by decide), sm_eq]; rfl) he hi (by decide) d kk
theorem st_Md_wasUsed (C : Cw g own cc nL h l E) {e x : Int} (i : Nat) (he : e = (i : Int)) (hi : i < 6) (d : decode cc pc = .ok (.iastore, 1)) (kk : g (sm S0 2 (tu t 47 i x)) (pc + 1) L st) : g (sm S0 2 t) pc L (iv x :: iv e :: rf E (kMd 30) :: st) := xIst C (F := ar t 47) (n := 6) (kMd_lt (by decide)) (by rw [zMa (by decide), sm_eq]; rfl) he hi (by decide) (by rw [zMa (by decide), sm_eq, ← ar_eq]; rfl) (zD_ne (fun _ => oMd_ne (a := 30) (by decide)) (fun a ha hk => ar_ne (fun hh => hk (by rw [mdf_inj a ha 30 (by decide) hh])))) d kk
end ROWS
end
section
/-! ENTRIES, CALLS BY ARITY -/
def c1 (as : List Value) : Bool := as.all (fun v => v.category == 1)
theorem ent_mem : ∀ (as : List Value) (n k : Nat), c1 as = true → ∀ (i : Nat) (v : Value), (as.map some ++ List.replicate n (none : Option Value))[i]? = some (some v) → (k + i, v) ∈ lv_args k as := by
  intro as
  induction as with
  | nil =>
    intro n k _ i v h
    have h2 := List.mem_of_getElem? h
    simp at h2
  | cons a as ih =>
    intro n k hc i v h
    have hca : a.category = 1 := by simp [c1] at hc; exact hc.1
    have hcs : c1 as = true := by simp [c1] at hc ⊢; exact hc.2
    cases i with
    | zero =>
      simp at h
      rw [← h]
      exact List.mem_cons_self
    | succ i =>
      have h3 := ih n (k + 1) hcs i v (by simpa using h)
      refine List.mem_cons_of_mem _ ?_
      rw [if_neg (by omega), show k + (i + 1) = k + 1 + i by omega]
      exact h3
theorem ent_len : ∀ (as : List Value), c1 as = true → (lg_sl as).length = as.length := by
  intro as
  induction as with
  | nil => intro _; rfl
  | cons a as ih =>
    intro hc
    have hca : a.category = 1 := by simp [c1] at hc; exact hc.1
    have hcs : c1 as = true := by simp [c1] at hc ⊢; exact hc.2
    have e1 : lg_sl (a :: as) = [Slot.val a] ++ lg_sl as := by simp [lg_sl, hca]
    rw [e1, List.length_append, ih hcs]
    simp; omega
theorem ent_LH {as : List Value} {n : Nat} (hc : c1 as = true) (hn : as.length ≤ n) : LH ((lg_sl as ++ List.replicate (n - (lg_sl as).length) Slot.unset).toArray) n (as.map some ++ List.replicate (n - as.length) none) := by
  have h := lv_entry as (n := n) (by rw [ent_len as hc]; exact hn)
  refine ⟨by simp; omega, ⟨h.1, h.2.1, fun q hq => ?_⟩, fun i v hv => ?_⟩
  · have h2 := ent_mem as _ 0 hc q.1 q.2 (al_mem.mp hq)
    rw [Nat.zero_add] at h2
    exact h.2.2 q h2
  · have h2 := List.mem_of_getElem? hv
    rcases List.mem_append.mp h2 with h2 | h2
    · obtain ⟨w, hw, e1⟩ := List.mem_map.mp h2
      cases e1
      have := List.all_eq_true.mp hc v hw
      simpa using this
    · have := List.eq_of_mem_replicate h2
      cases this
section ENT
variable {l : Launch} {y : MethodName} {cc : ByteArray} {nL h : Nat} {E : Ew} {S S' : WW} {as : List Value}
theorem KfI {e : Int} (hy : plainName y.cls = true) (hc : c1 as = true) (hn : as.length ≤ nL) (body : ∀ g, Cw g y.cls cc nL h l E → (∀ {pc : Nat} {L : LL} {T : WW} {x : Int}, decode cc pc = .ok (.ireturn, 1) → x = e → T = S' → g T pc L [iv x]) → g S 0 (as.map some ++ List.replicate (nL - as.length) none) []) : Kf l y cc nL (some .int) h E S as (some (iv e)) S' := by
  intro D
  refine Met.ofW (cc := cc) (maxL := nL) (ret := some .int) hy rfl ?_
  intro p e0 s m args below meth c s₁ B hml hv
  obtain ⟨rfl, hE, hP, hK⟩ := hv
  have hlocks := B.notSynchronized
  have hts := atoms_spec (ws := Cond.code y cc nL (some .int) :: lw_w) B.pre
  rw [lg_entry_eq]
  refine body (fun S pc L st => ∀ (H : Heap) (locs : List Loc) (ls : Array Slot), va_P D classes (wld E S) H → va_S (Ax E) s.heap H locs → LH ls nL L → W p l e0 (headSpec (Cond.code y cc nL (some .int) :: lw_w) (Rm h)).room s m as.toArray below meth c H locs 0 0 (MQ below (Qx E D (some (iv e)) S') as.toArray s 0 0 (Ax E)) (F0 m pc ls st)) ⟨p, e0, _, s, m, as.toArray, below, meth, c, 0, 0, _, Ax E, s.heap, D, ⟨B.exec, B.bytes, hml, findClass_of_methodNamed B.named, fun w hw => hts w (List.mem_cons_of_mem _ hw)⟩, hE, fun k hk => ⟨k, hk, rfl⟩, hK, ⟨Nat.le_refl h, Nat.le_refl (40 * h), Nat.zero_le _, Nat.zero_le _⟩, fun _ _ _ _ => Iff.rfl⟩ ?_ s.heap [] _ hP va_S.rf (ent_LH hc hn)
  intro pc L T x d hx hT H locs ls hP hS hL
  subst hx; subst hT
  exact W.iret B.exec B.bytes B.returns (fun t ht hW => ⟨⟨rfl, by rw [ht]; exact hP⟩, hS.F ht⟩) hS.2.2 d
theorem KfZ {e : Int} (hy : plainName y.cls = true) (hc : c1 as = true) (hn : as.length ≤ nL) (body : ∀ g, Cw g y.cls cc nL h l E → (∀ {pc : Nat} {L : LL} {T : WW} {x : Int}, decode cc pc = .ok (.ireturn, 1) → (x = 0 ∨ x = 1) → x = e → T = S' → g T pc L [iv x]) → g S 0 (as.map some ++ List.replicate (nL - as.length) none) []) : Kf l y cc nL (some .boolean) h E S as (some (iv e)) S' := by
  intro D
  refine Met.ofW (cc := cc) (maxL := nL) (ret := some .boolean) hy rfl ?_
  intro p e0 s m args below meth c s₁ B hml hv
  obtain ⟨rfl, hE, hP, hK⟩ := hv
  have hlocks := B.notSynchronized
  have hts := atoms_spec (ws := Cond.code y cc nL (some .boolean) :: lw_w) B.pre
  rw [lg_entry_eq]
  refine body (fun S pc L st => ∀ (H : Heap) (locs : List Loc) (ls : Array Slot), va_P D classes (wld E S) H → va_S (Ax E) s.heap H locs → LH ls nL L → W p l e0 (headSpec (Cond.code y cc nL (some .boolean) :: lw_w) (Rm h)).room s m as.toArray below meth c H locs 0 0 (MQ below (Qx E D (some (iv e)) S') as.toArray s 0 0 (Ax E)) (F0 m pc ls st)) ⟨p, e0, _, s, m, as.toArray, below, meth, c, 0, 0, _, Ax E, s.heap, D, ⟨B.exec, B.bytes, hml, findClass_of_methodNamed B.named, fun w hw => hts w (List.mem_cons_of_mem _ hw)⟩, hE, fun k hk => ⟨k, hk, rfl⟩, hK, ⟨Nat.le_refl h, Nat.le_refl (40 * h), Nat.zero_le _, Nat.zero_le _⟩, fun _ _ _ _ => Iff.rfl⟩ ?_ s.heap [] _ hP va_S.rf (ent_LH hc hn)
  intro pc L T x d hx01 hx hT H locs ls hP hS hL
  subst hx; subst hT
  exact W.zret (ty := .boolean) B.exec B.bytes B.returns (by rcases hx01 with rfl | rfl <;> rfl) (fun t ht hW => ⟨⟨rfl, by rw [ht]; exact hP⟩, hS.F ht⟩) hS.2.2 d
theorem KfV (hy : plainName y.cls = true) (hc : c1 as = true) (hn : as.length ≤ nL) (body : ∀ g, Cw g y.cls cc nL h l E → (∀ {pc : Nat} {L : LL} {T : WW}, decode cc pc = .ok (.return_, 1) → T = S' → g T pc L []) → g S 0 (as.map some ++ List.replicate (nL - as.length) none) []) : Kf l y cc nL none h E S as none S' := by
  intro D
  refine Met.ofW (cc := cc) (maxL := nL) (ret := none) hy rfl ?_
  intro p e0 s m args below meth c s₁ B hml hv
  obtain ⟨rfl, hE, hP, hK⟩ := hv
  have hlocks := B.notSynchronized
  have hts := atoms_spec (ws := Cond.code y cc nL none :: lw_w) B.pre
  rw [lg_entry_eq]
  refine body (fun S pc L st => ∀ (H : Heap) (locs : List Loc) (ls : Array Slot), va_P D classes (wld E S) H → va_S (Ax E) s.heap H locs → LH ls nL L → W p l e0 (headSpec (Cond.code y cc nL none :: lw_w) (Rm h)).room s m as.toArray below meth c H locs 0 0 (MQ below (Qx E D none S') as.toArray s 0 0 (Ax E)) (F0 m pc ls st)) ⟨p, e0, _, s, m, as.toArray, below, meth, c, 0, 0, _, Ax E, s.heap, D, ⟨B.exec, B.bytes, hml, findClass_of_methodNamed B.named, fun w hw => hts w (List.mem_cons_of_mem _ hw)⟩, hE, fun k hk => ⟨k, hk, rfl⟩, hK, ⟨Nat.le_refl h, Nat.le_refl (40 * h), Nat.zero_le _, Nat.zero_le _⟩, fun _ _ _ _ => Iff.rfl⟩ ?_ s.heap [] _ hP va_S.rf (ent_LH hc hn)
  intro pc L T d hT H locs ls hP hS hL
  subst hT
  exact W.vret B.exec B.bytes B.returns (fun t ht hW => ⟨⟨rfl, by rw [ht]; exact hP⟩, hS.F ht⟩) hS.2.2 d
end ENT
section CALLS
variable {g : WW → Nat → LL → List Value → Prop} {own : String} {cc : ByteArray} {nL h : Nat} {l : Launch} {E : Ew} {S S' : WW} {pc : Nat} {L : LL} {st : List Value} {y : MethodName} {cb : ByteArray} {nB hB idx : Nat}
theorem r_cV0r (C : Cw g own cc nL h l E) {w : Value} {ty : FieldType} {k : Nat} (K : Kf l y cb nB (some ty) hB E S (rf E k :: []) (some w) S') (hh : hB < h) (hn : nB ≤ 21) (hl : Cond.methodLink own idx y ∈ lw_w) (hi : Cond.instanceMethod y ∈ lw_w) (hs : Cond.selects y.cls y y ∈ lw_w) (hc : Cond.code y cb nB (some ty) ∈ lw_w) (hin : Cond.initialized y.cls ∈ lw_w) (hd : y.cls ≠ "java/lang/invoke/MethodHandle" ∧ y.cls ≠ "java/lang/invoke/VarHandle" ∧ (parseMethodDescriptor y.desc).map (fun d => d.parameters.length) = some 0) {ci : Nat} {fs : List Value} {q : vw_C} (hk : k < 203) (hz : zcel E S k = .inr (ci, fs)) (hq : classes[ci]? = some q) (hqc : q.1 = y.cls) (hW : (st.map fun v => v.category).sum ≤ 8) (d : decode cc pc = .ok (.invokevirtual idx, 3)) (kk : g S' (pc + 3) L (w :: st)) : g S pc L (rf E k :: st) := r_callV C K hh hn hl hi hs hc hin hd hk hz hq hqc hW d kk
theorem r_cS0r (C : Cw g own cc nL h l E) {w : Value} {ty : FieldType} (K : Kf l y cb nB (some ty) hB E S [] (some w) S') (hh : hB < h) (hn : nB ≤ 21) (hl : Cond.methodLink own idx y ∈ lw_w) (hi : Cond.static y ∈ lw_w) (hc : Cond.code y cb nB (some ty) ∈ lw_w) (hin : Cond.initialized y.cls ∈ lw_w) (hd : y.cls ≠ "java/lang/invoke/MethodHandle" ∧ y.cls ≠ "java/lang/invoke/VarHandle" ∧ (parseMethodDescriptor y.desc).map (fun d => d.parameters.length) = some 0) (hW : (st.map fun v => v.category).sum ≤ 8) (d : decode cc pc = .ok (.invokestatic idx, 3)) (kk : g S' (pc + 3) L (w :: st)) : g S pc L (st) := r_callS C K hh hn hl hi hc hin hd hW d kk
theorem r_cV0v (C : Cw g own cc nL h l E) {k : Nat} (K : Kf l y cb nB (none) hB E S (rf E k :: []) none S') (hh : hB < h) (hn : nB ≤ 21) (hl : Cond.methodLink own idx y ∈ lw_w) (hi : Cond.instanceMethod y ∈ lw_w) (hs : Cond.selects y.cls y y ∈ lw_w) (hc : Cond.code y cb nB (none) ∈ lw_w) (hin : Cond.initialized y.cls ∈ lw_w) (hd : y.cls ≠ "java/lang/invoke/MethodHandle" ∧ y.cls ≠ "java/lang/invoke/VarHandle" ∧ (parseMethodDescriptor y.desc).map (fun d => d.parameters.length) = some 0) {ci : Nat} {fs : List Value} {q : vw_C} (hk : k < 203) (hz : zcel E S k = .inr (ci, fs)) (hq : classes[ci]? = some q) (hqc : q.1 = y.cls) (hW : (st.map fun v => v.category).sum ≤ 8) (d : decode cc pc = .ok (.invokevirtual idx, 3)) (kk : g S' (pc + 3) L (st)) : g S pc L (rf E k :: st) := r_callV C K hh hn hl hi hs hc hin hd hk hz hq hqc hW d kk
theorem r_cS0v (C : Cw g own cc nL h l E) (K : Kf l y cb nB (none) hB E S [] none S') (hh : hB < h) (hn : nB ≤ 21) (hl : Cond.methodLink own idx y ∈ lw_w) (hi : Cond.static y ∈ lw_w) (hc : Cond.code y cb nB (none) ∈ lw_w) (hin : Cond.initialized y.cls ∈ lw_w) (hd : y.cls ≠ "java/lang/invoke/MethodHandle" ∧ y.cls ≠ "java/lang/invoke/VarHandle" ∧ (parseMethodDescriptor y.desc).map (fun d => d.parameters.length) = some 0) (hW : (st.map fun v => v.category).sum ≤ 8) (d : decode cc pc = .ok (.invokestatic idx, 3)) (kk : g S' (pc + 3) L (st)) : g S pc L (st) := r_callS C K hh hn hl hi hc hin hd hW d kk
theorem r_cV1r (C : Cw g own cc nL h l E) {x0 : Value} {w : Value} {ty : FieldType} {k : Nat} (K : Kf l y cb nB (some ty) hB E S (rf E k :: [x0]) (some w) S') (hh : hB < h) (hn : nB ≤ 21) (hl : Cond.methodLink own idx y ∈ lw_w) (hi : Cond.instanceMethod y ∈ lw_w) (hs : Cond.selects y.cls y y ∈ lw_w) (hc : Cond.code y cb nB (some ty) ∈ lw_w) (hin : Cond.initialized y.cls ∈ lw_w) (hd : y.cls ≠ "java/lang/invoke/MethodHandle" ∧ y.cls ≠ "java/lang/invoke/VarHandle" ∧ (parseMethodDescriptor y.desc).map (fun d => d.parameters.length) = some 1) {ci : Nat} {fs : List Value} {q : vw_C} (hk : k < 203) (hz : zcel E S k = .inr (ci, fs)) (hq : classes[ci]? = some q) (hqc : q.1 = y.cls) (hW : (st.map fun v => v.category).sum ≤ 8) (d : decode cc pc = .ok (.invokevirtual idx, 3)) (kk : g S' (pc + 3) L (w :: st)) : g S pc L (x0 :: rf E k :: st) := r_callV C K hh hn hl hi hs hc hin hd hk hz hq hqc hW d kk
theorem r_cS1r (C : Cw g own cc nL h l E) {x0 : Value} {w : Value} {ty : FieldType} (K : Kf l y cb nB (some ty) hB E S [x0] (some w) S') (hh : hB < h) (hn : nB ≤ 21) (hl : Cond.methodLink own idx y ∈ lw_w) (hi : Cond.static y ∈ lw_w) (hc : Cond.code y cb nB (some ty) ∈ lw_w) (hin : Cond.initialized y.cls ∈ lw_w) (hd : y.cls ≠ "java/lang/invoke/MethodHandle" ∧ y.cls ≠ "java/lang/invoke/VarHandle" ∧ (parseMethodDescriptor y.desc).map (fun d => d.parameters.length) = some 1) (hW : (st.map fun v => v.category).sum ≤ 8) (d : decode cc pc = .ok (.invokestatic idx, 3)) (kk : g S' (pc + 3) L (w :: st)) : g S pc L (x0 :: st) := r_callS C K hh hn hl hi hc hin hd hW d kk
theorem r_cV1v (C : Cw g own cc nL h l E) {x0 : Value} {k : Nat} (K : Kf l y cb nB (none) hB E S (rf E k :: [x0]) none S') (hh : hB < h) (hn : nB ≤ 21) (hl : Cond.methodLink own idx y ∈ lw_w) (hi : Cond.instanceMethod y ∈ lw_w) (hs : Cond.selects y.cls y y ∈ lw_w) (hc : Cond.code y cb nB (none) ∈ lw_w) (hin : Cond.initialized y.cls ∈ lw_w) (hd : y.cls ≠ "java/lang/invoke/MethodHandle" ∧ y.cls ≠ "java/lang/invoke/VarHandle" ∧ (parseMethodDescriptor y.desc).map (fun d => d.parameters.length) = some 1) {ci : Nat} {fs : List Value} {q : vw_C} (hk : k < 203) (hz : zcel E S k = .inr (ci, fs)) (hq : classes[ci]? = some q) (hqc : q.1 = y.cls) (hW : (st.map fun v => v.category).sum ≤ 8) (d : decode cc pc = .ok (.invokevirtual idx, 3)) (kk : g S' (pc + 3) L (st)) : g S pc L (x0 :: rf E k :: st) := r_callV C K hh hn hl hi hs hc hin hd hk hz hq hqc hW d kk
theorem r_cS1v (C : Cw g own cc nL h l E) {x0 : Value} (K : Kf l y cb nB (none) hB E S [x0] none S') (hh : hB < h) (hn : nB ≤ 21) (hl : Cond.methodLink own idx y ∈ lw_w) (hi : Cond.static y ∈ lw_w) (hc : Cond.code y cb nB (none) ∈ lw_w) (hin : Cond.initialized y.cls ∈ lw_w) (hd : y.cls ≠ "java/lang/invoke/MethodHandle" ∧ y.cls ≠ "java/lang/invoke/VarHandle" ∧ (parseMethodDescriptor y.desc).map (fun d => d.parameters.length) = some 1) (hW : (st.map fun v => v.category).sum ≤ 8) (d : decode cc pc = .ok (.invokestatic idx, 3)) (kk : g S' (pc + 3) L (st)) : g S pc L (x0 :: st) := r_callS C K hh hn hl hi hc hin hd hW d kk
theorem r_cV2r (C : Cw g own cc nL h l E) {x0 x1 : Value} {w : Value} {ty : FieldType} {k : Nat} (K : Kf l y cb nB (some ty) hB E S (rf E k :: [x0, x1]) (some w) S') (hh : hB < h) (hn : nB ≤ 21) (hl : Cond.methodLink own idx y ∈ lw_w) (hi : Cond.instanceMethod y ∈ lw_w) (hs : Cond.selects y.cls y y ∈ lw_w) (hc : Cond.code y cb nB (some ty) ∈ lw_w) (hin : Cond.initialized y.cls ∈ lw_w) (hd : y.cls ≠ "java/lang/invoke/MethodHandle" ∧ y.cls ≠ "java/lang/invoke/VarHandle" ∧ (parseMethodDescriptor y.desc).map (fun d => d.parameters.length) = some 2) {ci : Nat} {fs : List Value} {q : vw_C} (hk : k < 203) (hz : zcel E S k = .inr (ci, fs)) (hq : classes[ci]? = some q) (hqc : q.1 = y.cls) (hW : (st.map fun v => v.category).sum ≤ 8) (d : decode cc pc = .ok (.invokevirtual idx, 3)) (kk : g S' (pc + 3) L (w :: st)) : g S pc L (x1 :: x0 :: rf E k :: st) := r_callV C K hh hn hl hi hs hc hin hd hk hz hq hqc hW d kk
theorem r_cS2r (C : Cw g own cc nL h l E) {x0 x1 : Value} {w : Value} {ty : FieldType} (K : Kf l y cb nB (some ty) hB E S [x0, x1] (some w) S') (hh : hB < h) (hn : nB ≤ 21) (hl : Cond.methodLink own idx y ∈ lw_w) (hi : Cond.static y ∈ lw_w) (hc : Cond.code y cb nB (some ty) ∈ lw_w) (hin : Cond.initialized y.cls ∈ lw_w) (hd : y.cls ≠ "java/lang/invoke/MethodHandle" ∧ y.cls ≠ "java/lang/invoke/VarHandle" ∧ (parseMethodDescriptor y.desc).map (fun d => d.parameters.length) = some 2) (hW : (st.map fun v => v.category).sum ≤ 8) (d : decode cc pc = .ok (.invokestatic idx, 3)) (kk : g S' (pc + 3) L (w :: st)) : g S pc L (x1 :: x0 :: st) := r_callS C K hh hn hl hi hc hin hd hW d kk
theorem r_cV2v (C : Cw g own cc nL h l E) {x0 x1 : Value} {k : Nat} (K : Kf l y cb nB (none) hB E S (rf E k :: [x0, x1]) none S') (hh : hB < h) (hn : nB ≤ 21) (hl : Cond.methodLink own idx y ∈ lw_w) (hi : Cond.instanceMethod y ∈ lw_w) (hs : Cond.selects y.cls y y ∈ lw_w) (hc : Cond.code y cb nB (none) ∈ lw_w) (hin : Cond.initialized y.cls ∈ lw_w) (hd : y.cls ≠ "java/lang/invoke/MethodHandle" ∧ y.cls ≠ "java/lang/invoke/VarHandle" ∧ (parseMethodDescriptor y.desc).map (fun d => d.parameters.length) = some 2) {ci : Nat} {fs : List Value} {q : vw_C} (hk : k < 203) (hz : zcel E S k = .inr (ci, fs)) (hq : classes[ci]? = some q) (hqc : q.1 = y.cls) (hW : (st.map fun v => v.category).sum ≤ 8) (d : decode cc pc = .ok (.invokevirtual idx, 3)) (kk : g S' (pc + 3) L (st)) : g S pc L (x1 :: x0 :: rf E k :: st) := r_callV C K hh hn hl hi hs hc hin hd hk hz hq hqc hW d kk
theorem r_cS2v (C : Cw g own cc nL h l E) {x0 x1 : Value} (K : Kf l y cb nB (none) hB E S [x0, x1] none S') (hh : hB < h) (hn : nB ≤ 21) (hl : Cond.methodLink own idx y ∈ lw_w) (hi : Cond.static y ∈ lw_w) (hc : Cond.code y cb nB (none) ∈ lw_w) (hin : Cond.initialized y.cls ∈ lw_w) (hd : y.cls ≠ "java/lang/invoke/MethodHandle" ∧ y.cls ≠ "java/lang/invoke/VarHandle" ∧ (parseMethodDescriptor y.desc).map (fun d => d.parameters.length) = some 2) (hW : (st.map fun v => v.category).sum ≤ 8) (d : decode cc pc = .ok (.invokestatic idx, 3)) (kk : g S' (pc + 3) L (st)) : g S pc L (x1 :: x0 :: st) := r_callS C K hh hn hl hi hc hin hd hW d kk
theorem r_cV3r (C : Cw g own cc nL h l E) {x0 x1 x2 : Value} {w : Value} {ty : FieldType} {k : Nat} (K : Kf l y cb nB (some ty) hB E S (rf E k :: [x0, x1, x2]) (some w) S') (hh : hB < h) (hn : nB ≤ 21) (hl : Cond.methodLink own idx y ∈ lw_w) (hi : Cond.instanceMethod y ∈ lw_w) (hs : Cond.selects y.cls y y ∈ lw_w) (hc : Cond.code y cb nB (some ty) ∈ lw_w) (hin : Cond.initialized y.cls ∈ lw_w) (hd : y.cls ≠ "java/lang/invoke/MethodHandle" ∧ y.cls ≠ "java/lang/invoke/VarHandle" ∧ (parseMethodDescriptor y.desc).map (fun d => d.parameters.length) = some 3) {ci : Nat} {fs : List Value} {q : vw_C} (hk : k < 203) (hz : zcel E S k = .inr (ci, fs)) (hq : classes[ci]? = some q) (hqc : q.1 = y.cls) (hW : (st.map fun v => v.category).sum ≤ 8) (d : decode cc pc = .ok (.invokevirtual idx, 3)) (kk : g S' (pc + 3) L (w :: st)) : g S pc L (x2 :: x1 :: x0 :: rf E k :: st) := r_callV C K hh hn hl hi hs hc hin hd hk hz hq hqc hW d kk
theorem r_cS3r (C : Cw g own cc nL h l E) {x0 x1 x2 : Value} {w : Value} {ty : FieldType} (K : Kf l y cb nB (some ty) hB E S [x0, x1, x2] (some w) S') (hh : hB < h) (hn : nB ≤ 21) (hl : Cond.methodLink own idx y ∈ lw_w) (hi : Cond.static y ∈ lw_w) (hc : Cond.code y cb nB (some ty) ∈ lw_w) (hin : Cond.initialized y.cls ∈ lw_w) (hd : y.cls ≠ "java/lang/invoke/MethodHandle" ∧ y.cls ≠ "java/lang/invoke/VarHandle" ∧ (parseMethodDescriptor y.desc).map (fun d => d.parameters.length) = some 3) (hW : (st.map fun v => v.category).sum ≤ 8) (d : decode cc pc = .ok (.invokestatic idx, 3)) (kk : g S' (pc + 3) L (w :: st)) : g S pc L (x2 :: x1 :: x0 :: st) := r_callS C K hh hn hl hi hc hin hd hW d kk
theorem r_cV3v (C : Cw g own cc nL h l E) {x0 x1 x2 : Value} {k : Nat} (K : Kf l y cb nB (none) hB E S (rf E k :: [x0, x1, x2]) none S') (hh : hB < h) (hn : nB ≤ 21) (hl : Cond.methodLink own idx y ∈ lw_w) (hi : Cond.instanceMethod y ∈ lw_w) (hs : Cond.selects y.cls y y ∈ lw_w) (hc : Cond.code y cb nB (none) ∈ lw_w) (hin : Cond.initialized y.cls ∈ lw_w) (hd : y.cls ≠ "java/lang/invoke/MethodHandle" ∧ y.cls ≠ "java/lang/invoke/VarHandle" ∧ (parseMethodDescriptor y.desc).map (fun d => d.parameters.length) = some 3) {ci : Nat} {fs : List Value} {q : vw_C} (hk : k < 203) (hz : zcel E S k = .inr (ci, fs)) (hq : classes[ci]? = some q) (hqc : q.1 = y.cls) (hW : (st.map fun v => v.category).sum ≤ 8) (d : decode cc pc = .ok (.invokevirtual idx, 3)) (kk : g S' (pc + 3) L (st)) : g S pc L (x2 :: x1 :: x0 :: rf E k :: st) := r_callV C K hh hn hl hi hs hc hin hd hk hz hq hqc hW d kk
theorem r_cS3v (C : Cw g own cc nL h l E) {x0 x1 x2 : Value} (K : Kf l y cb nB (none) hB E S [x0, x1, x2] none S') (hh : hB < h) (hn : nB ≤ 21) (hl : Cond.methodLink own idx y ∈ lw_w) (hi : Cond.static y ∈ lw_w) (hc : Cond.code y cb nB (none) ∈ lw_w) (hin : Cond.initialized y.cls ∈ lw_w) (hd : y.cls ≠ "java/lang/invoke/MethodHandle" ∧ y.cls ≠ "java/lang/invoke/VarHandle" ∧ (parseMethodDescriptor y.desc).map (fun d => d.parameters.length) = some 3) (hW : (st.map fun v => v.category).sum ≤ 8) (d : decode cc pc = .ok (.invokestatic idx, 3)) (kk : g S' (pc + 3) L (st)) : g S pc L (x2 :: x1 :: x0 :: st) := r_callS C K hh hn hl hi hc hin hd hW d kk
theorem r_cV4r (C : Cw g own cc nL h l E) {x0 x1 x2 x3 : Value} {w : Value} {ty : FieldType} {k : Nat} (K : Kf l y cb nB (some ty) hB E S (rf E k :: [x0, x1, x2, x3]) (some w) S') (hh : hB < h) (hn : nB ≤ 21) (hl : Cond.methodLink own idx y ∈ lw_w) (hi : Cond.instanceMethod y ∈ lw_w) (hs : Cond.selects y.cls y y ∈ lw_w) (hc : Cond.code y cb nB (some ty) ∈ lw_w) (hin : Cond.initialized y.cls ∈ lw_w) (hd : y.cls ≠ "java/lang/invoke/MethodHandle" ∧ y.cls ≠ "java/lang/invoke/VarHandle" ∧ (parseMethodDescriptor y.desc).map (fun d => d.parameters.length) = some 4) {ci : Nat} {fs : List Value} {q : vw_C} (hk : k < 203) (hz : zcel E S k = .inr (ci, fs)) (hq : classes[ci]? = some q) (hqc : q.1 = y.cls) (hW : (st.map fun v => v.category).sum ≤ 8) (d : decode cc pc = .ok (.invokevirtual idx, 3)) (kk : g S' (pc + 3) L (w :: st)) : g S pc L (x3 :: x2 :: x1 :: x0 :: rf E k :: st) := r_callV C K hh hn hl hi hs hc hin hd hk hz hq hqc hW d kk
theorem r_cS4r (C : Cw g own cc nL h l E) {x0 x1 x2 x3 : Value} {w : Value} {ty : FieldType} (K : Kf l y cb nB (some ty) hB E S [x0, x1, x2, x3] (some w) S') (hh : hB < h) (hn : nB ≤ 21) (hl : Cond.methodLink own idx y ∈ lw_w) (hi : Cond.static y ∈ lw_w) (hc : Cond.code y cb nB (some ty) ∈ lw_w) (hin : Cond.initialized y.cls ∈ lw_w) (hd : y.cls ≠ "java/lang/invoke/MethodHandle" ∧ y.cls ≠ "java/lang/invoke/VarHandle" ∧ (parseMethodDescriptor y.desc).map (fun d => d.parameters.length) = some 4) (hW : (st.map fun v => v.category).sum ≤ 8) (d : decode cc pc = .ok (.invokestatic idx, 3)) (kk : g S' (pc + 3) L (w :: st)) : g S pc L (x3 :: x2 :: x1 :: x0 :: st) := r_callS C K hh hn hl hi hc hin hd hW d kk
theorem r_cV4v (C : Cw g own cc nL h l E) {x0 x1 x2 x3 : Value} {k : Nat} (K : Kf l y cb nB (none) hB E S (rf E k :: [x0, x1, x2, x3]) none S') (hh : hB < h) (hn : nB ≤ 21) (hl : Cond.methodLink own idx y ∈ lw_w) (hi : Cond.instanceMethod y ∈ lw_w) (hs : Cond.selects y.cls y y ∈ lw_w) (hc : Cond.code y cb nB (none) ∈ lw_w) (hin : Cond.initialized y.cls ∈ lw_w) (hd : y.cls ≠ "java/lang/invoke/MethodHandle" ∧ y.cls ≠ "java/lang/invoke/VarHandle" ∧ (parseMethodDescriptor y.desc).map (fun d => d.parameters.length) = some 4) {ci : Nat} {fs : List Value} {q : vw_C} (hk : k < 203) (hz : zcel E S k = .inr (ci, fs)) (hq : classes[ci]? = some q) (hqc : q.1 = y.cls) (hW : (st.map fun v => v.category).sum ≤ 8) (d : decode cc pc = .ok (.invokevirtual idx, 3)) (kk : g S' (pc + 3) L (st)) : g S pc L (x3 :: x2 :: x1 :: x0 :: rf E k :: st) := r_callV C K hh hn hl hi hs hc hin hd hk hz hq hqc hW d kk
theorem r_cS4v (C : Cw g own cc nL h l E) {x0 x1 x2 x3 : Value} (K : Kf l y cb nB (none) hB E S [x0, x1, x2, x3] none S') (hh : hB < h) (hn : nB ≤ 21) (hl : Cond.methodLink own idx y ∈ lw_w) (hi : Cond.static y ∈ lw_w) (hc : Cond.code y cb nB (none) ∈ lw_w) (hin : Cond.initialized y.cls ∈ lw_w) (hd : y.cls ≠ "java/lang/invoke/MethodHandle" ∧ y.cls ≠ "java/lang/invoke/VarHandle" ∧ (parseMethodDescriptor y.desc).map (fun d => d.parameters.length) = some 4) (hW : (st.map fun v => v.category).sum ≤ 8) (d : decode cc pc = .ok (.invokestatic idx, 3)) (kk : g S' (pc + 3) L (st)) : g S pc L (x3 :: x2 :: x1 :: x0 :: st) := r_callS C K hh hn hl hi hc hin hd hW d kk
theorem r_cV5r (C : Cw g own cc nL h l E) {x0 x1 x2 x3 x4 : Value} {w : Value} {ty : FieldType} {k : Nat} (K : Kf l y cb nB (some ty) hB E S (rf E k :: [x0, x1, x2, x3, x4]) (some w) S') (hh : hB < h) (hn : nB ≤ 21) (hl : Cond.methodLink own idx y ∈ lw_w) (hi : Cond.instanceMethod y ∈ lw_w) (hs : Cond.selects y.cls y y ∈ lw_w) (hc : Cond.code y cb nB (some ty) ∈ lw_w) (hin : Cond.initialized y.cls ∈ lw_w) (hd : y.cls ≠ "java/lang/invoke/MethodHandle" ∧ y.cls ≠ "java/lang/invoke/VarHandle" ∧ (parseMethodDescriptor y.desc).map (fun d => d.parameters.length) = some 5) {ci : Nat} {fs : List Value} {q : vw_C} (hk : k < 203) (hz : zcel E S k = .inr (ci, fs)) (hq : classes[ci]? = some q) (hqc : q.1 = y.cls) (hW : (st.map fun v => v.category).sum ≤ 8) (d : decode cc pc = .ok (.invokevirtual idx, 3)) (kk : g S' (pc + 3) L (w :: st)) : g S pc L (x4 :: x3 :: x2 :: x1 :: x0 :: rf E k :: st) := r_callV C K hh hn hl hi hs hc hin hd hk hz hq hqc hW d kk
theorem r_cS5r (C : Cw g own cc nL h l E) {x0 x1 x2 x3 x4 : Value} {w : Value} {ty : FieldType} (K : Kf l y cb nB (some ty) hB E S [x0, x1, x2, x3, x4] (some w) S') (hh : hB < h) (hn : nB ≤ 21) (hl : Cond.methodLink own idx y ∈ lw_w) (hi : Cond.static y ∈ lw_w) (hc : Cond.code y cb nB (some ty) ∈ lw_w) (hin : Cond.initialized y.cls ∈ lw_w) (hd : y.cls ≠ "java/lang/invoke/MethodHandle" ∧ y.cls ≠ "java/lang/invoke/VarHandle" ∧ (parseMethodDescriptor y.desc).map (fun d => d.parameters.length) = some 5) (hW : (st.map fun v => v.category).sum ≤ 8) (d : decode cc pc = .ok (.invokestatic idx, 3)) (kk : g S' (pc + 3) L (w :: st)) : g S pc L (x4 :: x3 :: x2 :: x1 :: x0 :: st) := r_callS C K hh hn hl hi hc hin hd hW d kk
theorem r_cV5v (C : Cw g own cc nL h l E) {x0 x1 x2 x3 x4 : Value} {k : Nat} (K : Kf l y cb nB (none) hB E S (rf E k :: [x0, x1, x2, x3, x4]) none S') (hh : hB < h) (hn : nB ≤ 21) (hl : Cond.methodLink own idx y ∈ lw_w) (hi : Cond.instanceMethod y ∈ lw_w) (hs : Cond.selects y.cls y y ∈ lw_w) (hc : Cond.code y cb nB (none) ∈ lw_w) (hin : Cond.initialized y.cls ∈ lw_w) (hd : y.cls ≠ "java/lang/invoke/MethodHandle" ∧ y.cls ≠ "java/lang/invoke/VarHandle" ∧ (parseMethodDescriptor y.desc).map (fun d => d.parameters.length) = some 5) {ci : Nat} {fs : List Value} {q : vw_C} (hk : k < 203) (hz : zcel E S k = .inr (ci, fs)) (hq : classes[ci]? = some q) (hqc : q.1 = y.cls) (hW : (st.map fun v => v.category).sum ≤ 8) (d : decode cc pc = .ok (.invokevirtual idx, 3)) (kk : g S' (pc + 3) L (st)) : g S pc L (x4 :: x3 :: x2 :: x1 :: x0 :: rf E k :: st) := r_callV C K hh hn hl hi hs hc hin hd hk hz hq hqc hW d kk
theorem r_cS5v (C : Cw g own cc nL h l E) {x0 x1 x2 x3 x4 : Value} (K : Kf l y cb nB (none) hB E S [x0, x1, x2, x3, x4] none S') (hh : hB < h) (hn : nB ≤ 21) (hl : Cond.methodLink own idx y ∈ lw_w) (hi : Cond.static y ∈ lw_w) (hc : Cond.code y cb nB (none) ∈ lw_w) (hin : Cond.initialized y.cls ∈ lw_w) (hd : y.cls ≠ "java/lang/invoke/MethodHandle" ∧ y.cls ≠ "java/lang/invoke/VarHandle" ∧ (parseMethodDescriptor y.desc).map (fun d => d.parameters.length) = some 5) (hW : (st.map fun v => v.category).sum ≤ 8) (d : decode cc pc = .ok (.invokestatic idx, 3)) (kk : g S' (pc + 3) L (st)) : g S pc L (x4 :: x3 :: x2 :: x1 :: x0 :: st) := r_callS C K hh hn hl hi hc hin hd hW d kk
theorem r_cV6r (C : Cw g own cc nL h l E) {x0 x1 x2 x3 x4 x5 : Value} {w : Value} {ty : FieldType} {k : Nat} (K : Kf l y cb nB (some ty) hB E S (rf E k :: [x0, x1, x2, x3, x4, x5]) (some w) S') (hh : hB < h) (hn : nB ≤ 21) (hl : Cond.methodLink own idx y ∈ lw_w) (hi : Cond.instanceMethod y ∈ lw_w) (hs : Cond.selects y.cls y y ∈ lw_w) (hc : Cond.code y cb nB (some ty) ∈ lw_w) (hin : Cond.initialized y.cls ∈ lw_w) (hd : y.cls ≠ "java/lang/invoke/MethodHandle" ∧ y.cls ≠ "java/lang/invoke/VarHandle" ∧ (parseMethodDescriptor y.desc).map (fun d => d.parameters.length) = some 6) {ci : Nat} {fs : List Value} {q : vw_C} (hk : k < 203) (hz : zcel E S k = .inr (ci, fs)) (hq : classes[ci]? = some q) (hqc : q.1 = y.cls) (hW : (st.map fun v => v.category).sum ≤ 8) (d : decode cc pc = .ok (.invokevirtual idx, 3)) (kk : g S' (pc + 3) L (w :: st)) : g S pc L (x5 :: x4 :: x3 :: x2 :: x1 :: x0 :: rf E k :: st) := r_callV C K hh hn hl hi hs hc hin hd hk hz hq hqc hW d kk
theorem r_cS6r (C : Cw g own cc nL h l E) {x0 x1 x2 x3 x4 x5 : Value} {w : Value} {ty : FieldType} (K : Kf l y cb nB (some ty) hB E S [x0, x1, x2, x3, x4, x5] (some w) S') (hh : hB < h) (hn : nB ≤ 21) (hl : Cond.methodLink own idx y ∈ lw_w) (hi : Cond.static y ∈ lw_w) (hc : Cond.code y cb nB (some ty) ∈ lw_w) (hin : Cond.initialized y.cls ∈ lw_w) (hd : y.cls ≠ "java/lang/invoke/MethodHandle" ∧ y.cls ≠ "java/lang/invoke/VarHandle" ∧ (parseMethodDescriptor y.desc).map (fun d => d.parameters.length) = some 6) (hW : (st.map fun v => v.category).sum ≤ 8) (d : decode cc pc = .ok (.invokestatic idx, 3)) (kk : g S' (pc + 3) L (w :: st)) : g S pc L (x5 :: x4 :: x3 :: x2 :: x1 :: x0 :: st) := r_callS C K hh hn hl hi hc hin hd hW d kk
theorem r_cV6v (C : Cw g own cc nL h l E) {x0 x1 x2 x3 x4 x5 : Value} {k : Nat} (K : Kf l y cb nB (none) hB E S (rf E k :: [x0, x1, x2, x3, x4, x5]) none S') (hh : hB < h) (hn : nB ≤ 21) (hl : Cond.methodLink own idx y ∈ lw_w) (hi : Cond.instanceMethod y ∈ lw_w) (hs : Cond.selects y.cls y y ∈ lw_w) (hc : Cond.code y cb nB (none) ∈ lw_w) (hin : Cond.initialized y.cls ∈ lw_w) (hd : y.cls ≠ "java/lang/invoke/MethodHandle" ∧ y.cls ≠ "java/lang/invoke/VarHandle" ∧ (parseMethodDescriptor y.desc).map (fun d => d.parameters.length) = some 6) {ci : Nat} {fs : List Value} {q : vw_C} (hk : k < 203) (hz : zcel E S k = .inr (ci, fs)) (hq : classes[ci]? = some q) (hqc : q.1 = y.cls) (hW : (st.map fun v => v.category).sum ≤ 8) (d : decode cc pc = .ok (.invokevirtual idx, 3)) (kk : g S' (pc + 3) L (st)) : g S pc L (x5 :: x4 :: x3 :: x2 :: x1 :: x0 :: rf E k :: st) := r_callV C K hh hn hl hi hs hc hin hd hk hz hq hqc hW d kk
theorem r_cS6v (C : Cw g own cc nL h l E) {x0 x1 x2 x3 x4 x5 : Value} (K : Kf l y cb nB (none) hB E S [x0, x1, x2, x3, x4, x5] none S') (hh : hB < h) (hn : nB ≤ 21) (hl : Cond.methodLink own idx y ∈ lw_w) (hi : Cond.static y ∈ lw_w) (hc : Cond.code y cb nB (none) ∈ lw_w) (hin : Cond.initialized y.cls ∈ lw_w) (hd : y.cls ≠ "java/lang/invoke/MethodHandle" ∧ y.cls ≠ "java/lang/invoke/VarHandle" ∧ (parseMethodDescriptor y.desc).map (fun d => d.parameters.length) = some 6) (hW : (st.map fun v => v.category).sum ≤ 8) (d : decode cc pc = .ok (.invokestatic idx, 3)) (kk : g S' (pc + 3) L (st)) : g S pc L (x5 :: x4 :: x3 :: x2 :: x1 :: x0 :: st) := r_callS C K hh hn hl hi hc hin hd hW d kk
end CALLS
theorem md_Gm_rack : y_Gm_rack.cls ≠ "java/lang/invoke/MethodHandle" ∧ y_Gm_rack.cls ≠ "java/lang/invoke/VarHandle" ∧ (parseMethodDescriptor y_Gm_rack.desc).map (fun d => d.parameters.length) = some 1 := by decide +kernel
theorem md_Gm_isOutside : y_Gm_isOutside.cls ≠ "java/lang/invoke/MethodHandle" ∧ y_Gm_isOutside.cls ≠ "java/lang/invoke/VarHandle" ∧ (parseMethodDescriptor y_Gm_isOutside.desc).map (fun d => d.parameters.length) = some 3 := by decide +kernel
theorem md_Mc_addRack : y_Mc_addRack.cls ≠ "java/lang/invoke/MethodHandle" ∧ y_Mc_addRack.cls ≠ "java/lang/invoke/VarHandle" ∧ (parseMethodDescriptor y_Mc_addRack.desc).map (fun d => d.parameters.length) = some 1 := by decide +kernel
theorem md_Mc_recount : y_Mc_recount.cls ≠ "java/lang/invoke/MethodHandle" ∧ y_Mc_recount.cls ≠ "java/lang/invoke/VarHandle" ∧ (parseMethodDescriptor y_Mc_recount.desc).map (fun d => d.parameters.length) = some 0 := by decide +kernel
theorem md_Mc_countedOf : y_Mc_countedOf.cls ≠ "java/lang/invoke/MethodHandle" ∧ y_Mc_countedOf.cls ≠ "java/lang/invoke/VarHandle" ∧ (parseMethodDescriptor y_Mc_countedOf.desc).map (fun d => d.parameters.length) = some 1 := by decide +kernel
theorem md_Gm_drain : y_Gm_drain.cls ≠ "java/lang/invoke/MethodHandle" ∧ y_Gm_drain.cls ≠ "java/lang/invoke/VarHandle" ∧ (parseMethodDescriptor y_Gm_drain.desc).map (fun d => d.parameters.length) = some 2 := by decide +kernel
theorem md_Mc_hasRack : y_Mc_hasRack.cls ≠ "java/lang/invoke/MethodHandle" ∧ y_Mc_hasRack.cls ≠ "java/lang/invoke/VarHandle" ∧ (parseMethodDescriptor y_Mc_hasRack.desc).map (fun d => d.parameters.length) = some 1 := by decide +kernel
theorem md_Gm_fail : y_Gm_fail.cls ≠ "java/lang/invoke/MethodHandle" ∧ y_Gm_fail.cls ≠ "java/lang/invoke/VarHandle" ∧ (parseMethodDescriptor y_Gm_fail.desc).map (fun d => d.parameters.length) = some 1 := by decide +kernel
theorem md_Mc_breakRack : y_Mc_breakRack.cls ≠ "java/lang/invoke/MethodHandle" ∧ y_Mc_breakRack.cls ≠ "java/lang/invoke/VarHandle" ∧ (parseMethodDescriptor y_Mc_breakRack.desc).map (fun d => d.parameters.length) = some 1 := by decide +kernel
theorem md_Jb_keepWhatWasSaved : y_Jb_keepWhatWasSaved.cls ≠ "java/lang/invoke/MethodHandle" ∧ y_Jb_keepWhatWasSaved.cls ≠ "java/lang/invoke/VarHandle" ∧ (parseMethodDescriptor y_Jb_keepWhatWasSaved.desc).map (fun d => d.parameters.length) = some 1 := by decide +kernel
theorem md_Jb_ranUntil : y_Jb_ranUntil.cls ≠ "java/lang/invoke/MethodHandle" ∧ y_Jb_ranUntil.cls ≠ "java/lang/invoke/VarHandle" ∧ (parseMethodDescriptor y_Jb_ranUntil.desc).map (fun d => d.parameters.length) = some 1 := by decide +kernel
theorem md_Mc_leaveNodes : y_Mc_leaveNodes.cls ≠ "java/lang/invoke/MethodHandle" ∧ y_Mc_leaveNodes.cls ≠ "java/lang/invoke/VarHandle" ∧ (parseMethodDescriptor y_Mc_leaveNodes.desc).map (fun d => d.parameters.length) = some 1 := by decide +kernel
theorem md_Gm_licences : y_Gm_licences.cls ≠ "java/lang/invoke/MethodHandle" ∧ y_Gm_licences.cls ≠ "java/lang/invoke/VarHandle" ∧ (parseMethodDescriptor y_Gm_licences.desc).map (fun d => d.parameters.length) = some 1 := by decide +kernel
theorem md_Gm_half : y_Gm_half.cls ≠ "java/lang/invoke/MethodHandle" ∧ y_Gm_half.cls ≠ "java/lang/invoke/VarHandle" ∧ (parseMethodDescriptor y_Gm_half.desc).map (fun d => d.parameters.length) = some 1 := by decide +kernel
theorem md_Gm_account : y_Gm_account.cls ≠ "java/lang/invoke/MethodHandle" ∧ y_Gm_account.cls ≠ "java/lang/invoke/VarHandle" ∧ (parseMethodDescriptor y_Gm_account.desc).map (fun d => d.parameters.length) = some 1 := by decide +kernel
theorem md_Mc_addAccount : y_Mc_addAccount.cls ≠ "java/lang/invoke/MethodHandle" ∧ y_Mc_addAccount.cls ≠ "java/lang/invoke/VarHandle" ∧ (parseMethodDescriptor y_Mc_addAccount.desc).map (fun d => d.parameters.length) = some 1 := by decide +kernel
theorem md_Gm_job : y_Gm_job.cls ≠ "java/lang/invoke/MethodHandle" ∧ y_Gm_job.cls ≠ "java/lang/invoke/VarHandle" ∧ (parseMethodDescriptor y_Gm_job.desc).map (fun d => d.parameters.length) = some 6 := by decide +kernel
theorem md_Mc_hasAccount : y_Mc_hasAccount.cls ≠ "java/lang/invoke/MethodHandle" ∧ y_Mc_hasAccount.cls ≠ "java/lang/invoke/VarHandle" ∧ (parseMethodDescriptor y_Mc_hasAccount.desc).map (fun d => d.parameters.length) = some 1 := by decide +kernel
theorem md_Jb_want : y_Jb_want.cls ≠ "java/lang/invoke/MethodHandle" ∧ y_Jb_want.cls ≠ "java/lang/invoke/VarHandle" ∧ (parseMethodDescriptor y_Jb_want.desc).map (fun d => d.parameters.length) = some 6 := by decide +kernel
theorem md_Gm_behind : y_Gm_behind.cls ≠ "java/lang/invoke/MethodHandle" ∧ y_Gm_behind.cls ≠ "java/lang/invoke/VarHandle" ∧ (parseMethodDescriptor y_Gm_behind.desc).map (fun d => d.parameters.length) = some 2 := by decide +kernel
theorem md_Mc_hasJob : y_Mc_hasJob.cls ≠ "java/lang/invoke/MethodHandle" ∧ y_Mc_hasJob.cls ≠ "java/lang/invoke/VarHandle" ∧ (parseMethodDescriptor y_Mc_hasJob.desc).map (fun d => d.parameters.length) = some 1 := by decide +kernel
theorem md_Gm_cancel : y_Gm_cancel.cls ≠ "java/lang/invoke/MethodHandle" ∧ y_Gm_cancel.cls ≠ "java/lang/invoke/VarHandle" ∧ (parseMethodDescriptor y_Gm_cancel.desc).map (fun d => d.parameters.length) = some 1 := by decide +kernel
theorem md_Gm_book : y_Gm_book.cls ≠ "java/lang/invoke/MethodHandle" ∧ y_Gm_book.cls ≠ "java/lang/invoke/VarHandle" ∧ (parseMethodDescriptor y_Gm_book.desc).map (fun d => d.parameters.length) = some 3 := by decide +kernel
theorem md_Mc_nodesFit : y_Mc_nodesFit.cls ≠ "java/lang/invoke/MethodHandle" ∧ y_Mc_nodesFit.cls ≠ "java/lang/invoke/VarHandle" ∧ (parseMethodDescriptor y_Mc_nodesFit.desc).map (fun d => d.parameters.length) = some 3 := by decide +kernel
theorem md_Mc_nodesTaken : y_Mc_nodesTaken.cls ≠ "java/lang/invoke/MethodHandle" ∧ y_Mc_nodesTaken.cls ≠ "java/lang/invoke/VarHandle" ∧ (parseMethodDescriptor y_Mc_nodesTaken.desc).map (fun d => d.parameters.length) = some 1 := by decide +kernel
theorem md_Hd_beginsWithin : y_Hd_beginsWithin.cls ≠ "java/lang/invoke/MethodHandle" ∧ y_Hd_beginsWithin.cls ≠ "java/lang/invoke/VarHandle" ∧ (parseMethodDescriptor y_Hd_beginsWithin.desc).map (fun d => d.parameters.length) = some 2 := by decide +kernel
theorem md_Hd_set : y_Hd_set.cls ≠ "java/lang/invoke/MethodHandle" ∧ y_Hd_set.cls ≠ "java/lang/invoke/VarHandle" ∧ (parseMethodDescriptor y_Hd_set.desc).map (fun d => d.parameters.length) = some 4 := by decide +kernel
theorem md_Gm_unbook : y_Gm_unbook.cls ≠ "java/lang/invoke/MethodHandle" ∧ y_Gm_unbook.cls ≠ "java/lang/invoke/VarHandle" ∧ (parseMethodDescriptor y_Gm_unbook.desc).map (fun d => d.parameters.length) = some 1 := by decide +kernel
theorem md_Mc_dropBooking : y_Mc_dropBooking.cls ≠ "java/lang/invoke/MethodHandle" ∧ y_Mc_dropBooking.cls ≠ "java/lang/invoke/VarHandle" ∧ (parseMethodDescriptor y_Mc_dropBooking.desc).map (fun d => d.parameters.length) = some 1 := by decide +kernel
theorem md_Hd_become : y_Hd_become.cls ≠ "java/lang/invoke/MethodHandle" ∧ y_Hd_become.cls ≠ "java/lang/invoke/VarHandle" ∧ (parseMethodDescriptor y_Hd_become.desc).map (fun d => d.parameters.length) = some 1 := by decide +kernel
theorem md_Gm_ticks : y_Gm_ticks.cls ≠ "java/lang/invoke/MethodHandle" ∧ y_Gm_ticks.cls ≠ "java/lang/invoke/VarHandle" ∧ (parseMethodDescriptor y_Gm_ticks.desc).map (fun d => d.parameters.length) = some 1 := by decide +kernel
theorem md_Mc_passTick : y_Mc_passTick.cls ≠ "java/lang/invoke/MethodHandle" ∧ y_Mc_passTick.cls ≠ "java/lang/invoke/VarHandle" ∧ (parseMethodDescriptor y_Mc_passTick.desc).map (fun d => d.parameters.length) = some 1 := by decide +kernel
theorem md_Mc_lineUp : y_Mc_lineUp.cls ≠ "java/lang/invoke/MethodHandle" ∧ y_Mc_lineUp.cls ≠ "java/lang/invoke/VarHandle" ∧ (parseMethodDescriptor y_Mc_lineUp.desc).map (fun d => d.parameters.length) = some 0 := by decide +kernel
theorem md_Mc_mayBegin : y_Mc_mayBegin.cls ≠ "java/lang/invoke/MethodHandle" ∧ y_Mc_mayBegin.cls ≠ "java/lang/invoke/VarHandle" ∧ (parseMethodDescriptor y_Mc_mayBegin.desc).map (fun d => d.parameters.length) = some 1 := by decide +kernel
theorem md_Mc_putInQueue : y_Mc_putInQueue.cls ≠ "java/lang/invoke/MethodHandle" ∧ y_Mc_putInQueue.cls ≠ "java/lang/invoke/VarHandle" ∧ (parseMethodDescriptor y_Mc_putInQueue.desc).map (fun d => d.parameters.length) = some 1 := by decide +kernel
theorem md_Ac_usedLessThan : y_Ac_usedLessThan.cls ≠ "java/lang/invoke/MethodHandle" ∧ y_Ac_usedLessThan.cls ≠ "java/lang/invoke/VarHandle" ∧ (parseMethodDescriptor y_Ac_usedLessThan.desc).map (fun d => d.parameters.length) = some 1 := by decide +kernel
theorem md_Mc_serveQueue : y_Mc_serveQueue.cls ≠ "java/lang/invoke/MethodHandle" ∧ y_Mc_serveQueue.cls ≠ "java/lang/invoke/VarHandle" ∧ (parseMethodDescriptor y_Mc_serveQueue.desc).map (fun d => d.parameters.length) = some 0 := by decide +kernel
theorem md_Mc_fits : y_Mc_fits.cls ≠ "java/lang/invoke/MethodHandle" ∧ y_Mc_fits.cls ≠ "java/lang/invoke/VarHandle" ∧ (parseMethodDescriptor y_Mc_fits.desc).map (fun d => d.parameters.length) = some 2 := by decide +kernel
theorem md_Jb_left : y_Jb_left.cls ≠ "java/lang/invoke/MethodHandle" ∧ y_Jb_left.cls ≠ "java/lang/invoke/VarHandle" ∧ (parseMethodDescriptor y_Jb_left.desc).map (fun d => d.parameters.length) = some 0 := by decide +kernel
theorem md_Mc_licencesFit : y_Mc_licencesFit.cls ≠ "java/lang/invoke/MethodHandle" ∧ y_Mc_licencesFit.cls ≠ "java/lang/invoke/VarHandle" ∧ (parseMethodDescriptor y_Mc_licencesFit.desc).map (fun d => d.parameters.length) = some 3 := by decide +kernel
theorem md_Mc_licencesTaken : y_Mc_licencesTaken.cls ≠ "java/lang/invoke/MethodHandle" ∧ y_Mc_licencesTaken.cls ≠ "java/lang/invoke/VarHandle" ∧ (parseMethodDescriptor y_Mc_licencesTaken.desc).map (fun d => d.parameters.length) = some 1 := by decide +kernel
theorem md_Mc_begin : y_Mc_begin.cls ≠ "java/lang/invoke/MethodHandle" ∧ y_Mc_begin.cls ≠ "java/lang/invoke/VarHandle" ∧ (parseMethodDescriptor y_Mc_begin.desc).map (fun d => d.parameters.length) = some 1 := by decide +kernel
theorem md_Mc_fewestRacks : y_Mc_fewestRacks.cls ≠ "java/lang/invoke/MethodHandle" ∧ y_Mc_fewestRacks.cls ≠ "java/lang/invoke/VarHandle" ∧ (parseMethodDescriptor y_Mc_fewestRacks.desc).map (fun d => d.parameters.length) = some 1 := by decide +kernel
theorem md_In_bitCount : y_In_bitCount.cls ≠ "java/lang/invoke/MethodHandle" ∧ y_In_bitCount.cls ≠ "java/lang/invoke/VarHandle" ∧ (parseMethodDescriptor y_In_bitCount.desc).map (fun d => d.parameters.length) = some 1 := by decide +kernel
theorem md_Mc_unusedOn : y_Mc_unusedOn.cls ≠ "java/lang/invoke/MethodHandle" ∧ y_Mc_unusedOn.cls ≠ "java/lang/invoke/VarHandle" ∧ (parseMethodDescriptor y_Mc_unusedOn.desc).map (fun d => d.parameters.length) = some 1 := by decide +kernel
theorem md_Mc_firstFit : y_Mc_firstFit.cls ≠ "java/lang/invoke/MethodHandle" ∧ y_Mc_firstFit.cls ≠ "java/lang/invoke/VarHandle" ∧ (parseMethodDescriptor y_Mc_firstFit.desc).map (fun d => d.parameters.length) = some 1 := by decide +kernel
theorem md_Mc_nextEnd : y_Mc_nextEnd.cls ≠ "java/lang/invoke/MethodHandle" ∧ y_Mc_nextEnd.cls ≠ "java/lang/invoke/VarHandle" ∧ (parseMethodDescriptor y_Mc_nextEnd.desc).map (fun d => d.parameters.length) = some 1 := by decide +kernel
theorem md_Mc_nearer : y_Mc_nearer.cls ≠ "java/lang/invoke/MethodHandle" ∧ y_Mc_nearer.cls ≠ "java/lang/invoke/VarHandle" ∧ (parseMethodDescriptor y_Mc_nearer.desc).map (fun d => d.parameters.length) = some 3 := by decide +kernel
theorem md_Mc_runJobs : y_Mc_runJobs.cls ≠ "java/lang/invoke/MethodHandle" ∧ y_Mc_runJobs.cls ≠ "java/lang/invoke/VarHandle" ∧ (parseMethodDescriptor y_Mc_runJobs.desc).map (fun d => d.parameters.length) = some 1 := by decide +kernel
theorem md_Mc_runOne : y_Mc_runOne.cls ≠ "java/lang/invoke/MethodHandle" ∧ y_Mc_runOne.cls ≠ "java/lang/invoke/VarHandle" ∧ (parseMethodDescriptor y_Mc_runOne.desc).map (fun d => d.parameters.length) = some 2 := by decide +kernel
theorem md_Mc_halveUse : y_Mc_halveUse.cls ≠ "java/lang/invoke/MethodHandle" ∧ y_Mc_halveUse.cls ≠ "java/lang/invoke/VarHandle" ∧ (parseMethodDescriptor y_Mc_halveUse.desc).map (fun d => d.parameters.length) = some 0 := by decide +kernel
theorem md_Gm_told : y_Gm_told.cls ≠ "java/lang/invoke/MethodHandle" ∧ y_Gm_told.cls ≠ "java/lang/invoke/VarHandle" ∧ (parseMethodDescriptor y_Gm_told.desc).map (fun d => d.parameters.length) = some 2 := by decide +kernel
theorem md_Jb_racksHeld : y_Jb_racksHeld.cls ≠ "java/lang/invoke/MethodHandle" ∧ y_Jb_racksHeld.cls ≠ "java/lang/invoke/VarHandle" ∧ (parseMethodDescriptor y_Jb_racksHeld.desc).map (fun d => d.parameters.length) = some 0 := by decide +kernel
theorem md_Gm_on : y_Gm_on.cls ≠ "java/lang/invoke/MethodHandle" ∧ y_Gm_on.cls ≠ "java/lang/invoke/VarHandle" ∧ (parseMethodDescriptor y_Gm_on.desc).map (fun d => d.parameters.length) = some 2 := by decide +kernel
theorem md_Gm_free : y_Gm_free.cls ≠ "java/lang/invoke/MethodHandle" ∧ y_Gm_free.cls ≠ "java/lang/invoke/VarHandle" ∧ (parseMethodDescriptor y_Gm_free.desc).map (fun d => d.parameters.length) = some 1 := by decide +kernel
theorem md_Gm_used : y_Gm_used.cls ≠ "java/lang/invoke/MethodHandle" ∧ y_Gm_used.cls ≠ "java/lang/invoke/VarHandle" ∧ (parseMethodDescriptor y_Gm_used.desc).map (fun d => d.parameters.length) = some 1 := by decide +kernel
theorem md_Gm_blocked : y_Gm_blocked.cls ≠ "java/lang/invoke/MethodHandle" ∧ y_Gm_blocked.cls ≠ "java/lang/invoke/VarHandle" ∧ (parseMethodDescriptor y_Gm_blocked.desc).map (fun d => d.parameters.length) = some 1 := by decide +kernel
theorem md_Gm_taken : y_Gm_taken.cls ≠ "java/lang/invoke/MethodHandle" ∧ y_Gm_taken.cls ≠ "java/lang/invoke/VarHandle" ∧ (parseMethodDescriptor y_Gm_taken.desc).map (fun d => d.parameters.length) = some 2 := by decide +kernel
theorem md_Gm_foreseen : y_Gm_foreseen.cls ≠ "java/lang/invoke/MethodHandle" ∧ y_Gm_foreseen.cls ≠ "java/lang/invoke/VarHandle" ∧ (parseMethodDescriptor y_Gm_foreseen.desc).map (fun d => d.parameters.length) = some 1 := by decide +kernel
theorem md_Mc_become : y_Mc_become.cls ≠ "java/lang/invoke/MethodHandle" ∧ y_Mc_become.cls ≠ "java/lang/invoke/VarHandle" ∧ (parseMethodDescriptor y_Mc_become.desc).map (fun d => d.parameters.length) = some 1 := by decide +kernel
theorem md_Rk_become : y_Rk_become.cls ≠ "java/lang/invoke/MethodHandle" ∧ y_Rk_become.cls ≠ "java/lang/invoke/VarHandle" ∧ (parseMethodDescriptor y_Rk_become.desc).map (fun d => d.parameters.length) = some 1 := by decide +kernel
theorem md_Ac_become : y_Ac_become.cls ≠ "java/lang/invoke/MethodHandle" ∧ y_Ac_become.cls ≠ "java/lang/invoke/VarHandle" ∧ (parseMethodDescriptor y_Ac_become.desc).map (fun d => d.parameters.length) = some 1 := by decide +kernel
theorem md_Jb_become : y_Jb_become.cls ≠ "java/lang/invoke/MethodHandle" ∧ y_Jb_become.cls ≠ "java/lang/invoke/VarHandle" ∧ (parseMethodDescriptor y_Jb_become.desc).map (fun d => d.parameters.length) = some 1 := by decide +kernel
theorem md_Gm_count : y_Gm_count.cls ≠ "java/lang/invoke/MethodHandle" ∧ y_Gm_count.cls ≠ "java/lang/invoke/VarHandle" ∧ (parseMethodDescriptor y_Gm_count.desc).map (fun d => d.parameters.length) = some 1 := by decide +kernel
theorem md_Mc_jobsThatAre : y_Mc_jobsThatAre.cls ≠ "java/lang/invoke/MethodHandle" ∧ y_Mc_jobsThatAre.cls ≠ "java/lang/invoke/VarHandle" ∧ (parseMethodDescriptor y_Mc_jobsThatAre.desc).map (fun d => d.parameters.length) = some 1 := by decide +kernel
theorem md_Md_rack : y_Md_rack.cls ≠ "java/lang/invoke/MethodHandle" ∧ y_Md_rack.cls ≠ "java/lang/invoke/VarHandle" ∧ (parseMethodDescriptor y_Md_rack.desc).map (fun d => d.parameters.length) = some 1 := by decide +kernel
theorem md_Md_in : y_Md_in.cls ≠ "java/lang/invoke/MethodHandle" ∧ y_Md_in.cls ≠ "java/lang/invoke/VarHandle" ∧ (parseMethodDescriptor y_Md_in.desc).map (fun d => d.parameters.length) = some 3 := by decide +kernel
theorem md_Md_drain : y_Md_drain.cls ≠ "java/lang/invoke/MethodHandle" ∧ y_Md_drain.cls ≠ "java/lang/invoke/VarHandle" ∧ (parseMethodDescriptor y_Md_drain.desc).map (fun d => d.parameters.length) = some 2 := by decide +kernel
theorem md_Md_isRack : y_Md_isRack.cls ≠ "java/lang/invoke/MethodHandle" ∧ y_Md_isRack.cls ≠ "java/lang/invoke/VarHandle" ∧ (parseMethodDescriptor y_Md_isRack.desc).map (fun d => d.parameters.length) = some 1 := by decide +kernel
theorem md_Md_fail : y_Md_fail.cls ≠ "java/lang/invoke/MethodHandle" ∧ y_Md_fail.cls ≠ "java/lang/invoke/VarHandle" ∧ (parseMethodDescriptor y_Md_fail.desc).map (fun d => d.parameters.length) = some 1 := by decide +kernel
theorem md_Md_leave : y_Md_leave.cls ≠ "java/lang/invoke/MethodHandle" ∧ y_Md_leave.cls ≠ "java/lang/invoke/VarHandle" ∧ (parseMethodDescriptor y_Md_leave.desc).map (fun d => d.parameters.length) = some 1 := by decide +kernel
theorem md_Md_licences : y_Md_licences.cls ≠ "java/lang/invoke/MethodHandle" ∧ y_Md_licences.cls ≠ "java/lang/invoke/VarHandle" ∧ (parseMethodDescriptor y_Md_licences.desc).map (fun d => d.parameters.length) = some 1 := by decide +kernel
theorem md_Md_half : y_Md_half.cls ≠ "java/lang/invoke/MethodHandle" ∧ y_Md_half.cls ≠ "java/lang/invoke/VarHandle" ∧ (parseMethodDescriptor y_Md_half.desc).map (fun d => d.parameters.length) = some 1 := by decide +kernel
theorem md_Md_account : y_Md_account.cls ≠ "java/lang/invoke/MethodHandle" ∧ y_Md_account.cls ≠ "java/lang/invoke/VarHandle" ∧ (parseMethodDescriptor y_Md_account.desc).map (fun d => d.parameters.length) = some 1 := by decide +kernel
theorem md_Md_job : y_Md_job.cls ≠ "java/lang/invoke/MethodHandle" ∧ y_Md_job.cls ≠ "java/lang/invoke/VarHandle" ∧ (parseMethodDescriptor y_Md_job.desc).map (fun d => d.parameters.length) = some 6 := by decide +kernel
theorem md_Md_behind : y_Md_behind.cls ≠ "java/lang/invoke/MethodHandle" ∧ y_Md_behind.cls ≠ "java/lang/invoke/VarHandle" ∧ (parseMethodDescriptor y_Md_behind.desc).map (fun d => d.parameters.length) = some 2 := by decide +kernel
theorem md_Md_isJob : y_Md_isJob.cls ≠ "java/lang/invoke/MethodHandle" ∧ y_Md_isJob.cls ≠ "java/lang/invoke/VarHandle" ∧ (parseMethodDescriptor y_Md_isJob.desc).map (fun d => d.parameters.length) = some 1 := by decide +kernel
theorem md_Md_cancel : y_Md_cancel.cls ≠ "java/lang/invoke/MethodHandle" ∧ y_Md_cancel.cls ≠ "java/lang/invoke/VarHandle" ∧ (parseMethodDescriptor y_Md_cancel.desc).map (fun d => d.parameters.length) = some 1 := by decide +kernel
theorem md_Md_book : y_Md_book.cls ≠ "java/lang/invoke/MethodHandle" ∧ y_Md_book.cls ≠ "java/lang/invoke/VarHandle" ∧ (parseMethodDescriptor y_Md_book.desc).map (fun d => d.parameters.length) = some 3 := by decide +kernel
theorem md_Md_room : y_Md_room.cls ≠ "java/lang/invoke/MethodHandle" ∧ y_Md_room.cls ≠ "java/lang/invoke/VarHandle" ∧ (parseMethodDescriptor y_Md_room.desc).map (fun d => d.parameters.length) = some 0 := by decide +kernel
theorem md_Md_takenNodes : y_Md_takenNodes.cls ≠ "java/lang/invoke/MethodHandle" ∧ y_Md_takenNodes.cls ≠ "java/lang/invoke/VarHandle" ∧ (parseMethodDescriptor y_Md_takenNodes.desc).map (fun d => d.parameters.length) = some 1 := by decide +kernel
theorem md_Md_runsAt : y_Md_runsAt.cls ≠ "java/lang/invoke/MethodHandle" ∧ y_Md_runsAt.cls ≠ "java/lang/invoke/VarHandle" ∧ (parseMethodDescriptor y_Md_runsAt.desc).map (fun d => d.parameters.length) = some 2 := by decide +kernel
theorem md_Md_unbook : y_Md_unbook.cls ≠ "java/lang/invoke/MethodHandle" ∧ y_Md_unbook.cls ≠ "java/lang/invoke/VarHandle" ∧ (parseMethodDescriptor y_Md_unbook.desc).map (fun d => d.parameters.length) = some 1 := by decide +kernel
theorem md_Md_ticks : y_Md_ticks.cls ≠ "java/lang/invoke/MethodHandle" ∧ y_Md_ticks.cls ≠ "java/lang/invoke/VarHandle" ∧ (parseMethodDescriptor y_Md_ticks.desc).map (fun d => d.parameters.length) = some 1 := by decide +kernel
theorem md_Md_tick : y_Md_tick.cls ≠ "java/lang/invoke/MethodHandle" ∧ y_Md_tick.cls ≠ "java/lang/invoke/VarHandle" ∧ (parseMethodDescriptor y_Md_tick.desc).map (fun d => d.parameters.length) = some 0 := by decide +kernel
theorem md_Md_findQueue : y_Md_findQueue.cls ≠ "java/lang/invoke/MethodHandle" ∧ y_Md_findQueue.cls ≠ "java/lang/invoke/VarHandle" ∧ (parseMethodDescriptor y_Md_findQueue.desc).map (fun d => d.parameters.length) = some 0 := by decide +kernel
theorem md_Md_isAhead : y_Md_isAhead.cls ≠ "java/lang/invoke/MethodHandle" ∧ y_Md_isAhead.cls ≠ "java/lang/invoke/VarHandle" ∧ (parseMethodDescriptor y_Md_isAhead.desc).map (fun d => d.parameters.length) = some 2 := by decide +kernel
theorem md_Md_findTaken : y_Md_findTaken.cls ≠ "java/lang/invoke/MethodHandle" ∧ y_Md_findTaken.cls ≠ "java/lang/invoke/VarHandle" ∧ (parseMethodDescriptor y_Md_findTaken.desc).map (fun d => d.parameters.length) = some 0 := by decide +kernel
theorem md_Md_fits : y_Md_fits.cls ≠ "java/lang/invoke/MethodHandle" ∧ y_Md_fits.cls ≠ "java/lang/invoke/VarHandle" ∧ (parseMethodDescriptor y_Md_fits.desc).map (fun d => d.parameters.length) = some 3 := by decide +kernel
theorem md_Md_leftOf : y_Md_leftOf.cls ≠ "java/lang/invoke/MethodHandle" ∧ y_Md_leftOf.cls ≠ "java/lang/invoke/VarHandle" ∧ (parseMethodDescriptor y_Md_leftOf.desc).map (fun d => d.parameters.length) = some 1 := by decide +kernel
theorem md_Md_begin : y_Md_begin.cls ≠ "java/lang/invoke/MethodHandle" ∧ y_Md_begin.cls ≠ "java/lang/invoke/VarHandle" ∧ (parseMethodDescriptor y_Md_begin.desc).map (fun d => d.parameters.length) = some 1 := by decide +kernel
theorem md_Md_freeOn : y_Md_freeOn.cls ≠ "java/lang/invoke/MethodHandle" ∧ y_Md_freeOn.cls ≠ "java/lang/invoke/VarHandle" ∧ (parseMethodDescriptor y_Md_freeOn.desc).map (fun d => d.parameters.length) = some 1 := by decide +kernel
theorem md_Md_told : y_Md_told.cls ≠ "java/lang/invoke/MethodHandle" ∧ y_Md_told.cls ≠ "java/lang/invoke/VarHandle" ∧ (parseMethodDescriptor y_Md_told.desc).map (fun d => d.parameters.length) = some 2 := by decide +kernel
theorem md_Md_on : y_Md_on.cls ≠ "java/lang/invoke/MethodHandle" ∧ y_Md_on.cls ≠ "java/lang/invoke/VarHandle" ∧ (parseMethodDescriptor y_Md_on.desc).map (fun d => d.parameters.length) = some 2 := by decide +kernel
theorem md_Md_free : y_Md_free.cls ≠ "java/lang/invoke/MethodHandle" ∧ y_Md_free.cls ≠ "java/lang/invoke/VarHandle" ∧ (parseMethodDescriptor y_Md_free.desc).map (fun d => d.parameters.length) = some 1 := by decide +kernel
theorem md_Md_used : y_Md_used.cls ≠ "java/lang/invoke/MethodHandle" ∧ y_Md_used.cls ≠ "java/lang/invoke/VarHandle" ∧ (parseMethodDescriptor y_Md_used.desc).map (fun d => d.parameters.length) = some 1 := by decide +kernel
theorem md_Md_blocked : y_Md_blocked.cls ≠ "java/lang/invoke/MethodHandle" ∧ y_Md_blocked.cls ≠ "java/lang/invoke/VarHandle" ∧ (parseMethodDescriptor y_Md_blocked.desc).map (fun d => d.parameters.length) = some 1 := by decide +kernel
theorem md_Md_taken : y_Md_taken.cls ≠ "java/lang/invoke/MethodHandle" ∧ y_Md_taken.cls ≠ "java/lang/invoke/VarHandle" ∧ (parseMethodDescriptor y_Md_taken.desc).map (fun d => d.parameters.length) = some 2 := by decide +kernel
theorem md_Md_takenLicences : y_Md_takenLicences.cls ≠ "java/lang/invoke/MethodHandle" ∧ y_Md_takenLicences.cls ≠ "java/lang/invoke/VarHandle" ∧ (parseMethodDescriptor y_Md_takenLicences.desc).map (fun d => d.parameters.length) = some 1 := by decide +kernel
theorem md_Md_foreseen : y_Md_foreseen.cls ≠ "java/lang/invoke/MethodHandle" ∧ y_Md_foreseen.cls ≠ "java/lang/invoke/VarHandle" ∧ (parseMethodDescriptor y_Md_foreseen.desc).map (fun d => d.parameters.length) = some 1 := by decide +kernel
theorem md_Md_keep : y_Md_keep.cls ≠ "java/lang/invoke/MethodHandle" ∧ y_Md_keep.cls ≠ "java/lang/invoke/VarHandle" ∧ (parseMethodDescriptor y_Md_keep.desc).map (fun d => d.parameters.length) = some 0 := by decide +kernel
theorem md_Md_putBack : y_Md_putBack.cls ≠ "java/lang/invoke/MethodHandle" ∧ y_Md_putBack.cls ≠ "java/lang/invoke/VarHandle" ∧ (parseMethodDescriptor y_Md_putBack.desc).map (fun d => d.parameters.length) = some 0 := by decide +kernel
theorem md_Md_count : y_Md_count.cls ≠ "java/lang/invoke/MethodHandle" ∧ y_Md_count.cls ≠ "java/lang/invoke/VarHandle" ∧ (parseMethodDescriptor y_Md_count.desc).map (fun d => d.parameters.length) = some 1 := by decide +kernel
end
section
/-! PURE WORDS -/
def b2i (p : Prop) [Decidable p] : Int := if p then 1 else 0
def sumN (f : Nat → Int) : Nat → Int
  | 0 => 0
  | n + 1 => sumN f n + f n
theorem sumN_s (f : Nat → Int) (n : Nat) : sumN f (n + 1) = sumN f n + f n := rfl
theorem sumN_0 (f : Nat → Int) : sumN f 0 = 0 := rfl
theorem sumN_bd {f : Nat → Int} {lo hi : Int} : ∀ {n : Nat}, (∀ i, i < n → lo ≤ f i ∧ f i ≤ hi) → (n : Int) * lo ≤ sumN f n ∧ sumN f n ≤ (n : Int) * hi := by
  intro n
  induction n with
  | zero => intro _; simp [sumN]
  | succ n ih =>
    intro h
    have h1 := ih (fun i hi => h i (by omega))
    have h2 := h n (by omega)
    have e1 : ((n + 1 : Nat) : Int) * lo = (n : Int) * lo + lo := by rw [Int.natCast_add, Int.add_mul]; simp
    have e2 : ((n + 1 : Nat) : Int) * hi = (n : Int) * hi + hi := by rw [Int.natCast_add, Int.add_mul]; simp
    rw [sumN_s, e1, e2]
    omega
theorem sumN_congr {f g : Nat → Int} : ∀ {n : Nat}, (∀ i, i < n → f i = g i) → sumN f n = sumN g n := by
  intro n
  induction n with
  | zero => intro _; rfl
  | succ n ih => intro h; rw [sumN_s, sumN_s, ih (fun i hi => h i (by omega)), h n (by omega)]
theorem sumN_nn {f : Nat → Int} {n : Nat} (h : ∀ i, i < n → 0 ≤ f i) : 0 ≤ sumN f n := by
  induction n with
  | zero => simp [sumN]
  | succ n ih => rw [sumN_s]; have h1 := ih (fun i hi => h i (by omega)); have h2 := h n (by omega); omega
theorem sumN_up {f : Nat → Int} {n : Nat} {c : Int} (h : ∀ i, i < n → f i ≤ c) : sumN f n ≤ n * c := by
  induction n with
  | zero => simp [sumN]
  | succ n ih =>
    rw [sumN_s]
    have h1 := ih (fun i hi => h i (by omega)); have h2 := h n (by omega)
    have e2 : ((n + 1 : Nat) : Int) * c = (n : Int) * c + c := by rw [Int.natCast_add, Int.add_mul]; simp
    rw [e2]; omega
/-- the bounds of every int of a table, but USED -/
def lo (f : Nat) : Int := if f = 8 ∨ f = 9 ∨ f = 23 ∨ f = 25 ∨ f = 26 ∨ f = 42 ∨ f = 43 then -1 else 0
def hi (f : Nat) : Int := [4, 6, 30, 9, 2500, 1000, 100, 64, 29, 3000, 30, 29, 16, 16, 1, 100, 0, 5, 64, 100, 50, 50, 50, 29, 3, 3000, 3000, 50, 64, 3100, 16, 64, 100, 3000, 3100, 50, 50, 50, 1, 4000, 4000, 3, 3000, 3000, 50, 50, 16, 0, 64].getD f 16
def Bd (t : TT) : Prop := ∀ f i, (f ≠ 16 ∧ f ≠ 47) → lo f ≤ t f i ∧ t f i ≤ hi f
theorem hi_up (f : Nat) : hi f ≤ 4000 := by
  unfold hi
  by_cases h : f < 49
  · have : ∀ f, f < 49 → [4, 6, 30, 9, 2500, 1000, 100, 64, 29, 3000, 30, 29, 16, 16, 1, 100, 0, 5, 64, 100, 50, 50, 50, 29, 3, 3000, 3000, 50, 64, 3100, 16, 64, 100, 3000, 3100, 50, 50, 50, 1, 4000, 4000, 3, 3000, 3000, 50, 50, 16, 0, 64].getD f (16 : Int) ≤ 4000 := by decide +kernel
    exact this f h
  · rw [List.getD_eq_getElem?_getD, List.getElem?_eq_none (by simp; omega)]; decide
theorem lo_dn (f : Nat) : -1 ≤ lo f := by unfold lo; split <;> decide
def fok (f : Nat) : Bool := f != 16 && f != 47
theorem bd_ir {t : TT} {f i : Nat} (hB : Bd t) (hf : fok f = true) : ir (t f i) := by
  have h := hB f i (by simp [fok] at hf; exact hf)
  have h1 := hi_up f
  have h2 := lo_dn f
  exact ⟨by omega, by omega⟩
theorem bd_tu {t : TT} {f i : Nat} {x : Int} (hB : Bd t) (h : (f ≠ 16 ∧ f ≠ 47) → lo f ≤ x ∧ x ≤ hi f) : Bd (tu t f i x) := by
  intro a b hab
  unfold tu
  split
  · rename_i q; rw [q.1]; exact h (by rw [← q.1]; exact hab)
  · exact hB a b hab
theorem bdOn {t : TT} (hB : Bd t) (j r : Nat) : 0 ≤ t (100 + j) r ∧ t (100 + j) r ≤ 16 := by
  have h := hB (100 + j) r (by omega)
  have e1 : lo (100 + j) = 0 := by unfold lo; rw [if_neg (by omega)]
  have e2 : hi (100 + j) = 16 := by
    unfold hi; rw [List.getD_eq_getElem?_getD, List.getElem?_eq_none (by simp; omega)]; rfl
  rw [e1, e2] at h; exact h
theorem bdOn_ir {t : TT} (hB : Bd t) (j r : Nat) : ir (t (100 + j) r) := by have := bdOn hB j r; exact ⟨by omega, by omega⟩

theorem bd0 {t : TT} (hB : Bd t) (i : Nat) : 0 ≤ t 0 i ∧ t 0 i ≤ 4 := hB 0 i (by decide)
theorem bd1 {t : TT} (hB : Bd t) (i : Nat) : 0 ≤ t 1 i ∧ t 1 i ≤ 6 := hB 1 i (by decide)
theorem bd2 {t : TT} (hB : Bd t) (i : Nat) : 0 ≤ t 2 i ∧ t 2 i ≤ 30 := hB 2 i (by decide)
theorem bd3 {t : TT} (hB : Bd t) (i : Nat) : 0 ≤ t 3 i ∧ t 3 i ≤ 9 := hB 3 i (by decide)
theorem bd4 {t : TT} (hB : Bd t) (i : Nat) : 0 ≤ t 4 i ∧ t 4 i ≤ 2500 := hB 4 i (by decide)
theorem bd5 {t : TT} (hB : Bd t) (i : Nat) : 0 ≤ t 5 i ∧ t 5 i ≤ 1000 := hB 5 i (by decide)
theorem bd6 {t : TT} (hB : Bd t) (i : Nat) : 0 ≤ t 6 i ∧ t 6 i ≤ 100 := hB 6 i (by decide)
theorem bd7 {t : TT} (hB : Bd t) (i : Nat) : 0 ≤ t 7 i ∧ t 7 i ≤ 64 := hB 7 i (by decide)
theorem bd8 {t : TT} (hB : Bd t) (i : Nat) : -1 ≤ t 8 i ∧ t 8 i ≤ 29 := hB 8 i (by decide)
theorem bd9 {t : TT} (hB : Bd t) (i : Nat) : -1 ≤ t 9 i ∧ t 9 i ≤ 3000 := hB 9 i (by decide)
theorem bd10 {t : TT} (hB : Bd t) (i : Nat) : 0 ≤ t 10 i ∧ t 10 i ≤ 30 := hB 10 i (by decide)
theorem bd11 {t : TT} (hB : Bd t) (i : Nat) : 0 ≤ t 11 i ∧ t 11 i ≤ 29 := hB 11 i (by decide)
theorem bd12 {t : TT} (hB : Bd t) (i : Nat) : 0 ≤ t 12 i ∧ t 12 i ≤ 16 := hB 12 i (by decide)
theorem bd13 {t : TT} (hB : Bd t) (i : Nat) : 0 ≤ t 13 i ∧ t 13 i ≤ 16 := hB 13 i (by decide)
theorem bd14 {t : TT} (hB : Bd t) (i : Nat) : 0 ≤ t 14 i ∧ t 14 i ≤ 1 := hB 14 i (by decide)
theorem bd15 {t : TT} (hB : Bd t) (i : Nat) : 0 ≤ t 15 i ∧ t 15 i ≤ 100 := hB 15 i (by decide)
theorem bd17 {t : TT} (hB : Bd t) (i : Nat) : 0 ≤ t 17 i ∧ t 17 i ≤ 5 := hB 17 i (by decide)
theorem bd18 {t : TT} (hB : Bd t) (i : Nat) : 0 ≤ t 18 i ∧ t 18 i ≤ 64 := hB 18 i (by decide)
theorem bd19 {t : TT} (hB : Bd t) (i : Nat) : 0 ≤ t 19 i ∧ t 19 i ≤ 100 := hB 19 i (by decide)
theorem bd20 {t : TT} (hB : Bd t) (i : Nat) : 0 ≤ t 20 i ∧ t 20 i ≤ 50 := hB 20 i (by decide)
theorem bd21 {t : TT} (hB : Bd t) (i : Nat) : 0 ≤ t 21 i ∧ t 21 i ≤ 50 := hB 21 i (by decide)
theorem bd22 {t : TT} (hB : Bd t) (i : Nat) : 0 ≤ t 22 i ∧ t 22 i ≤ 50 := hB 22 i (by decide)
theorem bd23 {t : TT} (hB : Bd t) (i : Nat) : -1 ≤ t 23 i ∧ t 23 i ≤ 29 := hB 23 i (by decide)
theorem bd24 {t : TT} (hB : Bd t) (i : Nat) : 0 ≤ t 24 i ∧ t 24 i ≤ 3 := hB 24 i (by decide)
theorem bd25 {t : TT} (hB : Bd t) (i : Nat) : -1 ≤ t 25 i ∧ t 25 i ≤ 3000 := hB 25 i (by decide)
theorem bd26 {t : TT} (hB : Bd t) (i : Nat) : -1 ≤ t 26 i ∧ t 26 i ≤ 3000 := hB 26 i (by decide)
theorem bd27 {t : TT} (hB : Bd t) (i : Nat) : 0 ≤ t 27 i ∧ t 27 i ≤ 50 := hB 27 i (by decide)
theorem bd28 {t : TT} (hB : Bd t) (i : Nat) : 0 ≤ t 28 i ∧ t 28 i ≤ 64 := hB 28 i (by decide)
theorem bd29 {t : TT} (hB : Bd t) (i : Nat) : 0 ≤ t 29 i ∧ t 29 i ≤ 3100 := hB 29 i (by decide)
theorem bd30 {t : TT} (hB : Bd t) (i : Nat) : 0 ≤ t 30 i ∧ t 30 i ≤ 16 := hB 30 i (by decide)
theorem bd31 {t : TT} (hB : Bd t) (i : Nat) : 0 ≤ t 31 i ∧ t 31 i ≤ 64 := hB 31 i (by decide)
theorem bd32 {t : TT} (hB : Bd t) (i : Nat) : 0 ≤ t 32 i ∧ t 32 i ≤ 100 := hB 32 i (by decide)
theorem bd33 {t : TT} (hB : Bd t) (i : Nat) : 0 ≤ t 33 i ∧ t 33 i ≤ 3000 := hB 33 i (by decide)
theorem bd34 {t : TT} (hB : Bd t) (i : Nat) : 0 ≤ t 34 i ∧ t 34 i ≤ 3100 := hB 34 i (by decide)
theorem bd35 {t : TT} (hB : Bd t) (i : Nat) : 0 ≤ t 35 i ∧ t 35 i ≤ 50 := hB 35 i (by decide)
theorem bd36 {t : TT} (hB : Bd t) (i : Nat) : 0 ≤ t 36 i ∧ t 36 i ≤ 50 := hB 36 i (by decide)
theorem bd37 {t : TT} (hB : Bd t) (i : Nat) : 0 ≤ t 37 i ∧ t 37 i ≤ 50 := hB 37 i (by decide)
theorem bd38 {t : TT} (hB : Bd t) (i : Nat) : 0 ≤ t 38 i ∧ t 38 i ≤ 1 := hB 38 i (by decide)
theorem bd39 {t : TT} (hB : Bd t) (i : Nat) : 0 ≤ t 39 i ∧ t 39 i ≤ 4000 := hB 39 i (by decide)
theorem bd40 {t : TT} (hB : Bd t) (i : Nat) : 0 ≤ t 40 i ∧ t 40 i ≤ 4000 := hB 40 i (by decide)
theorem bd41 {t : TT} (hB : Bd t) (i : Nat) : 0 ≤ t 41 i ∧ t 41 i ≤ 3 := hB 41 i (by decide)
theorem bd42 {t : TT} (hB : Bd t) (i : Nat) : -1 ≤ t 42 i ∧ t 42 i ≤ 3000 := hB 42 i (by decide)
theorem bd43 {t : TT} (hB : Bd t) (i : Nat) : -1 ≤ t 43 i ∧ t 43 i ≤ 3000 := hB 43 i (by decide)
theorem bd44 {t : TT} (hB : Bd t) (i : Nat) : 0 ≤ t 44 i ∧ t 44 i ≤ 50 := hB 44 i (by decide)
theorem bd45 {t : TT} (hB : Bd t) (i : Nat) : 0 ≤ t 45 i ∧ t 45 i ≤ 50 := hB 45 i (by decide)
theorem bd46 {t : TT} (hB : Bd t) (i : Nat) : 0 ≤ t 46 i ∧ t 46 i ≤ 16 := hB 46 i (by decide)
theorem bd48 {t : TT} (hB : Bd t) (i : Nat) : 0 ≤ t 48 i ∧ t 48 i ≤ 64 := hB 48 i (by decide)
def wr (e : Int) : Int := (Int32.ofInt e).toInt
theorem wr_id {e : Int} (h : ir e) : wr e = e := ir_to h
section MORE
variable {g : WW → Nat → LL → List Value → Prop} {own : String} {cc : ByteArray} {nL h : Nat} {l : Launch} {E : Ew} {S : WW} {pc : Nat} {L : LL} {st : List Value}
theorem r_irem (C : Cw g own cc nL h l E) {a b : Int} (d : decode cc pc = .ok (.irem, 1)) (h1 : 0 ≤ a ∧ a ≤ 2147483647) (h2 : 0 < b ∧ b ≤ 2147483647) (kk : g S (pc + 1) L (iv (a % b) :: st)) : g S pc L (iv b :: iv a :: st) := by
  obtain ⟨p, e0, R, s, mi, args, below, meth, c, cells, slots, Q, A, H0, D, ⟨hx, hb, hml, hown, hts⟩, hE, hA, hK, hR, hg⟩ := C
  refine (hg _ _ _ _).mpr fun H locs ls hP hS hL => ?_
  obtain ⟨x, rfl⟩ := Int.eq_ofNat_of_zero_le h1.1
  obtain ⟨y, rfl⟩ := Int.eq_ofNat_of_zero_le (show 0 ≤ b by omega)
  refine lv_irem hx hb d ?_ ?_
  · intro hz
    have := (ir_eq (a := (y : Int)) (b := 0) ⟨by omega, by omega⟩ ir_0).mp hz
    omega
  · have e1 : Int32.ofInt (x : Int) - Int32.ofInt (x : Int) / Int32.ofInt (y : Int) * Int32.ofInt (y : Int) = Int32.ofInt ((x : Int) % (y : Int)) := by
      have h3 := pk_rem (a := x) (d := y) (by omega) (by omega) (by omega)
      have hn : ∀ n : Nat, nI n = Int32.ofInt (n : Int) := fun n => rfl
      rw [hn, hn, hn] at h3
      rw [h3]; rfl
    rw [e1]
    exact (hg _ _ _ _).mp kk H locs ls hP hS hL
theorem r_idiv2 (C : Cw g own cc nL h l E) {a : Int} (d : decode cc pc = .ok (.idiv, 1)) (kk : g S (pc + 1) L (iv ((wr a).tdiv 2) :: st)) : g S pc L (iv 2 :: iv a :: st) := by
  obtain ⟨p, e0, R, s, mi, args, below, meth, c, cells, slots, Q, A, H0, D, ⟨hx, hb, hml, hown, hts⟩, hE, hA, hK, hR, hg⟩ := C
  refine (hg _ _ _ _).mpr fun H locs ls hP hS hL => ?_
  refine lv_idiv hx hb d (by decide) ?_
  have h4 : ir ((wr a).tdiv 2) := by
    have h2 := ir_of (Int32.ofInt a)
    have h5 : (Int32.ofInt a).toInt = wr a := rfl
    rw [h5] at h2
    unfold ir at h2 ⊢
    generalize wr a = w at h2 ⊢
    by_cases hz : 0 ≤ w
    · rw [Int.tdiv_eq_ediv_of_nonneg hz]; omega
    · rw [show w = -(-w) by omega, Int.neg_tdiv, Int.tdiv_eq_ediv_of_nonneg (show 0 ≤ -w by omega)]; omega
  have e1 : Int32.ofInt a / Int32.ofInt 2 = Int32.ofInt ((wr a).tdiv 2) := by
    rw [← Int32.toInt_inj, Int32.toInt_div_of_ne_right _ _ (by decide), show (Int32.ofInt 2).toInt = 2 by decide, ir_to h4]
    rfl
  rw [e1]
  exact (hg _ _ _ _).mp kk H locs ls hP hS hL
theorem bt_shl : ∀ n : Nat, n < 5 → (Int32.ofInt 1) <<< (Int32.ofInt (n : Int) &&& 31) = Int32.ofInt ((2 ^ n : Nat) : Int) := by decide +kernel
theorem bt_shr : ∀ a : Nat, a < 16 → ∀ n : Nat, n < 4 → (Int32.ofInt (a : Int)) >>> (Int32.ofInt (n : Int) &&& 31) = Int32.ofInt ((a >>> n : Nat) : Int) := by decide +kernel
theorem bt_and : ∀ a : Nat, a < 16 → (Int32.ofInt (a : Int)) &&& (Int32.ofInt 1) = Int32.ofInt ((a % 2 : Nat) : Int) := by decide +kernel
theorem r_ishl (C : Cw g own cc nL h l E) {e : Int} (n : Nat) (he : e = (n : Int)) (hn : n < 5) (d : decode cc pc = .ok (.ishl, 1)) (kk : g S (pc + 1) L (iv ((2 ^ n : Nat) : Int) :: st)) : g S pc L (iv e :: iv 1 :: st) := by
  obtain ⟨p, e0, R, s, mi, args, below, meth, c, cells, slots, Q, A, H0, D, ⟨hx, hb, hml, hown, hts⟩, hE, hA, hK, hR, hg⟩ := C
  refine (hg _ _ _ _).mpr fun H locs ls hP hS hL => ?_
  subst he
  refine lv_ishl hx hb d ?_
  rw [bt_shl n hn]
  exact (hg _ _ _ _).mp kk H locs ls hP hS hL
theorem r_ishr (C : Cw g own cc nL h l E) {a n : Nat} (ha : a < 16) (hn : n < 4) (d : decode cc pc = .ok (.ishr, 1)) (kk : g S (pc + 1) L (iv ((a >>> n : Nat) : Int) :: st)) : g S pc L (iv (n : Int) :: iv (a : Int) :: st) := by
  obtain ⟨p, e0, R, s, mi, args, below, meth, c, cells, slots, Q, A, H0, D, ⟨hx, hb, hml, hown, hts⟩, hE, hA, hK, hR, hg⟩ := C
  refine (hg _ _ _ _).mpr fun H locs ls hP hS hL => ?_
  refine lv_ishr hx hb d ?_
  rw [bt_shr a ha n hn]
  exact (hg _ _ _ _).mp kk H locs ls hP hS hL
theorem shr_lt {a n : Nat} (ha : a < 16) : a >>> n < 16 := by
  rw [Nat.shiftRight_eq_div_pow]; exact Nat.lt_of_le_of_lt (Nat.div_le_self _ _) ha
theorem r_iand (C : Cw g own cc nL h l E) {a n : Nat} (ha : a < 16) (d : decode cc pc = .ok (.iand, 1)) (kk : g S (pc + 1) L (iv (((a >>> n) % 2 : Nat) : Int) :: st)) : g S pc L (iv 1 :: iv ((a >>> n : Nat) : Int) :: st) := by
  obtain ⟨p, e0, R, s, mi, args, below, meth, c, cells, slots, Q, A, H0, D, ⟨hx, hb, hml, hown, hts⟩, hE, hA, hK, hR, hg⟩ := C
  refine (hg _ _ _ _).mpr fun H locs ls hP hS hL => ?_
  refine lv_iand hx hb d ?_
  rw [bt_and _ (shr_lt ha)]
  exact (hg _ _ _ _).mp kk H locs ls hP hS hL
end MORE

theorem lw_Math_s : Cond.static Lib.Math.min.name ∈ lw_w := mw_ (List.mem_of_getElem? (i := 431) (by decide +kernel)) rfl
theorem lw_Math_i : Cond.initialized "java/lang/Math" ∈ lw_w := mw_ (List.mem_of_getElem? (i := 26) (by decide +kernel)) rfl
theorem lw_Math_c : Cond.code Lib.Math.min.name Lib.Math.min.code 2 (some .int) ∈ lw_w := mw_ (List.mem_of_getElem? (i := 432) (by decide +kernel)) rfl
end
section
theorem b2i_ir (p : Prop) [Decidable p] : ir (b2i p) := by unfold b2i; split <;> exact ⟨by omega, by omega⟩
theorem k_Gm_isOutside {l : Launch} {E : Ew} {S : WW} {n a b : Int} (hn : ir n) (ha : ir a) (hb : ir b) : Kf l y_Gm_isOutside b_Gm_isOutside 3 (some .boolean) 0 E S [iv n, iv a, iv b] (some (iv (b2i (n < a ∨ b < n)))) S := by
  refine KfZ rfl rfl (Nat.le_of_ble_eq_true rfl) (fun g C R => ?_)
  show g S 0 [some (iv n), some (iv a), some (iv b)] []
  refine r_iload_n C d_Gm_isOutside_0 rfl ?_
  refine r_iload_n C d_Gm_isOutside_1 rfl ?_
  refine r_icmp_lt (tgt := 10) C d_Gm_isOutside_2 (by decide) (by first | assumption | exact bd_ir (by assumption) rfl | exact b2i_ir _ | exact pb_ir _ | exact ir_mk (by omega) (by omega)) (by first | assumption | exact bd_ir (by assumption) rfl | exact b2i_ir _ | exact pb_ir _ | exact ir_mk (by omega) (by omega)) (fun c2 => ?_) (fun c2 => ?_)
  · refine r_iconst C d_Gm_isOutside_10 ?_
    refine r_goto (tgt := 15) C d_Gm_isOutside_11 (by decide) ?_
    exact R d_Gm_isOutside_15 (by omega) (by unfold b2i; split <;> omega) rfl
  · refine r_iload_n C d_Gm_isOutside_5 rfl ?_
    refine r_iload_n C d_Gm_isOutside_6 rfl ?_
    refine r_icmp_le (tgt := 14) C d_Gm_isOutside_7 (by decide) (by first | assumption | exact bd_ir (by assumption) rfl | exact b2i_ir _ | exact pb_ir _ | exact ir_mk (by omega) (by omega)) (by first | assumption | exact bd_ir (by assumption) rfl | exact b2i_ir _ | exact pb_ir _ | exact ir_mk (by omega) (by omega)) (fun c7 => ?_) (fun c7 => ?_)
    · refine r_iconst C d_Gm_isOutside_14 ?_
      exact R d_Gm_isOutside_15 (by omega) (by unfold b2i; split <;> omega) rfl
    · refine r_iconst C d_Gm_isOutside_10 ?_
      refine r_goto (tgt := 15) C d_Gm_isOutside_11 (by decide) ?_
      exact R d_Gm_isOutside_15 (by omega) (by unfold b2i; split <;> omega) rfl
theorem k_Md_in {l : Launch} {E : Ew} {S : WW} {n a b : Int} (hn : ir n) (ha : ir a) (hb : ir b) : Kf l y_Md_in b_Md_in 3 (some .boolean) 0 E S [iv n, iv a, iv b] (some (iv (b2i (a ≤ n ∧ n ≤ b)))) S := by
  refine KfZ rfl rfl (Nat.le_of_ble_eq_true rfl) (fun g C R => ?_)
  show g S 0 [some (iv n), some (iv a), some (iv b)] []
  refine r_iload_n C d_Md_in_0 rfl ?_
  refine r_iload_n C d_Md_in_1 rfl ?_
  refine r_icmp_lt (tgt := 14) C d_Md_in_2 (by decide) (by first | assumption | exact bd_ir (by assumption) rfl | exact b2i_ir _ | exact pb_ir _ | exact ir_mk (by omega) (by omega)) (by first | assumption | exact bd_ir (by assumption) rfl | exact b2i_ir _ | exact pb_ir _ | exact ir_mk (by omega) (by omega)) (fun c2 => ?_) (fun c2 => ?_)
  · refine r_iconst C d_Md_in_14 ?_
    exact R d_Md_in_15 (by omega) (by unfold b2i; split <;> omega) rfl
  · refine r_iload_n C d_Md_in_5 rfl ?_
    refine r_iload_n C d_Md_in_6 rfl ?_
    refine r_icmp_gt (tgt := 14) C d_Md_in_7 (by decide) (by first | assumption | exact bd_ir (by assumption) rfl | exact b2i_ir _ | exact pb_ir _ | exact ir_mk (by omega) (by omega)) (by first | assumption | exact bd_ir (by assumption) rfl | exact b2i_ir _ | exact pb_ir _ | exact ir_mk (by omega) (by omega)) (fun c7 => ?_) (fun c7 => ?_)
    · refine r_iconst C d_Md_in_14 ?_
      exact R d_Md_in_15 (by omega) (by unfold b2i; split <;> omega) rfl
    · refine r_iconst C d_Md_in_10 ?_
      refine r_goto (tgt := 15) C d_Md_in_11 (by decide) ?_
      exact R d_Md_in_15 (by omega) (by unfold b2i; split <;> omega) rfl
def nearF (x e a : Int) : Int := if e ≤ a then x else if x = -1 then e else min x e
theorem k_Mc_nearer {l : Launch} {E : Ew} {S : WW} {x e a : Int} (hx : ir x) (he : ir e) (ha : ir a) : Kf l y_Mc_nearer b_Mc_nearer 3 (some .int) 1 E S [iv x, iv e, iv a] (some (iv (nearF x e a))) S := by
  refine KfI rfl rfl (Nat.le_of_ble_eq_true rfl) (fun g C R => ?_)
  show g S 0 [some (iv x), some (iv e), some (iv a)] []
  refine r_iload_n C d_Mc_nearer_0 rfl ?_
  refine r_iload_n C d_Mc_nearer_1 rfl ?_
  refine r_icmp_gt (tgt := 7) C d_Mc_nearer_2 (by decide) (by first | assumption | exact bd_ir (by assumption) rfl | exact b2i_ir _ | exact pb_ir _ | exact ir_mk (by omega) (by omega)) (by first | assumption | exact bd_ir (by assumption) rfl | exact b2i_ir _ | exact pb_ir _ | exact ir_mk (by omega) (by omega)) (fun c2 => ?_) (fun c2 => ?_)
  · refine r_iload_n C d_Mc_nearer_7 rfl ?_
    refine r_iconst C d_Mc_nearer_8 ?_
    refine r_icmp_ne (tgt := 16) C d_Mc_nearer_9 (by decide) (by first | assumption | exact bd_ir (by assumption) rfl | exact b2i_ir _ | exact pb_ir _ | exact ir_mk (by omega) (by omega)) (by first | assumption | exact bd_ir (by assumption) rfl | exact b2i_ir _ | exact pb_ir _ | exact ir_mk (by omega) (by omega)) (fun c9 => ?_) (fun c9 => ?_)
    · refine r_iload_n C d_Mc_nearer_16 rfl ?_
      refine r_iload_n C d_Mc_nearer_17 rfl ?_
      refine r_min C (by first | assumption | exact bd_ir (by assumption) rfl | exact b2i_ir _ | exact pb_ir _ | exact ir_mk (by omega) (by omega)) (by first | assumption | exact bd_ir (by assumption) rfl | exact b2i_ir _ | exact pb_ir _ | exact ir_mk (by omega) (by omega)) (by decide) ml_Mc_218 lw_Math_s lw_Math_i lw_Math_c (Nat.le_of_ble_eq_true rfl) d_Mc_nearer_18 ?_
      exact R d_Mc_nearer_21 (by unfold nearF; (repeat' split) <;> omega) rfl
    · refine r_iload_n C d_Mc_nearer_12 rfl ?_
      refine r_goto (tgt := 21) C d_Mc_nearer_13 (by decide) ?_
      exact R d_Mc_nearer_21 (by unfold nearF; (repeat' split) <;> omega) rfl
  · refine r_iload_n C d_Mc_nearer_5 rfl ?_
    exact R d_Mc_nearer_6 (by unfold nearF; (repeat' split) <;> omega) rfl
theorem k_Jb_left {l : Launch} {E : Ew} {S0 : WW} {m : Nat} {t : TT} (hm : m < 2) {i : Nat} (hi : i < 30) (hB : Bd t)  : Kf l y_Jb_left b_Jb_left 1 (some .int) 0 E (sm S0 m t) [rf E (kJb m i)] (some (iv (t 20 i - t 27 i))) (sm S0 m t) := by
  refine KfI rfl rfl (Nat.le_of_ble_eq_true rfl) (fun g C R => ?_)
  show g (sm S0 m t) 0 [some (rf E (kJb m i))] []
  refine r_aload_n C d_Jb_left_0 rfl ?_
  refine g_Jb_limit C hm (by omega) lk_Jb_25 d_Jb_left_1 ?_
  refine r_aload_n C d_Jb_left_4 rfl ?_
  refine g_Jb_saved C hm (by omega) lk_Jb_46 d_Jb_left_5 ?_
  refine r_isub C d_Jb_left_8 ?_
  exact R d_Jb_left_9 rfl rfl
def ranF (t : TT) (i : Nat) (u : Int) : Int := if t 24 i = 1 then u - t 25 i else 0
theorem k_Jb_ranUntil {l : Launch} {E : Ew} {S0 : WW} {m : Nat} {t : TT} (hm : m < 2) {i : Nat} (hi : i < 30) (hB : Bd t) {u : Int} : Kf l y_Jb_ranUntil b_Jb_ranUntil 2 (some .int) 0 E (sm S0 m t) [rf E (kJb m i), iv u] (some (iv (ranF t i u))) (sm S0 m t) := by
  refine KfI rfl rfl (Nat.le_of_ble_eq_true rfl) (fun g C R => ?_)
  show g (sm S0 m t) 0 [some (rf E (kJb m i)), some (iv u)] []
  refine r_aload_n C d_Jb_ranUntil_0 rfl ?_
  refine g_Jb_state C hm (by omega) lk_Jb_37 d_Jb_ranUntil_1 ?_
  refine r_iconst C d_Jb_ranUntil_4 ?_
  refine r_icmp_ne (tgt := 17) C d_Jb_ranUntil_5 (by decide) (by first | assumption | exact bd_ir (by assumption) rfl | exact b2i_ir _ | exact pb_ir _ | exact ir_mk (by omega) (by omega)) (by first | assumption | exact bd_ir (by assumption) rfl | exact b2i_ir _ | exact pb_ir _ | exact ir_mk (by omega) (by omega)) (fun c5 => ?_) (fun c5 => ?_)
  · refine r_iconst C d_Jb_ranUntil_17 ?_
    exact R d_Jb_ranUntil_18 (by unfold ranF; split <;> omega) rfl
  · refine r_iload_n C d_Jb_ranUntil_8 rfl ?_
    refine r_aload_n C d_Jb_ranUntil_9 rfl ?_
    refine g_Jb_begun C hm (by omega) lk_Jb_40 d_Jb_ranUntil_10 ?_
    refine r_isub C d_Jb_ranUntil_13 ?_
    refine r_goto (tgt := 18) C d_Jb_ranUntil_14 (by decide) ?_
    exact R d_Jb_ranUntil_18 (by unfold ranF; split <;> omega) rfl
def kwsF (t : TT) (i : Nat) (u : Int) : TT := if 0 < t 22 i then tu t 27 i (t 27 i + (ranF t i u - ranF t i u % t 22 i)) else t
theorem k_Jb_keepWhatWasSaved {l : Launch} {E : Ew} {S0 : WW} {m : Nat} {t : TT} (hm : m < 2) {i : Nat} (hi : i < 30) (hB : Bd t) {u : Int} (hr : 0 ≤ ranF t i u ∧ ranF t i u ≤ 2147483647) : Kf l y_Jb_keepWhatWasSaved b_Jb_keepWhatWasSaved 3 none 1 E (sm S0 m t) [rf E (kJb m i), iv u] none (sm S0 m (kwsF t i u)) := by
  refine KfV rfl rfl (Nat.le_of_ble_eq_true rfl) (fun g C R => ?_)
  show g (sm S0 m t) 0 [some (rf E (kJb m i)), some (iv u), none] []
  have b22 := bd22 hB i
  refine r_aload_n C d_Jb_keepWhatWasSaved_0 rfl ?_
  refine g_Jb_save C hm (by omega) lk_Jb_31 d_Jb_keepWhatWasSaved_1 ?_
  refine r_if_le (tgt := 30) C d_Jb_keepWhatWasSaved_4 (by decide) (by first | assumption | exact bd_ir (by assumption) rfl | exact b2i_ir _ | exact pb_ir _ | exact ir_mk (by omega) (by omega)) (fun c4 => ?_) (fun c4 => ?_)
  · exact R d_Jb_keepWhatWasSaved_30 (by unfold kwsF; split <;> first | rfl | omega)
  · refine r_aload_n C d_Jb_keepWhatWasSaved_7 rfl ?_
    refine r_iload_n C d_Jb_keepWhatWasSaved_8 rfl ?_
    refine r_cV1r C (k_Jb_ranUntil hm hi hB) (by decide) (by decide) ml_Jb_61 mn_Jb_ranUntil ms_Jb_ranUntil mc_Jb_ranUntil mi_Jb_ranUntil md_Jb_ranUntil (kJb_lt hm (by omega)) (zJb hm (by omega)) rfl rfl (Nat.le_of_ble_eq_true rfl) d_Jb_keepWhatWasSaved_9 ?_
    refine r_istore_2 C d_Jb_keepWhatWasSaved_12 ?_
    refine r_aload_n C d_Jb_keepWhatWasSaved_13 rfl ?_
    refine r_dup C d_Jb_keepWhatWasSaved_14 rfl ?_
    refine g_Jb_saved C hm (by omega) lk_Jb_46 d_Jb_keepWhatWasSaved_15 ?_
    refine r_iload_n C d_Jb_keepWhatWasSaved_18 rfl ?_
    refine r_iload_n C d_Jb_keepWhatWasSaved_19 rfl ?_
    refine r_aload_n C d_Jb_keepWhatWasSaved_20 rfl ?_
    refine g_Jb_save C hm (by omega) lk_Jb_31 d_Jb_keepWhatWasSaved_21 ?_
    refine r_irem C d_Jb_keepWhatWasSaved_24 hr (by omega) ?_
    refine r_isub C d_Jb_keepWhatWasSaved_25 ?_
    refine r_iadd C d_Jb_keepWhatWasSaved_26 ?_
    refine p_Jb_saved C hm (by omega) lk_Jb_46 d_Jb_keepWhatWasSaved_27 ?_
    exact R d_Jb_keepWhatWasSaved_30 (by unfold kwsF; split <;> first | rfl | omega)
def heldF (t : TT) (i : Nat) : Int := sumN (fun r => b2i (0 < t (100 + i) r)) 4
theorem k_Jb_racksHeld {l : Launch} {E : Ew} {S0 : WW} {m : Nat} {t : TT} (hm : m < 2) {j : Nat} (hj : j < 30) (hB : Bd t)  : Kf l y_Jb_racksHeld b_Jb_racksHeld 3 (some .int) 0 E (sm S0 m t) [rf E (kJb m j)] (some (iv (heldF t j))) (sm S0 m t) := by
  refine KfI rfl rfl (Nat.le_of_ble_eq_true rfl) (fun g C R => ?_)
  show g (sm S0 m t) 0 [some (rf E (kJb m j)), none, none] []
  have hl : ∀ (k i : Nat), i ≤ 4 → 4 - i < k → g (sm S0 m t) 4 [some (rf E (kJb m j)), some (iv (sumN (fun r => b2i (0 < t (100 + j) r)) i)), some (iv (i : Int))] [] := by
    intro k
    induction k with
    | zero => intro i h1 h2; omega
    | succ k ih =>
      intro i h1 h2
      have hs := sumN_bd (f := fun r => b2i (0 < t (100 + j) r)) (lo := 0) (hi := 1) (n := i) (fun r _ => by unfold b2i; split <;> omega)
      refine r_iload_n C d_Jb_racksHeld_4 rfl ?_
      refine r_iconst C d_Jb_racksHeld_5 ?_
      refine r_icmp_ge (tgt := 27) C d_Jb_racksHeld_6 (by decide) (by first | assumption | exact bd_ir (by assumption) rfl | exact b2i_ir _ | exact pb_ir _ | exact ir_mk (by omega) (by omega)) (by first | assumption | exact bd_ir (by assumption) rfl | exact b2i_ir _ | exact pb_ir _ | exact ir_mk (by omega) (by omega)) (fun c6 => ?_) (fun c6 => ?_)
      · refine r_iload_n C d_Jb_racksHeld_27 rfl ?_
        exact R d_Jb_racksHeld_28 (by unfold heldF; rw [show i = 4 by omega]) rfl
      · refine r_aload_n C d_Jb_racksHeld_9 rfl ?_
        refine g_Jb_nodesOn C hm (by omega) lk_Jb_9 d_Jb_racksHeld_10 ?_
        refine r_iload_n C d_Jb_racksHeld_13 rfl ?_
        refine x_On C hm (by omega) _ rfl (by omega) d_Jb_racksHeld_14 ?_
        refine r_if_le (tgt := 21) C d_Jb_racksHeld_15 (by decide) (bdOn_ir hB _ _) (fun c15 => ?_) (fun c15 => ?_)
        · refine r_iinc_2 C d_Jb_racksHeld_21 ?_
          refine r_goto (tgt := 4) C d_Jb_racksHeld_24 (by decide) ?_
          have h := ih (i + 1) (by omega) (by omega)
          rw [sumN_s, b2i] at h
          first | (rw [if_pos (by omega)] at h; exact h) | (rw [if_neg (by omega), Int.add_zero] at h; exact h)
        · refine r_iinc_1 C d_Jb_racksHeld_18 ?_
          refine r_iinc_2 C d_Jb_racksHeld_21 ?_
          refine r_goto (tgt := 4) C d_Jb_racksHeld_24 (by decide) ?_
          have h := ih (i + 1) (by omega) (by omega)
          rw [sumN_s, b2i] at h
          first | (rw [if_pos (by omega)] at h; exact h) | (rw [if_neg (by omega), Int.add_zero] at h; exact h)
  refine r_iconst C d_Jb_racksHeld_0 ?_
  refine r_istore_1 C d_Jb_racksHeld_1 ?_
  refine r_iconst C d_Jb_racksHeld_2 ?_
  refine r_istore_2 C d_Jb_racksHeld_3 ?_
  exact hl 5 0 (by omega) (by omega)
def hdF (t : TT) (i : Nat) (a b c d : Int) : TT := tu (tu (tu (tu t 31 i a) 32 i b) 33 i c) 34 i d
theorem k_Hd_set {l : Launch} {E : Ew} {S0 : WW} {m : Nat} {t : TT} (hm : m < 2) {i : Nat} (hi : i < 9) {a b c d : Int} : Kf l y_Hd_set b_Hd_set 5 none 0 E (sm S0 m t) [rf E (kHd m i), iv a, iv b, iv c, iv d] none (sm S0 m (hdF t i a b c d)) := by
  refine KfV rfl rfl (Nat.le_of_ble_eq_true rfl) (fun g C R => ?_)
  show g (sm S0 m t) 0 [some (rf E (kHd m i)), some (iv a), some (iv b), some (iv c), some (iv d)] []
  refine r_aload_n C d_Hd_set_0 rfl ?_
  refine r_iload_n C d_Hd_set_1 rfl ?_
  refine p_Hd_nodes C hm (by omega) lk_Hd_7 d_Hd_set_2 ?_
  refine r_aload_n C d_Hd_set_5 rfl ?_
  refine r_iload_n C d_Hd_set_6 rfl ?_
  refine p_Hd_licences C hm (by omega) lk_Hd_13 d_Hd_set_7 ?_
  refine r_aload_n C d_Hd_set_10 rfl ?_
  refine r_iload_n C d_Hd_set_11 rfl ?_
  refine p_Hd_from C hm (by omega) lk_Hd_16 d_Hd_set_12 ?_
  refine r_aload_n C d_Hd_set_15 rfl ?_
  refine r_iload C d_Hd_set_16 rfl ?_
  refine p_Hd_to C hm (by omega) lk_Hd_19 d_Hd_set_18 ?_
  exact R d_Hd_set_21 rfl
theorem k_Hd_beginsWithin {l : Launch} {E : Ew} {S0 : WW} {m : Nat} {t : TT} (hm : m < 2) {i : Nat} (hi : i < 9) {a b : Int} (ha : ir a) (hb : ir b) (hB : Bd t) : Kf l y_Hd_beginsWithin b_Hd_beginsWithin 3 (some .boolean) 0 E (sm S0 m t) [rf E (kHd m i), iv a, iv b] (some (iv (b2i (a < t 33 i ∧ t 33 i < b)))) (sm S0 m t) := by
  refine KfZ rfl rfl (Nat.le_of_ble_eq_true rfl) (fun g C R => ?_)
  show g (sm S0 m t) 0 [some (rf E (kHd m i)), some (iv a), some (iv b)] []
  refine r_aload_n C d_Hd_beginsWithin_0 rfl ?_
  refine g_Hd_from C hm (by omega) lk_Hd_16 d_Hd_beginsWithin_1 ?_
  refine r_iload_n C d_Hd_beginsWithin_4 rfl ?_
  refine r_icmp_le (tgt := 20) C d_Hd_beginsWithin_5 (by decide) (by first | assumption | exact bd_ir (by assumption) rfl | exact b2i_ir _ | exact pb_ir _ | exact ir_mk (by omega) (by omega)) (by first | assumption | exact bd_ir (by assumption) rfl | exact b2i_ir _ | exact pb_ir _ | exact ir_mk (by omega) (by omega)) (fun c5 => ?_) (fun c5 => ?_)
  · refine r_iconst C d_Hd_beginsWithin_20 ?_
    exact R d_Hd_beginsWithin_21 (by omega) (by unfold b2i; split <;> omega) rfl
  · refine r_aload_n C d_Hd_beginsWithin_8 rfl ?_
    refine g_Hd_from C hm (by omega) lk_Hd_16 d_Hd_beginsWithin_9 ?_
    refine r_iload_n C d_Hd_beginsWithin_12 rfl ?_
    refine r_icmp_ge (tgt := 20) C d_Hd_beginsWithin_13 (by decide) (by first | assumption | exact bd_ir (by assumption) rfl | exact b2i_ir _ | exact pb_ir _ | exact ir_mk (by omega) (by omega)) (by first | assumption | exact bd_ir (by assumption) rfl | exact b2i_ir _ | exact pb_ir _ | exact ir_mk (by omega) (by omega)) (fun c13 => ?_) (fun c13 => ?_)
    · refine r_iconst C d_Hd_beginsWithin_20 ?_
      exact R d_Hd_beginsWithin_21 (by omega) (by unfold b2i; split <;> omega) rfl
    · refine r_iconst C d_Hd_beginsWithin_16 ?_
      refine r_goto (tgt := 21) C d_Hd_beginsWithin_17 (by decide) ?_
      exact R d_Hd_beginsWithin_21 (by omega) (by unfold b2i; split <;> omega) rfl
theorem k_Mc_hasRack {l : Launch} {E : Ew} {S0 : WW} {m : Nat} {t : TT} (hm : m < 2) {r : Int} (hr : ir r) (hB : Bd t) : Kf l y_Mc_hasRack b_Mc_hasRack 2 (some .boolean) 0 E (sm S0 m t) [rf E (kMc m), iv r] (some (iv (b2i (0 ≤ r ∧ r < t 0 0)))) (sm S0 m t) := by
  refine KfZ rfl rfl (Nat.le_of_ble_eq_true rfl) (fun g C R => ?_)
  show g (sm S0 m t) 0 [some (rf E (kMc m)), some (iv r)] []
  refine r_iload_n C d_Mc_hasRack_0 rfl ?_
  refine r_if_lt (tgt := 16) C d_Mc_hasRack_1 (by decide) (by first | assumption | exact bd_ir (by assumption) rfl | exact b2i_ir _ | exact pb_ir _ | exact ir_mk (by omega) (by omega)) (fun c1 => ?_) (fun c1 => ?_)
  · refine r_iconst C d_Mc_hasRack_16 ?_
    exact R d_Mc_hasRack_17 (by omega) (by unfold b2i; split <;> omega) rfl
  · refine r_iload_n C d_Mc_hasRack_4 rfl ?_
    refine r_aload_n C d_Mc_hasRack_5 rfl ?_
    refine g_Mc_rackCount C hm lk_Mc_56 d_Mc_hasRack_6 ?_
    refine r_icmp_ge (tgt := 16) C d_Mc_hasRack_9 (by decide) (by first | assumption | exact bd_ir (by assumption) rfl | exact b2i_ir _ | exact pb_ir _ | exact ir_mk (by omega) (by omega)) (by first | assumption | exact bd_ir (by assumption) rfl | exact b2i_ir _ | exact pb_ir _ | exact ir_mk (by omega) (by omega)) (fun c9 => ?_) (fun c9 => ?_)
    · refine r_iconst C d_Mc_hasRack_16 ?_
      exact R d_Mc_hasRack_17 (by omega) (by unfold b2i; split <;> omega) rfl
    · refine r_iconst C d_Mc_hasRack_12 ?_
      refine r_goto (tgt := 17) C d_Mc_hasRack_13 (by decide) ?_
      exact R d_Mc_hasRack_17 (by omega) (by unfold b2i; split <;> omega) rfl
theorem k_Mc_hasAccount {l : Launch} {E : Ew} {S0 : WW} {m : Nat} {t : TT} (hm : m < 2) {r : Int} (hr : ir r) (hB : Bd t) : Kf l y_Mc_hasAccount b_Mc_hasAccount 2 (some .boolean) 0 E (sm S0 m t) [rf E (kMc m), iv r] (some (iv (b2i (0 ≤ r ∧ r < t 1 0)))) (sm S0 m t) := by
  refine KfZ rfl rfl (Nat.le_of_ble_eq_true rfl) (fun g C R => ?_)
  show g (sm S0 m t) 0 [some (rf E (kMc m)), some (iv r)] []
  refine r_iload_n C d_Mc_hasAccount_0 rfl ?_
  refine r_if_lt (tgt := 16) C d_Mc_hasAccount_1 (by decide) (by first | assumption | exact bd_ir (by assumption) rfl | exact b2i_ir _ | exact pb_ir _ | exact ir_mk (by omega) (by omega)) (fun c1 => ?_) (fun c1 => ?_)
  · refine r_iconst C d_Mc_hasAccount_16 ?_
    exact R d_Mc_hasAccount_17 (by omega) (by unfold b2i; split <;> omega) rfl
  · refine r_iload_n C d_Mc_hasAccount_4 rfl ?_
    refine r_aload_n C d_Mc_hasAccount_5 rfl ?_
    refine g_Mc_accountCount C hm lk_Mc_59 d_Mc_hasAccount_6 ?_
    refine r_icmp_ge (tgt := 16) C d_Mc_hasAccount_9 (by decide) (by first | assumption | exact bd_ir (by assumption) rfl | exact b2i_ir _ | exact pb_ir _ | exact ir_mk (by omega) (by omega)) (by first | assumption | exact bd_ir (by assumption) rfl | exact b2i_ir _ | exact pb_ir _ | exact ir_mk (by omega) (by omega)) (fun c9 => ?_) (fun c9 => ?_)
    · refine r_iconst C d_Mc_hasAccount_16 ?_
      exact R d_Mc_hasAccount_17 (by omega) (by unfold b2i; split <;> omega) rfl
    · refine r_iconst C d_Mc_hasAccount_12 ?_
      refine r_goto (tgt := 17) C d_Mc_hasAccount_13 (by decide) ?_
      exact R d_Mc_hasAccount_17 (by omega) (by unfold b2i; split <;> omega) rfl
theorem k_Mc_hasJob {l : Launch} {E : Ew} {S0 : WW} {m : Nat} {t : TT} (hm : m < 2) {r : Int} (hr : ir r) (hB : Bd t) : Kf l y_Mc_hasJob b_Mc_hasJob 2 (some .boolean) 0 E (sm S0 m t) [rf E (kMc m), iv r] (some (iv (b2i (0 ≤ r ∧ r < t 2 0)))) (sm S0 m t) := by
  refine KfZ rfl rfl (Nat.le_of_ble_eq_true rfl) (fun g C R => ?_)
  show g (sm S0 m t) 0 [some (rf E (kMc m)), some (iv r)] []
  refine r_iload_n C d_Mc_hasJob_0 rfl ?_
  refine r_if_lt (tgt := 16) C d_Mc_hasJob_1 (by decide) (by first | assumption | exact bd_ir (by assumption) rfl | exact b2i_ir _ | exact pb_ir _ | exact ir_mk (by omega) (by omega)) (fun c1 => ?_) (fun c1 => ?_)
  · refine r_iconst C d_Mc_hasJob_16 ?_
    exact R d_Mc_hasJob_17 (by omega) (by unfold b2i; split <;> omega) rfl
  · refine r_iload_n C d_Mc_hasJob_4 rfl ?_
    refine r_aload_n C d_Mc_hasJob_5 rfl ?_
    refine g_Mc_jobCount C hm lk_Mc_62 d_Mc_hasJob_6 ?_
    refine r_icmp_ge (tgt := 16) C d_Mc_hasJob_9 (by decide) (by first | assumption | exact bd_ir (by assumption) rfl | exact b2i_ir _ | exact pb_ir _ | exact ir_mk (by omega) (by omega)) (by first | assumption | exact bd_ir (by assumption) rfl | exact b2i_ir _ | exact pb_ir _ | exact ir_mk (by omega) (by omega)) (fun c9 => ?_) (fun c9 => ?_)
    · refine r_iconst C d_Mc_hasJob_16 ?_
      exact R d_Mc_hasJob_17 (by omega) (by unfold b2i; split <;> omega) rfl
    · refine r_iconst C d_Mc_hasJob_12 ?_
      refine r_goto (tgt := 17) C d_Mc_hasJob_13 (by decide) ?_
      exact R d_Mc_hasJob_17 (by omega) (by unfold b2i; split <;> omega) rfl
def cntF (t : TT) (j n : Nat) : Int := sumN (fun r => if t 14 r = 0 then t (100 + j) r else 0) n
theorem cntF_s (t : TT) (j n : Nat) : cntF t j (n + 1) = cntF t j n + if t 14 n = 0 then t (100 + j) n else 0 := rfl
theorem k_Mc_countedOf {l : Launch} {E : Ew} {S0 : WW} {m : Nat} {t : TT} (hm : m < 2) {j : Nat} (hj : j < 30) (hB : Bd t)  : Kf l y_Mc_countedOf b_Mc_countedOf 4 (some .int) 0 E (sm S0 m t) [rf E (kMc m), rf E (kJb m j)] (some (iv (cntF t j (t 0 0).toNat))) (sm S0 m t) := by
  refine KfI rfl rfl (Nat.le_of_ble_eq_true rfl) (fun g C R => ?_)
  show g (sm S0 m t) 0 [some (rf E (kMc m)), some (rf E (kJb m j)), none, none] []
  have b0 := bd0 hB 0
  have hl : ∀ (k i : Nat), i ≤ (t 0 0).toNat → (t 0 0).toNat - i < k → g (sm S0 m t) 4 [some (rf E (kMc m)), some (rf E (kJb m j)), some (iv (cntF t j i)), some (iv (i : Int))] [] := by
    intro k
    induction k with
    | zero => intro i h1 h2; omega
    | succ k ih =>
      intro i h1 h2
      refine r_iload_n C d_Mc_countedOf_4 rfl ?_
      refine r_aload_n C d_Mc_countedOf_5 rfl ?_
      refine g_Mc_rackCount C hm lk_Mc_56 d_Mc_countedOf_6 ?_
      refine r_icmp_ge (tgt := 43) C d_Mc_countedOf_9 (by decide) (by first | assumption | exact bd_ir (by assumption) rfl | exact b2i_ir _ | exact pb_ir _ | exact ir_mk (by omega) (by omega)) (by first | assumption | exact bd_ir (by assumption) rfl | exact b2i_ir _ | exact pb_ir _ | exact ir_mk (by omega) (by omega)) (fun c9 => ?_) (fun c9 => ?_)
      · refine r_iload_n C d_Mc_countedOf_43 rfl ?_
        exact R d_Mc_countedOf_44 (by rw [show i = (t 0 0).toNat by omega]) rfl
      · refine r_iload_n C d_Mc_countedOf_12 rfl ?_
        refine r_aload_n C d_Mc_countedOf_13 rfl ?_
        refine g_Mc_racks C hm lk_Mc_11 d_Mc_countedOf_14 ?_
        refine r_iload_n C d_Mc_countedOf_17 rfl ?_
        refine x_Rk C hm _ rfl (by omega) d_Mc_countedOf_18 ?_
        refine g_Rk_drained C hm (by omega) lk_Mc_102 d_Mc_countedOf_19 ?_
        refine r_if_eq (tgt := 29) C d_Mc_countedOf_22 (by decide) (by first | assumption | exact bd_ir (by assumption) rfl | exact b2i_ir _ | exact pb_ir _ | exact ir_mk (by omega) (by omega)) (fun c22 => ?_) (fun c22 => ?_)
        · refine r_aload_n C d_Mc_countedOf_29 rfl ?_
          refine g_Jb_nodesOn C hm (by omega) lk_Mc_113 d_Mc_countedOf_30 ?_
          refine r_iload_n C d_Mc_countedOf_33 rfl ?_
          refine x_On C hm (by omega) _ rfl (by omega) d_Mc_countedOf_34 ?_
          refine r_iadd C d_Mc_countedOf_35 ?_
          refine r_istore_2 C d_Mc_countedOf_36 ?_
          refine r_iinc_3 C d_Mc_countedOf_37 ?_
          refine r_goto (tgt := 4) C d_Mc_countedOf_40 (by decide) ?_
          have h := ih (i + 1) (by omega) (by omega)
          rw [cntF_s] at h
          first | (rw [if_pos (by omega)] at h; exact h) | (rw [if_neg (by omega)] at h; exact h)
        · refine r_iconst C d_Mc_countedOf_25 ?_
          refine r_goto (tgt := 35) C d_Mc_countedOf_26 (by decide) ?_
          refine r_iadd C d_Mc_countedOf_35 ?_
          refine r_istore_2 C d_Mc_countedOf_36 ?_
          refine r_iinc_3 C d_Mc_countedOf_37 ?_
          refine r_goto (tgt := 4) C d_Mc_countedOf_40 (by decide) ?_
          have h := ih (i + 1) (by omega) (by omega)
          rw [cntF_s] at h
          first | (rw [if_pos (by omega)] at h; exact h) | (rw [if_neg (by omega)] at h; exact h)
  refine r_iconst C d_Mc_countedOf_0 ?_
  refine r_istore_2 C d_Mc_countedOf_1 ?_
  refine r_iconst C d_Mc_countedOf_2 ?_
  refine r_istore_3 C d_Mc_countedOf_3 ?_
  exact hl ((t 0 0).toNat + 1) 0 (by omega) (by omega)
def jtaF (t : TT) (s : Int) (n : Nat) : Int := sumN (fun j => b2i (t 24 j = s)) n
theorem k_Mc_jobsThatAre {l : Launch} {E : Ew} {S0 : WW} {m : Nat} {t : TT} (hm : m < 2) {s : Int} (hs : ir s) (hB : Bd t) : Kf l y_Mc_jobsThatAre b_Mc_jobsThatAre 4 (some .int) 0 E (sm S0 m t) [rf E (kMc m), iv s] (some (iv (jtaF t s (t 2 0).toNat))) (sm S0 m t) := by
  refine KfI rfl rfl (Nat.le_of_ble_eq_true rfl) (fun g C R => ?_)
  show g (sm S0 m t) 0 [some (rf E (kMc m)), some (iv s), none, none] []
  have b2 := bd2 hB 0
  have hl : ∀ (k i : Nat), i ≤ (t 2 0).toNat → (t 2 0).toNat - i < k → g (sm S0 m t) 4 [some (rf E (kMc m)), some (iv s), some (iv (jtaF t s i)), some (iv (i : Int))] [] := by
    intro k
    induction k with
    | zero => intro i h1 h2; omega
    | succ k ih =>
      intro i h1 h2
      refine r_iload_n C d_Mc_jobsThatAre_4 rfl ?_
      refine r_aload_n C d_Mc_jobsThatAre_5 rfl ?_
      refine g_Mc_jobCount C hm lk_Mc_62 d_Mc_jobsThatAre_6 ?_
      refine r_icmp_ge (tgt := 34) C d_Mc_jobsThatAre_9 (by decide) (by first | assumption | exact bd_ir (by assumption) rfl | exact b2i_ir _ | exact pb_ir _ | exact ir_mk (by omega) (by omega)) (by first | assumption | exact bd_ir (by assumption) rfl | exact b2i_ir _ | exact pb_ir _ | exact ir_mk (by omega) (by omega)) (fun c9 => ?_) (fun c9 => ?_)
      · refine r_iload_n C d_Mc_jobsThatAre_34 rfl ?_
        exact R d_Mc_jobsThatAre_35 (by rw [show i = (t 2 0).toNat by omega]) rfl
      · refine r_aload_n C d_Mc_jobsThatAre_12 rfl ?_
        refine g_Mc_jobs C hm lk_Mc_25 d_Mc_jobsThatAre_13 ?_
        refine r_iload_n C d_Mc_jobsThatAre_16 rfl ?_
        refine x_Jb C hm _ rfl (by omega) d_Mc_jobsThatAre_17 ?_
        refine g_Jb_state C hm (by omega) lk_Mc_99 d_Mc_jobsThatAre_18 ?_
        refine r_iload_n C d_Mc_jobsThatAre_21 rfl ?_
        refine r_icmp_ne (tgt := 28) C d_Mc_jobsThatAre_22 (by decide) (by first | assumption | exact bd_ir (by assumption) rfl | exact b2i_ir _ | exact pb_ir _ | exact ir_mk (by omega) (by omega)) (by first | assumption | exact bd_ir (by assumption) rfl | exact b2i_ir _ | exact pb_ir _ | exact ir_mk (by omega) (by omega)) (fun c22 => ?_) (fun c22 => ?_)
        · refine r_iinc_3 C d_Mc_jobsThatAre_28 ?_
          refine r_goto (tgt := 4) C d_Mc_jobsThatAre_31 (by decide) ?_
          have h := ih (i + 1) (by omega) (by omega)
          rw [jtaF, sumN_s, b2i] at h
          first | (rw [if_pos (by omega)] at h; exact h) | (rw [if_neg (by omega), Int.add_zero] at h; exact h)
        · refine r_iinc_2 C d_Mc_jobsThatAre_25 ?_
          refine r_iinc_3 C d_Mc_jobsThatAre_28 ?_
          refine r_goto (tgt := 4) C d_Mc_jobsThatAre_31 (by decide) ?_
          have h := ih (i + 1) (by omega) (by omega)
          rw [jtaF, sumN_s, b2i] at h
          first | (rw [if_pos (by omega)] at h; exact h) | (rw [if_neg (by omega), Int.add_zero] at h; exact h)
  refine r_iconst C d_Mc_jobsThatAre_0 ?_
  refine r_istore_2 C d_Mc_jobsThatAre_1 ?_
  refine r_iconst C d_Mc_jobsThatAre_2 ?_
  refine r_istore_3 C d_Mc_jobsThatAre_3 ?_
  exact hl ((t 2 0).toNat + 1) 0 (by omega) (by omega)
def ntFj (t : TT) (u : Int) (n : Nat) : Int := sumN (fun j => if u < t 29 j then t 28 j else 0) n
def ntFh (t : TT) (u : Int) (n : Nat) : Int := sumN (fun k => if t 33 k ≤ u ∧ u < t 34 k then t 31 k else 0) n
def ntF (t : TT) (u : Int) : Int := ntFj t u (t 2 0).toNat + ntFh t u (t 3 0).toNat
theorem k_Mc_nodesTaken {l : Launch} {E : Ew} {S0 : WW} {m : Nat} {t : TT} (hm : m < 2) {u : Int} (hu : ir u) (hB : Bd t) : Kf l y_Mc_nodesTaken b_Mc_nodesTaken 4 (some .int) 0 E (sm S0 m t) [rf E (kMc m), iv u] (some (iv (ntF t u))) (sm S0 m t) := by
  refine KfI rfl rfl (Nat.le_of_ble_eq_true rfl) (fun g C R => ?_)
  show g (sm S0 m t) 0 [some (rf E (kMc m)), some (iv u), none, none] []
  have b2 := bd2 hB 0
  have b3 := bd3 hB 0
  have hl2 : ∀ (k i : Nat), i ≤ (t 3 0).toNat → (t 3 0).toNat - i < k → g (sm S0 m t) 45 [some (rf E (kMc m)), some (iv u), some (iv (ntFj t u (t 2 0).toNat + ntFh t u i)), some (iv (i : Int))] [] := by
    intro k
    induction k with
    | zero => intro i h1 h2; omega
    | succ k ih =>
      intro i h1 h2
      refine r_iload_n C d_Mc_nodesTaken_45 rfl ?_
      refine r_aload_n C d_Mc_nodesTaken_46 rfl ?_
      refine g_Mc_holdCount C hm lk_Mc_65 d_Mc_nodesTaken_47 ?_
      refine r_icmp_ge (tgt := 97) C d_Mc_nodesTaken_50 (by decide) (by first | assumption | exact bd_ir (by assumption) rfl | exact b2i_ir _ | exact pb_ir _ | exact ir_mk (by omega) (by omega)) (by first | assumption | exact bd_ir (by assumption) rfl | exact b2i_ir _ | exact pb_ir _ | exact ir_mk (by omega) (by omega)) (fun c50 => ?_) (fun c50 => ?_)
      · refine r_iload_n C d_Mc_nodesTaken_97 rfl ?_
        exact R d_Mc_nodesTaken_98 (by rw [show i = (t 3 0).toNat by omega]; rfl) rfl
      · refine r_iload_n C d_Mc_nodesTaken_53 rfl ?_
        refine r_aload_n C d_Mc_nodesTaken_54 rfl ?_
        refine g_Mc_holds C hm lk_Mc_31 d_Mc_nodesTaken_55 ?_
        refine r_iload_n C d_Mc_nodesTaken_58 rfl ?_
        refine x_Hd C hm _ rfl (by omega) d_Mc_nodesTaken_59 ?_
        refine g_Hd_from C hm (by omega) lk_Mc_126 d_Mc_nodesTaken_60 ?_
        refine r_icmp_lt (tgt := 91) C d_Mc_nodesTaken_63 (by decide) (by first | assumption | exact bd_ir (by assumption) rfl | exact b2i_ir _ | exact pb_ir _ | exact ir_mk (by omega) (by omega)) (by first | assumption | exact bd_ir (by assumption) rfl | exact b2i_ir _ | exact pb_ir _ | exact ir_mk (by omega) (by omega)) (fun c63 => ?_) (fun c63 => ?_)
        · refine r_iinc_3 C d_Mc_nodesTaken_91 ?_
          refine r_goto (tgt := 45) C d_Mc_nodesTaken_94 (by decide) ?_
          have h := ih (i + 1) (by omega) (by omega)
          rw [ntFh, sumN_s] at h
          first | (rw [if_pos (by omega), ← Int.add_assoc] at h; exact h) | (rw [if_neg (by omega), Int.add_zero] at h; exact h)
        · refine r_iload_n C d_Mc_nodesTaken_66 rfl ?_
          refine r_aload_n C d_Mc_nodesTaken_67 rfl ?_
          refine g_Mc_holds C hm lk_Mc_31 d_Mc_nodesTaken_68 ?_
          refine r_iload_n C d_Mc_nodesTaken_71 rfl ?_
          refine x_Hd C hm _ rfl (by omega) d_Mc_nodesTaken_72 ?_
          refine g_Hd_to C hm (by omega) lk_Mc_129 d_Mc_nodesTaken_73 ?_
          refine r_icmp_ge (tgt := 91) C d_Mc_nodesTaken_76 (by decide) (by first | assumption | exact bd_ir (by assumption) rfl | exact b2i_ir _ | exact pb_ir _ | exact ir_mk (by omega) (by omega)) (by first | assumption | exact bd_ir (by assumption) rfl | exact b2i_ir _ | exact pb_ir _ | exact ir_mk (by omega) (by omega)) (fun c76 => ?_) (fun c76 => ?_)
          · refine r_iinc_3 C d_Mc_nodesTaken_91 ?_
            refine r_goto (tgt := 45) C d_Mc_nodesTaken_94 (by decide) ?_
            have h := ih (i + 1) (by omega) (by omega)
            rw [ntFh, sumN_s] at h
            first | (rw [if_pos (by omega), ← Int.add_assoc] at h; exact h) | (rw [if_neg (by omega), Int.add_zero] at h; exact h)
          · refine r_iload_n C d_Mc_nodesTaken_79 rfl ?_
            refine r_aload_n C d_Mc_nodesTaken_80 rfl ?_
            refine g_Mc_holds C hm lk_Mc_31 d_Mc_nodesTaken_81 ?_
            refine r_iload_n C d_Mc_nodesTaken_84 rfl ?_
            refine x_Hd C hm _ rfl (by omega) d_Mc_nodesTaken_85 ?_
            refine g_Hd_nodes C hm (by omega) lk_Mc_132 d_Mc_nodesTaken_86 ?_
            refine r_iadd C d_Mc_nodesTaken_89 ?_
            refine r_istore_2 C d_Mc_nodesTaken_90 ?_
            refine r_iinc_3 C d_Mc_nodesTaken_91 ?_
            refine r_goto (tgt := 45) C d_Mc_nodesTaken_94 (by decide) ?_
            have h := ih (i + 1) (by omega) (by omega)
            rw [ntFh, sumN_s] at h
            first | (rw [if_pos (by omega), ← Int.add_assoc] at h; exact h) | (rw [if_neg (by omega), Int.add_zero] at h; exact h)
  have hl1 : ∀ (k i : Nat), i ≤ (t 2 0).toNat → (t 2 0).toNat - i < k → g (sm S0 m t) 4 [some (rf E (kMc m)), some (iv u), some (iv (ntFj t u i)), some (iv (i : Int))] [] := by
    intro k
    induction k with
    | zero => intro i h1 h2; omega
    | succ k ih =>
      intro i h1 h2
      refine r_iload_n C d_Mc_nodesTaken_4 rfl ?_
      refine r_aload_n C d_Mc_nodesTaken_5 rfl ?_
      refine g_Mc_jobCount C hm lk_Mc_62 d_Mc_nodesTaken_6 ?_
      refine r_icmp_ge (tgt := 43) C d_Mc_nodesTaken_9 (by decide) (by first | assumption | exact bd_ir (by assumption) rfl | exact b2i_ir _ | exact pb_ir _ | exact ir_mk (by omega) (by omega)) (by first | assumption | exact bd_ir (by assumption) rfl | exact b2i_ir _ | exact pb_ir _ | exact ir_mk (by omega) (by omega)) (fun c9 => ?_) (fun c9 => ?_)
      · refine r_iconst C d_Mc_nodesTaken_43 ?_
        refine r_istore_3 C d_Mc_nodesTaken_44 ?_
        have h := hl2 ((t 3 0).toNat + 1) 0 (by omega) (by omega)
        rw [show ntFh t u 0 = 0 from rfl, Int.add_zero] at h
        rw [show i = (t 2 0).toNat by omega]
        exact h
      · refine r_iload_n C d_Mc_nodesTaken_12 rfl ?_
        refine r_aload_n C d_Mc_nodesTaken_13 rfl ?_
        refine g_Mc_jobs C hm lk_Mc_25 d_Mc_nodesTaken_14 ?_
        refine r_iload_n C d_Mc_nodesTaken_17 rfl ?_
        refine x_Jb C hm _ rfl (by omega) d_Mc_nodesTaken_18 ?_
        refine g_Jb_takesUntil C hm (by omega) lk_Mc_123 d_Mc_nodesTaken_19 ?_
        refine r_icmp_ge (tgt := 37) C d_Mc_nodesTaken_22 (by decide) (by first | assumption | exact bd_ir (by assumption) rfl | exact b2i_ir _ | exact pb_ir _ | exact ir_mk (by omega) (by omega)) (by first | assumption | exact bd_ir (by assumption) rfl | exact b2i_ir _ | exact pb_ir _ | exact ir_mk (by omega) (by omega)) (fun c22 => ?_) (fun c22 => ?_)
        · refine r_iinc_3 C d_Mc_nodesTaken_37 ?_
          refine r_goto (tgt := 4) C d_Mc_nodesTaken_40 (by decide) ?_
          have h := ih (i + 1) (by omega) (by omega)
          rw [ntFj, sumN_s] at h
          first | (rw [if_pos (by omega)] at h; exact h) | (rw [if_neg (by omega), Int.add_zero] at h; exact h)
        · refine r_iload_n C d_Mc_nodesTaken_25 rfl ?_
          refine r_aload_n C d_Mc_nodesTaken_26 rfl ?_
          refine g_Mc_jobs C hm lk_Mc_25 d_Mc_nodesTaken_27 ?_
          refine r_iload_n C d_Mc_nodesTaken_30 rfl ?_
          refine x_Jb C hm _ rfl (by omega) d_Mc_nodesTaken_31 ?_
          refine g_Jb_counted C hm (by omega) lk_Mc_110 d_Mc_nodesTaken_32 ?_
          refine r_iadd C d_Mc_nodesTaken_35 ?_
          refine r_istore_2 C d_Mc_nodesTaken_36 ?_
          refine r_iinc_3 C d_Mc_nodesTaken_37 ?_
          refine r_goto (tgt := 4) C d_Mc_nodesTaken_40 (by decide) ?_
          have h := ih (i + 1) (by omega) (by omega)
          rw [ntFj, sumN_s] at h
          first | (rw [if_pos (by omega)] at h; exact h) | (rw [if_neg (by omega), Int.add_zero] at h; exact h)
  refine r_iconst C d_Mc_nodesTaken_0 ?_
  refine r_istore_2 C d_Mc_nodesTaken_1 ?_
  refine r_iconst C d_Mc_nodesTaken_2 ?_
  refine r_istore_3 C d_Mc_nodesTaken_3 ?_
  exact hl1 ((t 2 0).toNat + 1) 0 (by omega) (by omega)
def ltFj (t : TT) (u : Int) (n : Nat) : Int := sumN (fun j => if u < t 29 j then t 19 j else 0) n
def ltFh (t : TT) (u : Int) (n : Nat) : Int := sumN (fun k => if t 33 k ≤ u ∧ u < t 34 k then t 32 k else 0) n
def ltF (t : TT) (u : Int) : Int := ltFj t u (t 2 0).toNat + ltFh t u (t 3 0).toNat
theorem k_Mc_licencesTaken {l : Launch} {E : Ew} {S0 : WW} {m : Nat} {t : TT} (hm : m < 2) {u : Int} (hu : ir u) (hB : Bd t) : Kf l y_Mc_licencesTaken b_Mc_licencesTaken 4 (some .int) 0 E (sm S0 m t) [rf E (kMc m), iv u] (some (iv (ltF t u))) (sm S0 m t) := by
  refine KfI rfl rfl (Nat.le_of_ble_eq_true rfl) (fun g C R => ?_)
  show g (sm S0 m t) 0 [some (rf E (kMc m)), some (iv u), none, none] []
  have b2 := bd2 hB 0
  have b3 := bd3 hB 0
  have hl2 : ∀ (k i : Nat), i ≤ (t 3 0).toNat → (t 3 0).toNat - i < k → g (sm S0 m t) 45 [some (rf E (kMc m)), some (iv u), some (iv (ltFj t u (t 2 0).toNat + ltFh t u i)), some (iv (i : Int))] [] := by
    intro k
    induction k with
    | zero => intro i h1 h2; omega
    | succ k ih =>
      intro i h1 h2
      refine r_iload_n C d_Mc_licencesTaken_45 rfl ?_
      refine r_aload_n C d_Mc_licencesTaken_46 rfl ?_
      refine g_Mc_holdCount C hm lk_Mc_65 d_Mc_licencesTaken_47 ?_
      refine r_icmp_ge (tgt := 97) C d_Mc_licencesTaken_50 (by decide) (by first | assumption | exact bd_ir (by assumption) rfl | exact b2i_ir _ | exact pb_ir _ | exact ir_mk (by omega) (by omega)) (by first | assumption | exact bd_ir (by assumption) rfl | exact b2i_ir _ | exact pb_ir _ | exact ir_mk (by omega) (by omega)) (fun c50 => ?_) (fun c50 => ?_)
      · refine r_iload_n C d_Mc_licencesTaken_97 rfl ?_
        exact R d_Mc_licencesTaken_98 (by rw [show i = (t 3 0).toNat by omega]; rfl) rfl
      · refine r_iload_n C d_Mc_licencesTaken_53 rfl ?_
        refine r_aload_n C d_Mc_licencesTaken_54 rfl ?_
        refine g_Mc_holds C hm lk_Mc_31 d_Mc_licencesTaken_55 ?_
        refine r_iload_n C d_Mc_licencesTaken_58 rfl ?_
        refine x_Hd C hm _ rfl (by omega) d_Mc_licencesTaken_59 ?_
        refine g_Hd_from C hm (by omega) lk_Mc_126 d_Mc_licencesTaken_60 ?_
        refine r_icmp_lt (tgt := 91) C d_Mc_licencesTaken_63 (by decide) (by first | assumption | exact bd_ir (by assumption) rfl | exact b2i_ir _ | exact pb_ir _ | exact ir_mk (by omega) (by omega)) (by first | assumption | exact bd_ir (by assumption) rfl | exact b2i_ir _ | exact pb_ir _ | exact ir_mk (by omega) (by omega)) (fun c63 => ?_) (fun c63 => ?_)
        · refine r_iinc_3 C d_Mc_licencesTaken_91 ?_
          refine r_goto (tgt := 45) C d_Mc_licencesTaken_94 (by decide) ?_
          have h := ih (i + 1) (by omega) (by omega)
          rw [ltFh, sumN_s] at h
          first | (rw [if_pos (by omega), ← Int.add_assoc] at h; exact h) | (rw [if_neg (by omega), Int.add_zero] at h; exact h)
        · refine r_iload_n C d_Mc_licencesTaken_66 rfl ?_
          refine r_aload_n C d_Mc_licencesTaken_67 rfl ?_
          refine g_Mc_holds C hm lk_Mc_31 d_Mc_licencesTaken_68 ?_
          refine r_iload_n C d_Mc_licencesTaken_71 rfl ?_
          refine x_Hd C hm _ rfl (by omega) d_Mc_licencesTaken_72 ?_
          refine g_Hd_to C hm (by omega) lk_Mc_129 d_Mc_licencesTaken_73 ?_
          refine r_icmp_ge (tgt := 91) C d_Mc_licencesTaken_76 (by decide) (by first | assumption | exact bd_ir (by assumption) rfl | exact b2i_ir _ | exact pb_ir _ | exact ir_mk (by omega) (by omega)) (by first | assumption | exact bd_ir (by assumption) rfl | exact b2i_ir _ | exact pb_ir _ | exact ir_mk (by omega) (by omega)) (fun c76 => ?_) (fun c76 => ?_)
          · refine r_iinc_3 C d_Mc_licencesTaken_91 ?_
            refine r_goto (tgt := 45) C d_Mc_licencesTaken_94 (by decide) ?_
            have h := ih (i + 1) (by omega) (by omega)
            rw [ltFh, sumN_s] at h
            first | (rw [if_pos (by omega), ← Int.add_assoc] at h; exact h) | (rw [if_neg (by omega), Int.add_zero] at h; exact h)
          · refine r_iload_n C d_Mc_licencesTaken_79 rfl ?_
            refine r_aload_n C d_Mc_licencesTaken_80 rfl ?_
            refine g_Mc_holds C hm lk_Mc_31 d_Mc_licencesTaken_81 ?_
            refine r_iload_n C d_Mc_licencesTaken_84 rfl ?_
            refine x_Hd C hm _ rfl (by omega) d_Mc_licencesTaken_85 ?_
            refine g_Hd_licences C hm (by omega) lk_Mc_136 d_Mc_licencesTaken_86 ?_
            refine r_iadd C d_Mc_licencesTaken_89 ?_
            refine r_istore_2 C d_Mc_licencesTaken_90 ?_
            refine r_iinc_3 C d_Mc_licencesTaken_91 ?_
            refine r_goto (tgt := 45) C d_Mc_licencesTaken_94 (by decide) ?_
            have h := ih (i + 1) (by omega) (by omega)
            rw [ltFh, sumN_s] at h
            first | (rw [if_pos (by omega), ← Int.add_assoc] at h; exact h) | (rw [if_neg (by omega), Int.add_zero] at h; exact h)
  have hl1 : ∀ (k i : Nat), i ≤ (t 2 0).toNat → (t 2 0).toNat - i < k → g (sm S0 m t) 4 [some (rf E (kMc m)), some (iv u), some (iv (ltFj t u i)), some (iv (i : Int))] [] := by
    intro k
    induction k with
    | zero => intro i h1 h2; omega
    | succ k ih =>
      intro i h1 h2
      refine r_iload_n C d_Mc_licencesTaken_4 rfl ?_
      refine r_aload_n C d_Mc_licencesTaken_5 rfl ?_
      refine g_Mc_jobCount C hm lk_Mc_62 d_Mc_licencesTaken_6 ?_
      refine r_icmp_ge (tgt := 43) C d_Mc_licencesTaken_9 (by decide) (by first | assumption | exact bd_ir (by assumption) rfl | exact b2i_ir _ | exact pb_ir _ | exact ir_mk (by omega) (by omega)) (by first | assumption | exact bd_ir (by assumption) rfl | exact b2i_ir _ | exact pb_ir _ | exact ir_mk (by omega) (by omega)) (fun c9 => ?_) (fun c9 => ?_)
      · refine r_iconst C d_Mc_licencesTaken_43 ?_
        refine r_istore_3 C d_Mc_licencesTaken_44 ?_
        have h := hl2 ((t 3 0).toNat + 1) 0 (by omega) (by omega)
        rw [show ltFh t u 0 = 0 from rfl, Int.add_zero] at h
        rw [show i = (t 2 0).toNat by omega]
        exact h
      · refine r_iload_n C d_Mc_licencesTaken_12 rfl ?_
        refine r_aload_n C d_Mc_licencesTaken_13 rfl ?_
        refine g_Mc_jobs C hm lk_Mc_25 d_Mc_licencesTaken_14 ?_
        refine r_iload_n C d_Mc_licencesTaken_17 rfl ?_
        refine x_Jb C hm _ rfl (by omega) d_Mc_licencesTaken_18 ?_
        refine g_Jb_takesUntil C hm (by omega) lk_Mc_123 d_Mc_licencesTaken_19 ?_
        refine r_icmp_ge (tgt := 37) C d_Mc_licencesTaken_22 (by decide) (by first | assumption | exact bd_ir (by assumption) rfl | exact b2i_ir _ | exact pb_ir _ | exact ir_mk (by omega) (by omega)) (by first | assumption | exact bd_ir (by assumption) rfl | exact b2i_ir _ | exact pb_ir _ | exact ir_mk (by omega) (by omega)) (fun c22 => ?_) (fun c22 => ?_)
        · refine r_iinc_3 C d_Mc_licencesTaken_37 ?_
          refine r_goto (tgt := 4) C d_Mc_licencesTaken_40 (by decide) ?_
          have h := ih (i + 1) (by omega) (by omega)
          rw [ltFj, sumN_s] at h
          first | (rw [if_pos (by omega)] at h; exact h) | (rw [if_neg (by omega), Int.add_zero] at h; exact h)
        · refine r_iload_n C d_Mc_licencesTaken_25 rfl ?_
          refine r_aload_n C d_Mc_licencesTaken_26 rfl ?_
          refine g_Mc_jobs C hm lk_Mc_25 d_Mc_licencesTaken_27 ?_
          refine r_iload_n C d_Mc_licencesTaken_30 rfl ?_
          refine x_Jb C hm _ rfl (by omega) d_Mc_licencesTaken_31 ?_
          refine g_Jb_licences C hm (by omega) lk_Mc_133 d_Mc_licencesTaken_32 ?_
          refine r_iadd C d_Mc_licencesTaken_35 ?_
          refine r_istore_2 C d_Mc_licencesTaken_36 ?_
          refine r_iinc_3 C d_Mc_licencesTaken_37 ?_
          refine r_goto (tgt := 4) C d_Mc_licencesTaken_40 (by decide) ?_
          have h := ih (i + 1) (by omega) (by omega)
          rw [ltFj, sumN_s] at h
          first | (rw [if_pos (by omega)] at h; exact h) | (rw [if_neg (by omega), Int.add_zero] at h; exact h)
  refine r_iconst C d_Mc_licencesTaken_0 ?_
  refine r_istore_2 C d_Mc_licencesTaken_1 ?_
  refine r_iconst C d_Mc_licencesTaken_2 ?_
  refine r_istore_3 C d_Mc_licencesTaken_3 ?_
  exact hl1 ((t 2 0).toNat + 1) 0 (by omega) (by omega)
end
section
noncomputable def pb (p : Prop) : Int := @ite Int p (Classical.propDecidable p) 1 0
theorem pb_t {p : Prop} (h : p) : pb p = 1 := by unfold pb; rw [if_pos h]
theorem pb_f {p : Prop} (h : ¬ p) : pb p = 0 := by unfold pb; rw [if_neg h]
theorem pb_01 (p : Prop) : pb p = 0 ∨ pb p = 1 := by by_cases h : p; exact Or.inr (pb_t h); exact Or.inl (pb_f h)
theorem pb_ir (p : Prop) : ir (pb p) := by rcases pb_01 p with h | h <;> rw [h] <;> exact ⟨by omega, by omega⟩
theorem pb_1 {p : Prop} : pb p = 1 ↔ p := by
  by_cases h : p
  · rw [pb_t h]; simp [h]
  · rw [pb_f h]; simp [h]
theorem pb_0 {p : Prop} : pb p = 0 ↔ ¬ p := by
  by_cases h : p
  · rw [pb_t h]; simp [h]
  · rw [pb_f h]; simp [h]
theorem pb_c {p q : Prop} (h : p ↔ q) : pb p = pb q := by rw [propext h]
noncomputable def pif {α : Type} (p : Prop) (a b : α) : α := @ite α p (Classical.propDecidable p) a b
theorem pif_t {α : Type} {p : Prop} {a b : α} (h : p) : pif p a b = a := by unfold pif; rw [if_pos h]
theorem pif_f {α : Type} {p : Prop} {a b : α} (h : ¬ p) : pif p a b = b := by unfold pif; rw [if_neg h]
theorem pif_c {α : Type} {p q : Prop} {a b : α} (h : p ↔ q) : pif p a b = pif q a b := by rw [propext h]
def roomF (t : TT) (n : Nat) : Int := sumN (fun r => if t 14 r = 0 then t 12 r else 0) n
theorem roomF_s (t : TT) (n : Nat) : roomF t (n + 1) = roomF t n + if t 14 n = 0 then t 12 n else 0 := rfl
def rec2 (t : TT) (n : Nat) : TT := fun f a => if f = 7 ∧ a = 0 then roomF t (t 0 0).toNat else if f = 28 ∧ a < n then cntF t a (t 0 0).toNat else t f a
def recF (t : TT) : TT := rec2 t (t 2 0).toNat
theorem roomF_bd {t : TT} (hB : Bd t) {n : Nat} (hn : n ≤ 4) : 0 ≤ roomF t n ∧ roomF t n ≤ 64 := by
  have h := sumN_bd (f := fun r => if t 14 r = 0 then t 12 r else 0) (lo := 0) (hi := 16) (n := n) (fun i _ => by
    have := bd12 hB i
    split <;> omega)
  unfold roomF; omega
theorem cntF_bd {t : TT} (hB : Bd t) {j n : Nat} (hn : n ≤ 4) : 0 ≤ cntF t j n ∧ cntF t j n ≤ 64 := by
  have h := sumN_bd (f := fun r => if t 14 r = 0 then t (100 + j) r else 0) (lo := 0) (hi := 16) (n := n) (fun i _ => by
    have := bdOn hB j i
    split <;> omega)
  unfold cntF; omega
theorem rec2_bd {t : TT} (hB : Bd t) (n : Nat) : Bd (rec2 t n) := by
  intro f a hf
  have b0 := bd0 hB 0
  unfold rec2
  split
  · rename_i q; rw [q.1]; exact roomF_bd hB (by omega)
  split
  · rename_i q; rw [q.1]; exact cntF_bd hB (by omega)
  · exact hB f a hf
theorem rec2_ne {t : TT} {n f a : Nat} (h : ¬ (f = 7 ∧ a = 0)) (h2 : ¬ (f = 28 ∧ a < n)) : rec2 t n f a = t f a := by unfold rec2; rw [if_neg h, if_neg h2]
theorem rec2_cnt {t : TT} {n j k : Nat} : cntF (rec2 t n) j k = cntF t j k := by
  unfold cntF
  refine sumN_congr (fun r _ => ?_)
  rw [rec2_ne (by omega) (by omega), rec2_ne (by omega) (by omega)]
theorem k_Mc_recount {l : Launch} {E : Ew} {S0 : WW} {m : Nat} {t : TT} (hm : m < 2) (hB : Bd t) : Kf l y_Mc_recount b_Mc_recount 2 none 1 E (sm S0 m t) [rf E (kMc m)] none (sm S0 m (recF t)) := by
  refine KfV rfl rfl (Nat.le_of_ble_eq_true rfl) (fun g C R => ?_)
  show g (sm S0 m t) 0 [some (rf E (kMc m)), none] []
  have b0 := bd0 hB 0
  have b2 := bd2 hB 0
  have hl2 : ∀ (k i : Nat), i ≤ (t 2 0).toNat → (t 2 0).toNat - i < k → g (sm S0 m (rec2 t i)) 57 [some (rf E (kMc m)), some (iv (i : Int))] [] := by
    intro k
    induction k with
    | zero => intro i h1 h2; omega
    | succ k ih =>
      intro i h1 h2
      refine r_iload_n C d_Mc_recount_57 rfl ?_
      refine r_aload_n C d_Mc_recount_58 rfl ?_
      refine g_Mc_jobCount C hm lk_Mc_62 d_Mc_recount_59 ?_
      rw [rec2_ne (by omega) (by omega)]
      refine r_icmp_ge (tgt := 90) C d_Mc_recount_62 (by decide) (by first | assumption | exact bd_ir (by assumption) rfl | exact b2i_ir _ | exact pb_ir _ | exact ir_mk (by omega) (by omega)) (by first | assumption | exact bd_ir (by assumption) rfl | exact b2i_ir _ | exact pb_ir _ | exact ir_mk (by omega) (by omega)) (fun c62 => ?_) (fun c62 => ?_)
      · exact R d_Mc_recount_90 (by rw [show i = (t 2 0).toNat by omega]; rfl)
      · refine r_aload_n C d_Mc_recount_65 rfl ?_
        refine g_Mc_jobs C hm lk_Mc_25 d_Mc_recount_66 ?_
        refine r_iload_n C d_Mc_recount_69 rfl ?_
        refine x_Jb C hm _ rfl (by omega) d_Mc_recount_70 ?_
        refine r_aload_n C d_Mc_recount_71 rfl ?_
        refine r_aload_n C d_Mc_recount_72 rfl ?_
        refine g_Mc_jobs C hm lk_Mc_25 d_Mc_recount_73 ?_
        refine r_iload_n C d_Mc_recount_76 rfl ?_
        refine x_Jb C hm _ rfl (by omega) d_Mc_recount_77 ?_
        refine r_cV1r C (k_Mc_countedOf hm (j := i) (by omega) (rec2_bd hB i)) (by decide) (by decide) ml_Mc_106 mn_Mc_countedOf ms_Mc_countedOf mc_Mc_countedOf mi_Mc_countedOf md_Mc_countedOf (kMc_lt hm) (zMc hm) rfl rfl (Nat.le_of_ble_eq_true rfl) d_Mc_recount_78 ?_
        rw [rec2_cnt, rec2_ne (by omega) (by omega)]
        refine p_Jb_counted C hm (by omega) lk_Mc_110 d_Mc_recount_81 ?_
        rw [show tu (rec2 t i) 28 i (cntF t i (t 0 0).toNat) = rec2 t (i + 1) by
            funext f a
            simp only [tu, rec2]
            grind]
        refine r_iinc_1 C d_Mc_recount_84 ?_
        refine r_goto (tgt := 57) C d_Mc_recount_87 (by decide) ?_
        exact ih (i + 1) (by omega) (by omega)
  have hl1 : ∀ (k i : Nat), i ≤ (t 0 0).toNat → (t 0 0).toNat - i < k → g (sm S0 m (tu t 7 0 (roomF t i))) 7 [some (rf E (kMc m)), some (iv (i : Int))] [] := by
    intro k
    induction k with
    | zero => intro i h1 h2; omega
    | succ k ih =>
      intro i h1 h2
      refine r_iload_n C d_Mc_recount_7 rfl ?_
      refine r_aload_n C d_Mc_recount_8 rfl ?_
      refine g_Mc_rackCount C hm lk_Mc_56 d_Mc_recount_9 ?_
      try simp (disch := omega) only [tu_ne, tu_eq]
      refine r_icmp_ge (tgt := 55) C d_Mc_recount_12 (by decide) (by first | assumption | exact bd_ir (by assumption) rfl | exact b2i_ir _ | exact pb_ir _ | exact ir_mk (by omega) (by omega)) (by first | assumption | exact bd_ir (by assumption) rfl | exact b2i_ir _ | exact pb_ir _ | exact ir_mk (by omega) (by omega)) (fun c12 => ?_) (fun c12 => ?_)
      · refine r_iconst C d_Mc_recount_55 ?_
        refine r_istore_1 C d_Mc_recount_56 ?_
        rw [show i = (t 0 0).toNat by omega, show tu t 7 0 (roomF t (t 0 0).toNat) = rec2 t 0 by
            funext f a
            simp only [tu, rec2]
            grind]
        exact hl2 ((t 2 0).toNat + 1) 0 (by omega) (by omega)
      · refine r_aload_n C d_Mc_recount_15 rfl ?_
        refine r_dup C d_Mc_recount_16 rfl ?_
        refine g_Mc_room C hm lk_Mc_71 d_Mc_recount_17 ?_
        refine r_aload_n C d_Mc_recount_20 rfl ?_
        refine g_Mc_racks C hm lk_Mc_11 d_Mc_recount_21 ?_
        refine r_iload_n C d_Mc_recount_24 rfl ?_
        refine x_Rk C hm _ rfl (by omega) d_Mc_recount_25 ?_
        refine g_Rk_drained C hm (by omega) lk_Mc_102 d_Mc_recount_26 ?_
        try simp (disch := omega) only [tu_ne, tu_eq]
        refine r_if_eq (tgt := 36) C d_Mc_recount_29 (by decide) (by first | assumption | exact bd_ir (by assumption) rfl | exact b2i_ir _ | exact pb_ir _ | exact ir_mk (by omega) (by omega)) (fun c29 => ?_) (fun c29 => ?_)
        · refine r_aload_n C d_Mc_recount_36 rfl ?_
          refine g_Mc_racks C hm lk_Mc_11 d_Mc_recount_37 ?_
          refine r_iload_n C d_Mc_recount_40 rfl ?_
          refine x_Rk C hm _ rfl (by omega) d_Mc_recount_41 ?_
          refine g_Rk_nodes C hm (by omega) lk_Mc_87 d_Mc_recount_42 ?_
          try simp (disch := omega) only [tu_ne, tu_eq]
          refine r_iadd C d_Mc_recount_45 ?_
          refine p_Mc_room C hm lk_Mc_71 d_Mc_recount_46 ?_
          refine r_iinc_1 C d_Mc_recount_49 ?_
          refine r_goto (tgt := 7) C d_Mc_recount_52 (by decide) ?_
          have h := ih (i + 1) (by omega) (by omega)
          rw [roomF_s] at h
          have e : ∀ x y : Int, tu (tu t 7 0 x) 7 0 y = tu t 7 0 y := fun x y => by funext f a; simp only [tu]; split <;> rfl
          rw [e]
          first | (rw [if_pos (by omega)] at h; exact h) | (rw [if_neg (by omega)] at h; exact h)
        · refine r_iconst C d_Mc_recount_32 ?_
          refine r_goto (tgt := 45) C d_Mc_recount_33 (by decide) ?_
          try simp (disch := omega) only [tu_ne, tu_eq]
          refine r_iadd C d_Mc_recount_45 ?_
          refine p_Mc_room C hm lk_Mc_71 d_Mc_recount_46 ?_
          refine r_iinc_1 C d_Mc_recount_49 ?_
          refine r_goto (tgt := 7) C d_Mc_recount_52 (by decide) ?_
          have h := ih (i + 1) (by omega) (by omega)
          rw [roomF_s] at h
          have e : ∀ x y : Int, tu (tu t 7 0 x) 7 0 y = tu t 7 0 y := fun x y => by funext f a; simp only [tu]; split <;> rfl
          rw [e]
          first | (rw [if_pos (by omega)] at h; exact h) | (rw [if_neg (by omega)] at h; exact h)
  refine r_aload_n C d_Mc_recount_0 rfl ?_
  refine r_iconst C d_Mc_recount_1 ?_
  refine p_Mc_room C hm lk_Mc_71 d_Mc_recount_2 ?_
  refine r_iconst C d_Mc_recount_5 ?_
  refine r_istore_1 C d_Mc_recount_6 ?_
  exact hl1 ((t 0 0).toNat + 1) 0 (by omega) (by omega)
def lv1 (t : TT) (j n : Nat) : TT := fun f a => if f = 13 ∧ a < n then t 13 a + t (100 + j) a else if f = 100 + j ∧ a < n then 0 else t f a
def lvF (t : TT) (j : Nat) : TT := tu (tu (lv1 t j (t 0 0).toNat) 28 j 0) 29 j 0
theorem lv1_ne {t : TT} {j n f a : Nat} (h : f ≠ 13 ∨ n ≤ a) (h2 : f ≠ 100 + j ∨ n ≤ a) : lv1 t j n f a = t f a := by unfold lv1; rw [if_neg (by omega), if_neg (by omega)]
theorem lv1_s (t : TT) (j n : Nat) : tu (tu (lv1 t j n) 13 n (t 13 n + t (100 + j) n)) (100 + j) n 0 = lv1 t j (n + 1) := by
  funext f a
  simp only [tu, lv1]
  grind
theorem lv1_0 (t : TT) (j : Nat) : lv1 t j 0 = t := by
  funext f a
  simp [lv1]
theorem k_Mc_leaveNodes {l : Launch} {E : Ew} {S0 : WW} {m : Nat} {t : TT} (hm : m < 2) {j : Nat} (hj : j < 30) (hB : Bd t) : Kf l y_Mc_leaveNodes b_Mc_leaveNodes 3 none 0 E (sm S0 m t) [rf E (kMc m), rf E (kJb m j)] none (sm S0 m (lvF t j)) := by
  refine KfV rfl rfl (Nat.le_of_ble_eq_true rfl) (fun g C R => ?_)
  show g (sm S0 m t) 0 [some (rf E (kMc m)), some (rf E (kJb m j)), none] []
  have b0 := bd0 hB 0
  have hl : ∀ (k i : Nat), i ≤ (t 0 0).toNat → (t 0 0).toNat - i < k → g (sm S0 m (lv1 t j i)) 2 [some (rf E (kMc m)), some (rf E (kJb m j)), some (iv (i : Int))] [] := by
    intro k
    induction k with
    | zero => intro i h1 h2; omega
    | succ k ih =>
      intro i h1 h2
      refine r_iload_n C d_Mc_leaveNodes_2 rfl ?_
      refine r_aload_n C d_Mc_leaveNodes_3 rfl ?_
      refine g_Mc_rackCount C hm lk_Mc_56 d_Mc_leaveNodes_4 ?_
      rw [lv1_ne (by omega) (by omega)]
      refine r_icmp_ge (tgt := 43) C d_Mc_leaveNodes_7 (by decide) (by first | assumption | exact bd_ir (by assumption) rfl | exact b2i_ir _ | exact pb_ir _ | exact ir_mk (by omega) (by omega)) (by first | assumption | exact bd_ir (by assumption) rfl | exact b2i_ir _ | exact pb_ir _ | exact ir_mk (by omega) (by omega)) (fun c7 => ?_) (fun c7 => ?_)
      · refine r_aload_n C d_Mc_leaveNodes_43 rfl ?_
        refine r_iconst C d_Mc_leaveNodes_44 ?_
        refine p_Jb_counted C hm (by omega) lk_Mc_110 d_Mc_leaveNodes_45 ?_
        refine r_aload_n C d_Mc_leaveNodes_48 rfl ?_
        refine r_iconst C d_Mc_leaveNodes_49 ?_
        refine p_Jb_takesUntil C hm (by omega) lk_Mc_123 d_Mc_leaveNodes_50 ?_
        exact R d_Mc_leaveNodes_53 (by rw [show i = (t 0 0).toNat by omega]; rfl)
      · refine r_aload_n C d_Mc_leaveNodes_10 rfl ?_
        refine g_Mc_racks C hm lk_Mc_11 d_Mc_leaveNodes_11 ?_
        refine r_iload_n C d_Mc_leaveNodes_14 rfl ?_
        refine x_Rk C hm _ rfl (by omega) d_Mc_leaveNodes_15 ?_
        refine r_dup C d_Mc_leaveNodes_16 rfl ?_
        refine g_Rk_unused C hm (by omega) lk_Mc_90 d_Mc_leaveNodes_17 ?_
        refine r_aload_n C d_Mc_leaveNodes_20 rfl ?_
        refine g_Jb_nodesOn C hm (by omega) lk_Mc_113 d_Mc_leaveNodes_21 ?_
        refine r_iload_n C d_Mc_leaveNodes_24 rfl ?_
        refine x_On C hm (by omega) _ rfl (by omega) d_Mc_leaveNodes_25 ?_
        refine r_iadd C d_Mc_leaveNodes_26 ?_
        refine p_Rk_unused C hm (by omega) lk_Mc_90 d_Mc_leaveNodes_27 ?_
        rw [lv1_ne (by omega) (by omega), lv1_ne (by omega) (by omega)]
        refine r_aload_n C d_Mc_leaveNodes_30 rfl ?_
        refine g_Jb_nodesOn C hm (by omega) lk_Mc_113 d_Mc_leaveNodes_31 ?_
        refine r_iload_n C d_Mc_leaveNodes_34 rfl ?_
        refine r_iconst C d_Mc_leaveNodes_35 ?_
        refine st_On C hm (by omega) _ rfl (by omega) d_Mc_leaveNodes_36 ?_
        rw [lv1_s]
        refine r_iinc_2 C d_Mc_leaveNodes_37 ?_
        refine r_goto (tgt := 2) C d_Mc_leaveNodes_40 (by decide) ?_
        exact ih (i + 1) (by omega) (by omega)
  refine r_iconst C d_Mc_leaveNodes_0 ?_
  refine r_istore_2 C d_Mc_leaveNodes_1 ?_
  have h := hl ((t 0 0).toNat + 1) 0 (by omega) (by omega)
  rw [lv1_0] at h
  exact h
def arF (t : TT) (x : Int) : TT := recF (tu (tu (tu t 12 (t 0 0).toNat x) 13 (t 0 0).toNat x) 0 0 (t 0 0 + 1))
def aaF (t : TT) (x : Int) : TT := tu (tu t 15 (t 1 0).toNat x) 1 0 (t 1 0 + 1)
theorem k_Mc_addRack {l : Launch} {E : Ew} {S0 : WW} {m : Nat} {t : TT} (hm : m < 2) {x : Int} (hx : 0 ≤ x ∧ x ≤ 16) (h4 : t 0 0 < 4) (hB : Bd t) : Kf l y_Mc_addRack b_Mc_addRack 3 (some .int) 2 E (sm S0 m t) [rf E (kMc m), iv x] (some (iv (t 0 0))) (sm S0 m (arF t x)) := by
  refine KfI rfl rfl (Nat.le_of_ble_eq_true rfl) (fun g C R => ?_)
  show g (sm S0 m t) 0 [some (rf E (kMc m)), some (iv x), none] []
  have b0 := bd0 hB 0
  refine r_aload_n C d_Mc_addRack_0 rfl ?_
  refine g_Mc_rackCount C hm lk_Mc_56 d_Mc_addRack_1 ?_
  refine r_istore_2 C d_Mc_addRack_4 ?_
  refine r_aload_n C d_Mc_addRack_5 rfl ?_
  refine g_Mc_racks C hm lk_Mc_11 d_Mc_addRack_6 ?_
  refine r_iload_n C d_Mc_addRack_9 rfl ?_
  refine x_Rk C hm (t 0 0).toNat (by omega) (by omega) d_Mc_addRack_10 ?_
  refine r_iload_n C d_Mc_addRack_11 rfl ?_
  refine p_Rk_nodes C hm (by omega) lk_Mc_87 d_Mc_addRack_12 ?_
  refine r_aload_n C d_Mc_addRack_15 rfl ?_
  refine g_Mc_racks C hm lk_Mc_11 d_Mc_addRack_16 ?_
  refine r_iload_n C d_Mc_addRack_19 rfl ?_
  refine x_Rk C hm (t 0 0).toNat (by omega) (by omega) d_Mc_addRack_20 ?_
  refine r_iload_n C d_Mc_addRack_21 rfl ?_
  refine p_Rk_unused C hm (by omega) lk_Mc_90 d_Mc_addRack_22 ?_
  refine r_aload_n C d_Mc_addRack_25 rfl ?_
  refine r_dup C d_Mc_addRack_26 rfl ?_
  refine g_Mc_rackCount C hm lk_Mc_56 d_Mc_addRack_27 ?_
  try simp (disch := omega) only [tu_ne, tu_eq]
  refine r_iconst C d_Mc_addRack_30 ?_
  refine r_iadd C d_Mc_addRack_31 ?_
  refine p_Mc_rackCount C hm lk_Mc_56 d_Mc_addRack_32 ?_
  refine r_aload_n C d_Mc_addRack_35 rfl ?_
  refine r_cV0v C (k_Mc_recount hm (bd_tu (bd_tu (bd_tu hB (fun _ => hx)) (fun _ => hx)) (fun _ => (show (0 : Int) ≤ t 0 0 + 1 ∧ t 0 0 + 1 ≤ 4 by omega)))) (by decide) (by decide) ml_Mc_93 mn_Mc_recount ms_Mc_recount mc_Mc_recount mi_Mc_recount md_Mc_recount (kMc_lt hm) (zMc hm) rfl rfl (Nat.le_of_ble_eq_true rfl) d_Mc_addRack_36 ?_
  refine r_iload_n C d_Mc_addRack_39 rfl ?_
  exact R d_Mc_addRack_40 rfl rfl
theorem k_Mc_addAccount {l : Launch} {E : Ew} {S0 : WW} {m : Nat} {t : TT} (hm : m < 2) {x : Int} (h4 : t 1 0 < 6) (hB : Bd t) : Kf l y_Mc_addAccount b_Mc_addAccount 3 (some .int) 0 E (sm S0 m t) [rf E (kMc m), iv x] (some (iv (t 1 0))) (sm S0 m (aaF t x)) := by
  refine KfI rfl rfl (Nat.le_of_ble_eq_true rfl) (fun g C R => ?_)
  show g (sm S0 m t) 0 [some (rf E (kMc m)), some (iv x), none] []
  have b1 := bd1 hB 0
  refine r_aload_n C d_Mc_addAccount_0 rfl ?_
  refine g_Mc_accountCount C hm lk_Mc_59 d_Mc_addAccount_1 ?_
  refine r_istore_2 C d_Mc_addAccount_4 ?_
  refine r_aload_n C d_Mc_addAccount_5 rfl ?_
  refine g_Mc_accounts C hm lk_Mc_19 d_Mc_addAccount_6 ?_
  refine r_iload_n C d_Mc_addAccount_9 rfl ?_
  refine x_Ac C hm (t 1 0).toNat (by omega) (by omega) d_Mc_addAccount_10 ?_
  refine r_iload_n C d_Mc_addAccount_11 rfl ?_
  refine p_Ac_shares C hm (by omega) lk_Mc_96 d_Mc_addAccount_12 ?_
  refine r_aload_n C d_Mc_addAccount_15 rfl ?_
  refine r_dup C d_Mc_addAccount_16 rfl ?_
  refine g_Mc_accountCount C hm lk_Mc_59 d_Mc_addAccount_17 ?_
  try simp (disch := omega) only [tu_ne, tu_eq]
  refine r_iconst C d_Mc_addAccount_20 ?_
  refine r_iadd C d_Mc_addAccount_21 ?_
  refine p_Mc_accountCount C hm lk_Mc_59 d_Mc_addAccount_22 ?_
  refine r_iload_n C d_Mc_addAccount_25 rfl ?_
  exact R d_Mc_addAccount_26 rfl rfl
theorem k_Hd_become_s {l : Launch} {E : Ew} {S0 : WW} {m : Nat} {t : TT} (hm : m < 2) {i : Nat} (hi : i < 9) {q : Nat} (hq : q < 9) : Kf l y_Hd_become b_Hd_become 2 none 1 E (sm S0 m t) [rf E (kHd m i), rf E (kHd m q)] none (sm S0 m (hdF t i (t 31 q) (t 32 q) (t 33 q) (t 34 q))) := by
  refine KfV rfl rfl (Nat.le_of_ble_eq_true rfl) (fun g C R => ?_)
  show g (sm S0 m t) 0 [some (rf E (kHd m i)), some (rf E (kHd m q))] []
  refine r_aload_n C d_Hd_become_0 rfl ?_
  refine r_aload_n C d_Hd_become_1 rfl ?_
  refine g_Hd_nodes C hm (by omega) lk_Hd_7 d_Hd_become_2 ?_
  refine r_aload_n C d_Hd_become_5 rfl ?_
  refine g_Hd_licences C hm (by omega) lk_Hd_13 d_Hd_become_6 ?_
  refine r_aload_n C d_Hd_become_9 rfl ?_
  refine g_Hd_from C hm (by omega) lk_Hd_16 d_Hd_become_10 ?_
  refine r_aload_n C d_Hd_become_13 rfl ?_
  refine g_Hd_to C hm (by omega) lk_Hd_19 d_Hd_become_14 ?_
  refine r_cV4v C (k_Hd_set hm hi) (by decide) (by decide) ml_Hd_22 mn_Hd_set ms_Hd_set mc_Hd_set mi_Hd_set md_Hd_set (kHd_lt hm (by omega)) (zHd hm (by omega)) rfl rfl (Nat.le_of_ble_eq_true rfl) d_Hd_become_17 ?_
  exact R d_Hd_become_20 rfl
def db1 (t : TT) (b i : Nat) : TT := fun f a => if (31 ≤ f ∧ f ≤ 34) ∧ b ≤ a ∧ a < i then t f (a + 1) else t f a
def dbF (t : TT) (b : Nat) : TT := tu (db1 t b ((t 3 0).toNat - 1)) 3 0 (t 3 0 - 1)
theorem db1_0 (t : TT) (b : Nat) : db1 t b b = t := by
  funext f a
  unfold db1
  rw [if_neg (by omega)]
theorem db1_ne {t : TT} {b i f a : Nat} (h : f < 31 ∨ 34 < f ∨ i ≤ a) : db1 t b i f a = t f a := by unfold db1; rw [if_neg (by omega)]
theorem db1_s {t : TT} {b i : Nat} (h : b ≤ i) : hdF (db1 t b i) i (t 31 (i + 1)) (t 32 (i + 1)) (t 33 (i + 1)) (t 34 (i + 1)) = db1 t b (i + 1) := by
  funext f a
  simp only [hdF, tu, db1]
  grind
theorem k_Mc_dropBooking {l : Launch} {E : Ew} {S0 : WW} {m : Nat} {t : TT} (hm : m < 2) {b : Nat} (hb : (b : Int) < t 3 0) (hB : Bd t) : Kf l y_Mc_dropBooking b_Mc_dropBooking 3 none 2 E (sm S0 m t) [rf E (kMc m), iv (b : Int)] none (sm S0 m (dbF t b)) := by
  refine KfV rfl rfl (Nat.le_of_ble_eq_true rfl) (fun g C R => ?_)
  show g (sm S0 m t) 0 [some (rf E (kMc m)), some (iv (b : Int)), none] []
  have b3 := bd3 hB 0
  have hl : ∀ (k i : Nat), b ≤ i → i ≤ ((t 3 0).toNat - 1) → ((t 3 0).toNat - 1) - i < k → g (sm S0 m (db1 t b i)) 2 [some (rf E (kMc m)), some (iv (b : Int)), some (iv (i : Int))] [] := by
    intro k
    induction k with
    | zero => intro i h0 h1 h2; omega
    | succ k ih =>
      intro i h0 h1 h2
      refine r_iload_n C d_Mc_dropBooking_2 rfl ?_
      refine r_iconst C d_Mc_dropBooking_3 ?_
      refine r_iadd C d_Mc_dropBooking_4 ?_
      refine r_aload_n C d_Mc_dropBooking_5 rfl ?_
      refine g_Mc_holdCount C hm lk_Mc_65 d_Mc_dropBooking_6 ?_
      rw [db1_ne (by omega)]
      refine r_icmp_ge (tgt := 35) C d_Mc_dropBooking_9 (by decide) (by first | assumption | exact bd_ir (by assumption) rfl | exact b2i_ir _ | exact pb_ir _ | exact ir_mk (by omega) (by omega)) (by first | assumption | exact bd_ir (by assumption) rfl | exact b2i_ir _ | exact pb_ir _ | exact ir_mk (by omega) (by omega)) (fun c9 => ?_) (fun c9 => ?_)
      · refine r_aload_n C d_Mc_dropBooking_35 rfl ?_
        refine r_dup C d_Mc_dropBooking_36 rfl ?_
        refine g_Mc_holdCount C hm lk_Mc_65 d_Mc_dropBooking_37 ?_
        rw [show i = (t 3 0).toNat - 1 by omega]
        rw [db1_ne (by omega)]
        refine r_iconst C d_Mc_dropBooking_40 ?_
        refine r_isub C d_Mc_dropBooking_41 ?_
        refine p_Mc_holdCount C hm lk_Mc_65 d_Mc_dropBooking_42 ?_
        exact R d_Mc_dropBooking_45 rfl
      · refine r_aload_n C d_Mc_dropBooking_12 rfl ?_
        refine g_Mc_holds C hm lk_Mc_31 d_Mc_dropBooking_13 ?_
        refine r_iload_n C d_Mc_dropBooking_16 rfl ?_
        refine x_Hd C hm _ rfl (by omega) d_Mc_dropBooking_17 ?_
        refine r_aload_n C d_Mc_dropBooking_18 rfl ?_
        refine g_Mc_holds C hm lk_Mc_31 d_Mc_dropBooking_19 ?_
        refine r_iload_n C d_Mc_dropBooking_22 rfl ?_
        refine r_iconst C d_Mc_dropBooking_23 ?_
        refine r_iadd C d_Mc_dropBooking_24 ?_
        refine x_Hd C hm (i + 1) (by omega) (by omega) d_Mc_dropBooking_25 ?_
        refine r_cV1v C (k_Hd_become_s hm (i := i) (by omega) (q := i + 1) (by omega)) (by decide) (by decide) ml_Mc_84 mn_Hd_become ms_Hd_become mc_Hd_become mi_Hd_become md_Hd_become (kHd_lt hm (i := i) (by omega)) (zHd hm (by omega)) rfl rfl (Nat.le_of_ble_eq_true rfl) d_Mc_dropBooking_26 ?_
        rw [db1_ne (by omega), db1_ne (by omega), db1_ne (by omega), db1_ne (by omega), db1_s h0]
        refine r_iinc_2 C d_Mc_dropBooking_29 ?_
        refine r_goto (tgt := 2) C d_Mc_dropBooking_32 (by decide) ?_
        exact ih (i + 1) (by omega) (by omega) (by omega)
  refine r_iload_n C d_Mc_dropBooking_0 rfl ?_
  refine r_istore_2 C d_Mc_dropBooking_1 ?_
  have h := hl ((t 3 0).toNat + 1) b (by omega) (by omega) (by omega)
  rw [db1_0] at h
  exact h
theorem ntF_bd {t : TT} (hB : Bd t) (u : Int) : 0 ≤ ntF t u ∧ ntF t u ≤ 2496 := by
  have b2 := bd2 hB 0
  have b3 := bd3 hB 0
  have h1 := sumN_bd (f := fun j => if u < t 29 j then t 28 j else 0) (lo := 0) (hi := 64) (n := (t 2 0).toNat) (fun i _ => by
    have := bd28 hB i
    split <;> omega)
  have h2 := sumN_bd (f := fun k => if t 33 k ≤ u ∧ u < t 34 k then t 31 k else 0) (lo := 0) (hi := 64) (n := (t 3 0).toNat) (fun i _ => by
    have := bd31 hB i
    split <;> omega)
  unfold ntF ntFj ntFh
  omega
def nfP (t : TT) (n a b : Int) (i : Nat) : Prop := n + ntF t a ≤ t 7 0 ∧ ∀ k, k < i → a < t 33 k → t 33 k < b → n + ntF t (t 33 k) ≤ t 7 0
theorem nfP_s {t : TT} {n a b : Int} {i : Nat} : nfP t n a b (i + 1) ↔ nfP t n a b i ∧ (a < t 33 i → t 33 i < b → n + ntF t (t 33 i) ≤ t 7 0) := by
  unfold nfP
  constructor
  · rintro ⟨h1, h2⟩
    exact ⟨⟨h1, fun k hk => h2 k (by omega)⟩, h2 i (by omega)⟩
  · rintro ⟨⟨h1, h2⟩, h3⟩
    refine ⟨h1, fun k hk => ?_⟩
    by_cases q : k = i
    · subst q; exact h3
    · exact h2 k (by omega)
theorem nfP_stop {t : TT} {n a b : Int} {i N : Nat} (h : pb (nfP t n a b i) = 0) (hi : i ≤ N) : pb (nfP t n a b i) = pb (nfP t n a b N) := by
  rw [h]
  refine (pb_f (fun q => pb_0.mp h ⟨q.1, fun k hk => q.2 k (by omega)⟩)).symm
theorem k_Mc_nodesFit {l : Launch} {E : Ew} {S0 : WW} {m : Nat} {t : TT} (hm : m < 2) {n a b : Int} (hn : 0 ≤ n ∧ n ≤ 1000) (ha : ir a) (hb : ir b) (hB : Bd t) : Kf l y_Mc_nodesFit b_Mc_nodesFit 6 (some .boolean) 1 E (sm S0 m t) [rf E (kMc m), iv n, iv a, iv b] (some (iv (pb (nfP t n a b (t 3 0).toNat)))) (sm S0 m t) := by
  refine KfZ rfl rfl (Nat.le_of_ble_eq_true rfl) (fun g C R => ?_)
  show g (sm S0 m t) 0 [some (rf E (kMc m)), some (iv n), some (iv a), some (iv b), none, none] []
  have b3 := bd3 hB 0
  have hnt := ntF_bd hB a
  have hl : ∀ (k i : Nat), i ≤ (t 3 0).toNat → (t 3 0).toNat - i < k → g (sm S0 m t) 24 [some (rf E (kMc m)), some (iv n), some (iv a), some (iv b), some (iv (pb (nfP t n a b i))), some (iv (i : Int))] [] := by
    intro k
    induction k with
    | zero => intro i h1 h2; omega
    | succ k ih =>
      intro i h1 h2
      refine r_iload C d_Mc_nodesFit_24 rfl ?_
      refine r_aload_n C d_Mc_nodesFit_26 rfl ?_
      refine g_Mc_holdCount C hm lk_Mc_65 d_Mc_nodesFit_27 ?_
      refine r_icmp_ge (tgt := 89) C d_Mc_nodesFit_30 (by decide) (by first | assumption | exact bd_ir (by assumption) rfl | exact b2i_ir _ | exact pb_ir _ | exact ir_mk (by omega) (by omega)) (by first | assumption | exact bd_ir (by assumption) rfl | exact b2i_ir _ | exact pb_ir _ | exact ir_mk (by omega) (by omega)) (fun c30 => ?_) (fun c30 => ?_)
      · refine r_iload C d_Mc_nodesFit_89 rfl ?_
        exact R d_Mc_nodesFit_91 (pb_01 _) (by first | (rw [show i = (t 3 0).toNat by omega]) | exact nfP_stop c35 h1) rfl
      · refine r_iload C d_Mc_nodesFit_33 rfl ?_
        refine r_if_eq (tgt := 89) C d_Mc_nodesFit_35 (by decide) (by first | assumption | exact bd_ir (by assumption) rfl | exact b2i_ir _ | exact pb_ir _ | exact ir_mk (by omega) (by omega)) (fun c35 => ?_) (fun c35 => ?_)
        · refine r_iload C d_Mc_nodesFit_89 rfl ?_
          exact R d_Mc_nodesFit_91 (pb_01 _) (by first | (rw [show i = (t 3 0).toNat by omega]) | exact nfP_stop c35 h1) rfl
        · refine r_aload_n C d_Mc_nodesFit_38 rfl ?_
          refine g_Mc_holds C hm lk_Mc_31 d_Mc_nodesFit_39 ?_
          refine r_iload C d_Mc_nodesFit_42 rfl ?_
          refine x_Hd C hm _ rfl (by omega) d_Mc_nodesFit_44 ?_
          refine r_iload_n C d_Mc_nodesFit_45 rfl ?_
          refine r_iload_n C d_Mc_nodesFit_46 rfl ?_
          refine r_cV2r C (k_Hd_beginsWithin hm (i := i) (by omega) ha hb hB) (by decide) (by decide) ml_Mc_141 mn_Hd_beginsWithin ms_Hd_beginsWithin mc_Hd_beginsWithin mi_Hd_beginsWithin md_Hd_beginsWithin (kHd_lt hm (by omega)) (zHd hm (by omega)) rfl rfl (Nat.le_of_ble_eq_true rfl) d_Mc_nodesFit_47 ?_
          refine r_if_eq (tgt := 83) C d_Mc_nodesFit_50 (by decide) (by first | assumption | exact bd_ir (by assumption) rfl | exact b2i_ir _ | exact pb_ir _ | exact ir_mk (by omega) (by omega)) (fun c50 => ?_) (fun c50 => ?_)
          · refine r_iinc_5 C d_Mc_nodesFit_83 ?_
            refine r_goto (tgt := 24) C d_Mc_nodesFit_86 (by decide) ?_
            have h := ih (i + 1) (by omega) (by omega)
            first
              | (rw [show pb (nfP t n a b (i + 1)) = pb (nfP t n a b i) from pb_c ⟨fun q => (nfP_s.mp q).1, fun q => nfP_s.mpr ⟨q, fun q1 q2 => absurd c50 (by rw [b2i, if_pos ⟨q1, q2⟩]; omega)⟩⟩] at h; exact h)
              | (rw [show pb (nfP t n a b (i + 1)) = 0 from pb_f (fun q => absurd ((nfP_s.mp q).2 q2.1 q2.2) (by omega))] at h; exact h)
              | (rw [show pb (nfP t n a b (i + 1)) = 1 from pb_t (nfP_s.mpr ⟨Classical.byContradiction (fun q => c35 (pb_f q)), fun _ _ => by omega⟩)] at h; exact h)
          · have hnt := ntF_bd hB (t 33 i)
            have q2 : a < t 33 i ∧ t 33 i < b := by
              by_cases q3 : a < t 33 i ∧ t 33 i < b
              · exact q3
              · exact absurd (show b2i (a < t 33 i ∧ t 33 i < b) = 0 by rw [b2i, if_neg q3]) c50
            refine r_iload_n C d_Mc_nodesFit_53 rfl ?_
            refine r_aload_n C d_Mc_nodesFit_54 rfl ?_
            refine r_aload_n C d_Mc_nodesFit_55 rfl ?_
            refine g_Mc_holds C hm lk_Mc_31 d_Mc_nodesFit_56 ?_
            refine r_iload C d_Mc_nodesFit_59 rfl ?_
            refine x_Hd C hm _ rfl (by omega) d_Mc_nodesFit_61 ?_
            refine g_Hd_from C hm (by omega) lk_Mc_126 d_Mc_nodesFit_62 ?_
            refine r_cV1r C (k_Mc_nodesTaken hm (u := t 33 i) (bd_ir hB rfl) hB) (by decide) (by decide) ml_Mc_137 mn_Mc_nodesTaken ms_Mc_nodesTaken mc_Mc_nodesTaken mi_Mc_nodesTaken md_Mc_nodesTaken (kMc_lt hm) (zMc hm) rfl rfl (Nat.le_of_ble_eq_true rfl) d_Mc_nodesFit_65 ?_
            refine r_iadd C d_Mc_nodesFit_68 ?_
            refine r_aload_n C d_Mc_nodesFit_69 rfl ?_
            refine g_Mc_room C hm lk_Mc_71 d_Mc_nodesFit_70 ?_
            refine r_icmp_gt (tgt := 80) C d_Mc_nodesFit_73 (by decide) (by first | assumption | exact bd_ir (by assumption) rfl | exact b2i_ir _ | exact pb_ir _ | exact ir_mk (by omega) (by omega)) (by first | assumption | exact bd_ir (by assumption) rfl | exact b2i_ir _ | exact pb_ir _ | exact ir_mk (by omega) (by omega)) (fun c73 => ?_) (fun c73 => ?_)
            · refine r_iconst C d_Mc_nodesFit_80 ?_
              refine r_istore_4 C d_Mc_nodesFit_81 ?_
              refine r_iinc_5 C d_Mc_nodesFit_83 ?_
              refine r_goto (tgt := 24) C d_Mc_nodesFit_86 (by decide) ?_
              have h := ih (i + 1) (by omega) (by omega)
              first
                | (rw [show pb (nfP t n a b (i + 1)) = pb (nfP t n a b i) from pb_c ⟨fun q => (nfP_s.mp q).1, fun q => nfP_s.mpr ⟨q, fun q1 q2 => absurd c50 (by rw [b2i, if_pos ⟨q1, q2⟩]; omega)⟩⟩] at h; exact h)
                | (rw [show pb (nfP t n a b (i + 1)) = 0 from pb_f (fun q => absurd ((nfP_s.mp q).2 q2.1 q2.2) (by omega))] at h; exact h)
                | (rw [show pb (nfP t n a b (i + 1)) = 1 from pb_t (nfP_s.mpr ⟨Classical.byContradiction (fun q => c35 (pb_f q)), fun _ _ => by omega⟩)] at h; exact h)
            · refine r_iconst C d_Mc_nodesFit_76 ?_
              refine r_goto (tgt := 81) C d_Mc_nodesFit_77 (by decide) ?_
              refine r_istore_4 C d_Mc_nodesFit_81 ?_
              refine r_iinc_5 C d_Mc_nodesFit_83 ?_
              refine r_goto (tgt := 24) C d_Mc_nodesFit_86 (by decide) ?_
              have h := ih (i + 1) (by omega) (by omega)
              first
                | (rw [show pb (nfP t n a b (i + 1)) = pb (nfP t n a b i) from pb_c ⟨fun q => (nfP_s.mp q).1, fun q => nfP_s.mpr ⟨q, fun q1 q2 => absurd c50 (by rw [b2i, if_pos ⟨q1, q2⟩]; omega)⟩⟩] at h; exact h)
                | (rw [show pb (nfP t n a b (i + 1)) = 0 from pb_f (fun q => absurd ((nfP_s.mp q).2 q2.1 q2.2) (by omega))] at h; exact h)
                | (rw [show pb (nfP t n a b (i + 1)) = 1 from pb_t (nfP_s.mpr ⟨Classical.byContradiction (fun q => c35 (pb_f q)), fun _ _ => by omega⟩)] at h; exact h)
  refine r_iload_n C d_Mc_nodesFit_0 rfl ?_
  refine r_aload_n C d_Mc_nodesFit_1 rfl ?_
  refine r_iload_n C d_Mc_nodesFit_2 rfl ?_
  refine r_cV1r C (k_Mc_nodesTaken hm ha hB) (by decide) (by decide) ml_Mc_137 mn_Mc_nodesTaken ms_Mc_nodesTaken mc_Mc_nodesTaken mi_Mc_nodesTaken md_Mc_nodesTaken (kMc_lt hm) (zMc hm) rfl rfl (Nat.le_of_ble_eq_true rfl) d_Mc_nodesFit_3 ?_
  refine r_iadd C d_Mc_nodesFit_6 ?_
  refine r_aload_n C d_Mc_nodesFit_7 rfl ?_
  refine g_Mc_room C hm lk_Mc_71 d_Mc_nodesFit_8 ?_
  refine r_icmp_gt (tgt := 18) C d_Mc_nodesFit_11 (by decide) (by first | assumption | exact bd_ir (by assumption) rfl | exact b2i_ir _ | exact pb_ir _ | exact ir_mk (by omega) (by omega)) (by first | assumption | exact bd_ir (by assumption) rfl | exact b2i_ir _ | exact pb_ir _ | exact ir_mk (by omega) (by omega)) (fun c11 => ?_) (fun c11 => ?_)
  · refine r_iconst C d_Mc_nodesFit_18 ?_
    refine r_istore_4 C d_Mc_nodesFit_19 ?_
    refine r_iconst C d_Mc_nodesFit_21 ?_
    refine r_istore_5 C d_Mc_nodesFit_22 ?_
    have h := hl ((t 3 0).toNat + 1) 0 (by omega) (by omega)
    first
      | (rw [show pb (nfP t n a b 0) = 1 from pb_t ⟨by omega, fun k hk => by omega⟩] at h; exact h)
      | (rw [show pb (nfP t n a b 0) = 0 from pb_f (fun q => absurd q.1 (by omega))] at h; exact h)
  · refine r_iconst C d_Mc_nodesFit_14 ?_
    refine r_goto (tgt := 19) C d_Mc_nodesFit_15 (by decide) ?_
    refine r_istore_4 C d_Mc_nodesFit_19 ?_
    refine r_iconst C d_Mc_nodesFit_21 ?_
    refine r_istore_5 C d_Mc_nodesFit_22 ?_
    have h := hl ((t 3 0).toNat + 1) 0 (by omega) (by omega)
    first
      | (rw [show pb (nfP t n a b 0) = 1 from pb_t ⟨by omega, fun k hk => by omega⟩] at h; exact h)
      | (rw [show pb (nfP t n a b 0) = 0 from pb_f (fun q => absurd q.1 (by omega))] at h; exact h)
theorem ltF_bd {t : TT} (hB : Bd t) (u : Int) : 0 ≤ ltF t u ∧ ltF t u ≤ 3900 := by
  have b2 := bd2 hB 0
  have b3 := bd3 hB 0
  have h1 := sumN_bd (f := fun j => if u < t 29 j then t 19 j else 0) (lo := 0) (hi := 100) (n := (t 2 0).toNat) (fun i _ => by
    have := bd19 hB i
    split <;> omega)
  have h2 := sumN_bd (f := fun k => if t 33 k ≤ u ∧ u < t 34 k then t 32 k else 0) (lo := 0) (hi := 100) (n := (t 3 0).toNat) (fun i _ => by
    have := bd32 hB i
    split <;> omega)
  unfold ltF ltFj ltFh
  omega
def lfP (t : TT) (n a b : Int) (i : Nat) : Prop := n + ltF t a ≤ t 6 0 ∧ ∀ k, k < i → a < t 33 k → t 33 k < b → n + ltF t (t 33 k) ≤ t 6 0
theorem lfP_s {t : TT} {n a b : Int} {i : Nat} : lfP t n a b (i + 1) ↔ lfP t n a b i ∧ (a < t 33 i → t 33 i < b → n + ltF t (t 33 i) ≤ t 6 0) := by
  unfold lfP
  constructor
  · rintro ⟨h1, h2⟩
    exact ⟨⟨h1, fun k hk => h2 k (by omega)⟩, h2 i (by omega)⟩
  · rintro ⟨⟨h1, h2⟩, h3⟩
    refine ⟨h1, fun k hk => ?_⟩
    by_cases q : k = i
    · subst q; exact h3
    · exact h2 k (by omega)
theorem lfP_stop {t : TT} {n a b : Int} {i N : Nat} (h : pb (lfP t n a b i) = 0) (hi : i ≤ N) : pb (lfP t n a b i) = pb (lfP t n a b N) := by
  rw [h]
  refine (pb_f (fun q => pb_0.mp h ⟨q.1, fun k hk => q.2 k (by omega)⟩)).symm
theorem k_Mc_licencesFit {l : Launch} {E : Ew} {S0 : WW} {m : Nat} {t : TT} (hm : m < 2) {n a b : Int} (hn : 0 ≤ n ∧ n ≤ 1000) (ha : ir a) (hb : ir b) (hB : Bd t) : Kf l y_Mc_licencesFit b_Mc_licencesFit 6 (some .boolean) 1 E (sm S0 m t) [rf E (kMc m), iv n, iv a, iv b] (some (iv (pb (lfP t n a b (t 3 0).toNat)))) (sm S0 m t) := by
  refine KfZ rfl rfl (Nat.le_of_ble_eq_true rfl) (fun g C R => ?_)
  show g (sm S0 m t) 0 [some (rf E (kMc m)), some (iv n), some (iv a), some (iv b), none, none] []
  have b3 := bd3 hB 0
  have hnt := ltF_bd hB a
  have hl : ∀ (k i : Nat), i ≤ (t 3 0).toNat → (t 3 0).toNat - i < k → g (sm S0 m t) 24 [some (rf E (kMc m)), some (iv n), some (iv a), some (iv b), some (iv (pb (lfP t n a b i))), some (iv (i : Int))] [] := by
    intro k
    induction k with
    | zero => intro i h1 h2; omega
    | succ k ih =>
      intro i h1 h2
      refine r_iload C d_Mc_licencesFit_24 rfl ?_
      refine r_aload_n C d_Mc_licencesFit_26 rfl ?_
      refine g_Mc_holdCount C hm lk_Mc_65 d_Mc_licencesFit_27 ?_
      refine r_icmp_ge (tgt := 89) C d_Mc_licencesFit_30 (by decide) (by first | assumption | exact bd_ir (by assumption) rfl | exact b2i_ir _ | exact pb_ir _ | exact ir_mk (by omega) (by omega)) (by first | assumption | exact bd_ir (by assumption) rfl | exact b2i_ir _ | exact pb_ir _ | exact ir_mk (by omega) (by omega)) (fun c30 => ?_) (fun c30 => ?_)
      · refine r_iload C d_Mc_licencesFit_89 rfl ?_
        exact R d_Mc_licencesFit_91 (pb_01 _) (by first | (rw [show i = (t 3 0).toNat by omega]) | exact lfP_stop c35 h1) rfl
      · refine r_iload C d_Mc_licencesFit_33 rfl ?_
        refine r_if_eq (tgt := 89) C d_Mc_licencesFit_35 (by decide) (by first | assumption | exact bd_ir (by assumption) rfl | exact b2i_ir _ | exact pb_ir _ | exact ir_mk (by omega) (by omega)) (fun c35 => ?_) (fun c35 => ?_)
        · refine r_iload C d_Mc_licencesFit_89 rfl ?_
          exact R d_Mc_licencesFit_91 (pb_01 _) (by first | (rw [show i = (t 3 0).toNat by omega]) | exact lfP_stop c35 h1) rfl
        · refine r_aload_n C d_Mc_licencesFit_38 rfl ?_
          refine g_Mc_holds C hm lk_Mc_31 d_Mc_licencesFit_39 ?_
          refine r_iload C d_Mc_licencesFit_42 rfl ?_
          refine x_Hd C hm _ rfl (by omega) d_Mc_licencesFit_44 ?_
          refine r_iload_n C d_Mc_licencesFit_45 rfl ?_
          refine r_iload_n C d_Mc_licencesFit_46 rfl ?_
          refine r_cV2r C (k_Hd_beginsWithin hm (i := i) (by omega) ha hb hB) (by decide) (by decide) ml_Mc_141 mn_Hd_beginsWithin ms_Hd_beginsWithin mc_Hd_beginsWithin mi_Hd_beginsWithin md_Hd_beginsWithin (kHd_lt hm (by omega)) (zHd hm (by omega)) rfl rfl (Nat.le_of_ble_eq_true rfl) d_Mc_licencesFit_47 ?_
          refine r_if_eq (tgt := 83) C d_Mc_licencesFit_50 (by decide) (by first | assumption | exact bd_ir (by assumption) rfl | exact b2i_ir _ | exact pb_ir _ | exact ir_mk (by omega) (by omega)) (fun c50 => ?_) (fun c50 => ?_)
          · refine r_iinc_5 C d_Mc_licencesFit_83 ?_
            refine r_goto (tgt := 24) C d_Mc_licencesFit_86 (by decide) ?_
            have h := ih (i + 1) (by omega) (by omega)
            first
              | (rw [show pb (lfP t n a b (i + 1)) = pb (lfP t n a b i) from pb_c ⟨fun q => (lfP_s.mp q).1, fun q => lfP_s.mpr ⟨q, fun q1 q2 => absurd c50 (by rw [b2i, if_pos ⟨q1, q2⟩]; omega)⟩⟩] at h; exact h)
              | (rw [show pb (lfP t n a b (i + 1)) = 0 from pb_f (fun q => absurd ((lfP_s.mp q).2 q2.1 q2.2) (by omega))] at h; exact h)
              | (rw [show pb (lfP t n a b (i + 1)) = 1 from pb_t (lfP_s.mpr ⟨Classical.byContradiction (fun q => c35 (pb_f q)), fun _ _ => by omega⟩)] at h; exact h)
          · have hnt := ltF_bd hB (t 33 i)
            have q2 : a < t 33 i ∧ t 33 i < b := by
              by_cases q3 : a < t 33 i ∧ t 33 i < b
              · exact q3
              · exact absurd (show b2i (a < t 33 i ∧ t 33 i < b) = 0 by rw [b2i, if_neg q3]) c50
            refine r_iload_n C d_Mc_licencesFit_53 rfl ?_
            refine r_aload_n C d_Mc_licencesFit_54 rfl ?_
            refine r_aload_n C d_Mc_licencesFit_55 rfl ?_
            refine g_Mc_holds C hm lk_Mc_31 d_Mc_licencesFit_56 ?_
            refine r_iload C d_Mc_licencesFit_59 rfl ?_
            refine x_Hd C hm _ rfl (by omega) d_Mc_licencesFit_61 ?_
            refine g_Hd_from C hm (by omega) lk_Mc_126 d_Mc_licencesFit_62 ?_
            refine r_cV1r C (k_Mc_licencesTaken hm (u := t 33 i) (bd_ir hB rfl) hB) (by decide) (by decide) ml_Mc_145 mn_Mc_licencesTaken ms_Mc_licencesTaken mc_Mc_licencesTaken mi_Mc_licencesTaken md_Mc_licencesTaken (kMc_lt hm) (zMc hm) rfl rfl (Nat.le_of_ble_eq_true rfl) d_Mc_licencesFit_65 ?_
            refine r_iadd C d_Mc_licencesFit_68 ?_
            refine r_aload_n C d_Mc_licencesFit_69 rfl ?_
            refine g_Mc_licencesInAll C hm lk_Mc_39 d_Mc_licencesFit_70 ?_
            refine r_icmp_gt (tgt := 80) C d_Mc_licencesFit_73 (by decide) (by first | assumption | exact bd_ir (by assumption) rfl | exact b2i_ir _ | exact pb_ir _ | exact ir_mk (by omega) (by omega)) (by first | assumption | exact bd_ir (by assumption) rfl | exact b2i_ir _ | exact pb_ir _ | exact ir_mk (by omega) (by omega)) (fun c73 => ?_) (fun c73 => ?_)
            · refine r_iconst C d_Mc_licencesFit_80 ?_
              refine r_istore_4 C d_Mc_licencesFit_81 ?_
              refine r_iinc_5 C d_Mc_licencesFit_83 ?_
              refine r_goto (tgt := 24) C d_Mc_licencesFit_86 (by decide) ?_
              have h := ih (i + 1) (by omega) (by omega)
              first
                | (rw [show pb (lfP t n a b (i + 1)) = pb (lfP t n a b i) from pb_c ⟨fun q => (lfP_s.mp q).1, fun q => lfP_s.mpr ⟨q, fun q1 q2 => absurd c50 (by rw [b2i, if_pos ⟨q1, q2⟩]; omega)⟩⟩] at h; exact h)
                | (rw [show pb (lfP t n a b (i + 1)) = 0 from pb_f (fun q => absurd ((lfP_s.mp q).2 q2.1 q2.2) (by omega))] at h; exact h)
                | (rw [show pb (lfP t n a b (i + 1)) = 1 from pb_t (lfP_s.mpr ⟨Classical.byContradiction (fun q => c35 (pb_f q)), fun _ _ => by omega⟩)] at h; exact h)
            · refine r_iconst C d_Mc_licencesFit_76 ?_
              refine r_goto (tgt := 81) C d_Mc_licencesFit_77 (by decide) ?_
              refine r_istore_4 C d_Mc_licencesFit_81 ?_
              refine r_iinc_5 C d_Mc_licencesFit_83 ?_
              refine r_goto (tgt := 24) C d_Mc_licencesFit_86 (by decide) ?_
              have h := ih (i + 1) (by omega) (by omega)
              first
                | (rw [show pb (lfP t n a b (i + 1)) = pb (lfP t n a b i) from pb_c ⟨fun q => (lfP_s.mp q).1, fun q => lfP_s.mpr ⟨q, fun q1 q2 => absurd c50 (by rw [b2i, if_pos ⟨q1, q2⟩]; omega)⟩⟩] at h; exact h)
                | (rw [show pb (lfP t n a b (i + 1)) = 0 from pb_f (fun q => absurd ((lfP_s.mp q).2 q2.1 q2.2) (by omega))] at h; exact h)
                | (rw [show pb (lfP t n a b (i + 1)) = 1 from pb_t (lfP_s.mpr ⟨Classical.byContradiction (fun q => c35 (pb_f q)), fun _ _ => by omega⟩)] at h; exact h)
  refine r_iload_n C d_Mc_licencesFit_0 rfl ?_
  refine r_aload_n C d_Mc_licencesFit_1 rfl ?_
  refine r_iload_n C d_Mc_licencesFit_2 rfl ?_
  refine r_cV1r C (k_Mc_licencesTaken hm ha hB) (by decide) (by decide) ml_Mc_145 mn_Mc_licencesTaken ms_Mc_licencesTaken mc_Mc_licencesTaken mi_Mc_licencesTaken md_Mc_licencesTaken (kMc_lt hm) (zMc hm) rfl rfl (Nat.le_of_ble_eq_true rfl) d_Mc_licencesFit_3 ?_
  refine r_iadd C d_Mc_licencesFit_6 ?_
  refine r_aload_n C d_Mc_licencesFit_7 rfl ?_
  refine g_Mc_licencesInAll C hm lk_Mc_39 d_Mc_licencesFit_8 ?_
  refine r_icmp_gt (tgt := 18) C d_Mc_licencesFit_11 (by decide) (by first | assumption | exact bd_ir (by assumption) rfl | exact b2i_ir _ | exact pb_ir _ | exact ir_mk (by omega) (by omega)) (by first | assumption | exact bd_ir (by assumption) rfl | exact b2i_ir _ | exact pb_ir _ | exact ir_mk (by omega) (by omega)) (fun c11 => ?_) (fun c11 => ?_)
  · refine r_iconst C d_Mc_licencesFit_18 ?_
    refine r_istore_4 C d_Mc_licencesFit_19 ?_
    refine r_iconst C d_Mc_licencesFit_21 ?_
    refine r_istore_5 C d_Mc_licencesFit_22 ?_
    have h := hl ((t 3 0).toNat + 1) 0 (by omega) (by omega)
    first
      | (rw [show pb (lfP t n a b 0) = 1 from pb_t ⟨by omega, fun k hk => by omega⟩] at h; exact h)
      | (rw [show pb (lfP t n a b 0) = 0 from pb_f (fun q => absurd q.1 (by omega))] at h; exact h)
  · refine r_iconst C d_Mc_licencesFit_14 ?_
    refine r_goto (tgt := 19) C d_Mc_licencesFit_15 (by decide) ?_
    refine r_istore_4 C d_Mc_licencesFit_19 ?_
    refine r_iconst C d_Mc_licencesFit_21 ?_
    refine r_istore_5 C d_Mc_licencesFit_22 ?_
    have h := hl ((t 3 0).toNat + 1) 0 (by omega) (by omega)
    first
      | (rw [show pb (lfP t n a b 0) = 1 from pb_t ⟨by omega, fun k hk => by omega⟩] at h; exact h)
      | (rw [show pb (lfP t n a b 0) = 0 from pb_f (fun q => absurd q.1 (by omega))] at h; exact h)
def ftP (t : TT) (j : Nat) (s : Int) : Prop := nfP t (t 18 j) s (s + (t 20 j - t 27 j)) (t 3 0).toNat ∧ lfP t (t 19 j) s (s + (t 20 j - t 27 j)) (t 3 0).toNat
theorem k_Mc_fits {l : Launch} {E : Ew} {S0 : WW} {m : Nat} {t : TT} (hm : m < 2) {j : Nat} (hj : j < 30) {s : Int} (hs : 0 ≤ s ∧ s ≤ 10000) (hB : Bd t) : Kf l y_Mc_fits b_Mc_fits 4 (some .boolean) 2 E (sm S0 m t) [rf E (kMc m), rf E (kJb m j), iv s] (some (iv (pb (ftP t j s)))) (sm S0 m t) := by
  refine KfZ rfl rfl (Nat.le_of_ble_eq_true rfl) (fun g C R => ?_)
  show g (sm S0 m t) 0 [some (rf E (kMc m)), some (rf E (kJb m j)), some (iv s), none] []
  have b18 := bd18 hB j
  have b19 := bd19 hB j
  have b20 := bd20 hB j
  have b27 := bd27 hB j
  refine r_iload_n C d_Mc_fits_0 rfl ?_
  refine r_aload_n C d_Mc_fits_1 rfl ?_
  refine r_cV0r C (k_Jb_left hm hj hB) (by decide) (by decide) ml_Mc_148 mn_Jb_left ms_Jb_left mc_Jb_left mi_Jb_left md_Jb_left (kJb_lt hm (by omega)) (zJb hm (by omega)) rfl rfl (Nat.le_of_ble_eq_true rfl) d_Mc_fits_2 ?_
  refine r_iadd C d_Mc_fits_5 ?_
  refine r_istore_3 C d_Mc_fits_6 ?_
  refine r_aload_n C d_Mc_fits_7 rfl ?_
  refine r_aload_n C d_Mc_fits_8 rfl ?_
  refine g_Jb_nodes C hm (by omega) lk_Mc_152 d_Mc_fits_9 ?_
  refine r_iload_n C d_Mc_fits_12 rfl ?_
  refine r_iload_n C d_Mc_fits_13 rfl ?_
  refine r_cV3r C (k_Mc_nodesFit hm (by omega) (ir_mk (by omega) (by omega)) (ir_mk (by omega) (by omega)) hB) (by decide) (by decide) ml_Mc_153 mn_Mc_nodesFit ms_Mc_nodesFit mc_Mc_nodesFit mi_Mc_nodesFit md_Mc_nodesFit (kMc_lt hm) (zMc hm) rfl rfl (Nat.le_of_ble_eq_true rfl) d_Mc_fits_14 ?_
  refine r_if_eq (tgt := 37) C d_Mc_fits_17 (by decide) (by first | assumption | exact bd_ir (by assumption) rfl | exact b2i_ir _ | exact pb_ir _ | exact ir_mk (by omega) (by omega)) (fun c17 => ?_) (fun c17 => ?_)
  · refine r_iconst C d_Mc_fits_37 ?_
    exact R d_Mc_fits_38 (by omega) (by first | exact (pb_f (fun q => pb_0.mp c17 q.1)).symm | exact (pb_f (fun q => pb_0.mp c30 q.2)).symm | exact (pb_t ⟨Classical.byContradiction (fun q => c17 (pb_f q)), Classical.byContradiction (fun q => c30 (pb_f q))⟩).symm) rfl
  · refine r_aload_n C d_Mc_fits_20 rfl ?_
    refine r_aload_n C d_Mc_fits_21 rfl ?_
    refine g_Jb_licences C hm (by omega) lk_Mc_133 d_Mc_fits_22 ?_
    refine r_iload_n C d_Mc_fits_25 rfl ?_
    refine r_iload_n C d_Mc_fits_26 rfl ?_
    refine r_cV3r C (k_Mc_licencesFit hm (by omega) (ir_mk (by omega) (by omega)) (ir_mk (by omega) (by omega)) hB) (by decide) (by decide) ml_Mc_157 mn_Mc_licencesFit ms_Mc_licencesFit mc_Mc_licencesFit mi_Mc_licencesFit md_Mc_licencesFit (kMc_lt hm) (zMc hm) rfl rfl (Nat.le_of_ble_eq_true rfl) d_Mc_fits_27 ?_
    refine r_if_eq (tgt := 37) C d_Mc_fits_30 (by decide) (by first | assumption | exact bd_ir (by assumption) rfl | exact b2i_ir _ | exact pb_ir _ | exact ir_mk (by omega) (by omega)) (fun c30 => ?_) (fun c30 => ?_)
    · refine r_iconst C d_Mc_fits_37 ?_
      exact R d_Mc_fits_38 (by omega) (by first | exact (pb_f (fun q => pb_0.mp c17 q.1)).symm | exact (pb_f (fun q => pb_0.mp c30 q.2)).symm | exact (pb_t ⟨Classical.byContradiction (fun q => c17 (pb_f q)), Classical.byContradiction (fun q => c30 (pb_f q))⟩).symm) rfl
    · refine r_iconst C d_Mc_fits_33 ?_
      refine r_goto (tgt := 38) C d_Mc_fits_34 (by decide) ?_
      exact R d_Mc_fits_38 (by omega) (by first | exact (pb_f (fun q => pb_0.mp c17 q.1)).symm | exact (pb_f (fun q => pb_0.mp c30 q.2)).symm | exact (pb_t ⟨Classical.byContradiction (fun q => c17 (pb_f q)), Classical.byContradiction (fun q => c30 (pb_f q))⟩).symm) rfl
def mbP (t : TT) (j : Nat) : Prop := t 24 j = 0 ∧ (¬ (0 ≤ t 23 j ∧ t 23 j < t 2 0) ∨ t 24 (t 23 j).toNat = 2)
theorem k_Mc_mayBegin {l : Launch} {E : Ew} {S0 : WW} {m : Nat} {t : TT} (hm : m < 2) {j : Nat} (hj : j < 30) (hB : Bd t) : Kf l y_Mc_mayBegin b_Mc_mayBegin 2 (some .boolean) 1 E (sm S0 m t) [rf E (kMc m), rf E (kJb m j)] (some (iv (pb (mbP t j)))) (sm S0 m t) := by
  refine KfZ rfl rfl (Nat.le_of_ble_eq_true rfl) (fun g C R => ?_)
  show g (sm S0 m t) 0 [some (rf E (kMc m)), some (rf E (kJb m j))] []
  have b2 := bd2 hB 0
  refine r_aload_n C d_Mc_mayBegin_0 rfl ?_
  refine g_Jb_state C hm (by omega) lk_Mc_99 d_Mc_mayBegin_1 ?_
  refine r_if_eq (tgt := 9) C d_Mc_mayBegin_4 (by decide) (by first | assumption | exact bd_ir (by assumption) rfl | exact b2i_ir _ | exact pb_ir _ | exact ir_mk (by omega) (by omega)) (fun c4 => ?_) (fun c4 => ?_)
  · refine r_aload_n C d_Mc_mayBegin_9 rfl ?_
    refine r_aload_n C d_Mc_mayBegin_10 rfl ?_
    refine g_Jb_ahead C hm (by omega) lk_Mc_183 d_Mc_mayBegin_11 ?_
    refine r_cV1r C (k_Mc_hasJob hm (bd_ir hB rfl) hB) (by decide) (by decide) ml_Mc_186 mn_Mc_hasJob ms_Mc_hasJob mc_Mc_hasJob mi_Mc_hasJob md_Mc_hasJob (kMc_lt hm) (zMc hm) rfl rfl (Nat.le_of_ble_eq_true rfl) d_Mc_mayBegin_14 ?_
    refine r_if_eq (tgt := 36) C d_Mc_mayBegin_17 (by decide) (by first | assumption | exact bd_ir (by assumption) rfl | exact b2i_ir _ | exact pb_ir _ | exact ir_mk (by omega) (by omega)) (fun c17 => ?_) (fun c17 => ?_)
    · refine r_iconst C d_Mc_mayBegin_36 ?_
      refine r_goto (tgt := 41) C d_Mc_mayBegin_37 (by decide) ?_
      exact R d_Mc_mayBegin_41 (by omega) (by first | exact (pb_f (fun q => by have := q.1; omega)).symm | exact (pb_t ⟨by omega, Or.inl (fun q => absurd c17 (by rw [b2i, if_pos q]; omega))⟩).symm | exact (pb_t ⟨by omega, Or.inr (by omega)⟩).symm | exact (pb_f (fun q => by rcases q.2 with q2 | q2; exact q2 hq; omega)).symm) rfl
    · have hq : 0 ≤ t 23 j ∧ t 23 j < t 2 0 := by
        by_cases q : 0 ≤ t 23 j ∧ t 23 j < t 2 0
        · exact q
        · exact absurd (show b2i _ = 0 by rw [b2i, if_neg q]) c17
      refine r_aload_n C d_Mc_mayBegin_20 rfl ?_
      refine g_Mc_jobs C hm lk_Mc_25 d_Mc_mayBegin_21 ?_
      refine r_aload_n C d_Mc_mayBegin_24 rfl ?_
      refine g_Jb_ahead C hm (by omega) lk_Mc_183 d_Mc_mayBegin_25 ?_
      refine x_Jb C hm (t 23 j).toNat (by omega) (by omega) d_Mc_mayBegin_28 ?_
      refine g_Jb_state C hm (by omega) lk_Mc_99 d_Mc_mayBegin_29 ?_
      refine r_iconst C d_Mc_mayBegin_32 ?_
      refine r_icmp_ne (tgt := 40) C d_Mc_mayBegin_33 (by decide) (by first | assumption | exact bd_ir (by assumption) rfl | exact b2i_ir _ | exact pb_ir _ | exact ir_mk (by omega) (by omega)) (by first | assumption | exact bd_ir (by assumption) rfl | exact b2i_ir _ | exact pb_ir _ | exact ir_mk (by omega) (by omega)) (fun c33 => ?_) (fun c33 => ?_)
      · refine r_iconst C d_Mc_mayBegin_40 ?_
        exact R d_Mc_mayBegin_41 (by omega) (by first | exact (pb_f (fun q => by have := q.1; omega)).symm | exact (pb_t ⟨by omega, Or.inl (fun q => absurd c17 (by rw [b2i, if_pos q]; omega))⟩).symm | exact (pb_t ⟨by omega, Or.inr (by omega)⟩).symm | exact (pb_f (fun q => by rcases q.2 with q2 | q2; exact q2 hq; omega)).symm) rfl
      · refine r_iconst C d_Mc_mayBegin_36 ?_
        refine r_goto (tgt := 41) C d_Mc_mayBegin_37 (by decide) ?_
        exact R d_Mc_mayBegin_41 (by omega) (by first | exact (pb_f (fun q => by have := q.1; omega)).symm | exact (pb_t ⟨by omega, Or.inl (fun q => absurd c17 (by rw [b2i, if_pos q]; omega))⟩).symm | exact (pb_t ⟨by omega, Or.inr (by omega)⟩).symm | exact (pb_f (fun q => by rcases q.2 with q2 | q2; exact q2 hq; omega)).symm) rfl
  · refine r_iconst C d_Mc_mayBegin_7 ?_
    exact R d_Mc_mayBegin_8 (by omega) (by first | exact (pb_f (fun q => by have := q.1; omega)).symm | exact (pb_t ⟨by omega, Or.inl (fun q => absurd c17 (by rw [b2i, if_pos q]; omega))⟩).symm | exact (pb_t ⟨by omega, Or.inr (by omega)⟩).symm | exact (pb_f (fun q => by rcases q.2 with q2 | q2; exact q2 hq; omega)).symm) rfl
def hv1 (t : TT) (n : Nat) : TT := fun f a => if f = 16 ∧ a < n then (wr (t 16 a)).tdiv 2 else t f a
def hvF (t : TT) : TT := hv1 t (t 1 0).toNat
theorem hv1_0 (t : TT) : hv1 t 0 = t := by
  funext f a
  simp [hv1]
theorem hv1_s (t : TT) (n : Nat) : tu (hv1 t n) 16 n ((wr (t 16 n)).tdiv 2) = hv1 t (n + 1) := by
  funext f a
  simp only [tu, hv1]
  grind
theorem hv1_ne {t : TT} {n f a : Nat} (h : f ≠ 16 ∨ n ≤ a) : hv1 t n f a = t f a := by unfold hv1; rw [if_neg (by omega)]
theorem k_Mc_halveUse {l : Launch} {E : Ew} {S0 : WW} {m : Nat} {t : TT} (hm : m < 2) (hB : Bd t) : Kf l y_Mc_halveUse b_Mc_halveUse 2 none 0 E (sm S0 m t) [rf E (kMc m)] none (sm S0 m (hvF t)) := by
  refine KfV rfl rfl (Nat.le_of_ble_eq_true rfl) (fun g C R => ?_)
  show g (sm S0 m t) 0 [some (rf E (kMc m)), none] []
  have b1 := bd1 hB 0
  have hl : ∀ (k i : Nat), i ≤ (t 1 0).toNat → (t 1 0).toNat - i < k → g (sm S0 m (hv1 t i)) 2 [some (rf E (kMc m)), some (iv (i : Int))] [] := by
    intro k
    induction k with
    | zero => intro i h1 h2; omega
    | succ k ih =>
      intro i h1 h2
      refine r_iload_n C d_Mc_halveUse_2 rfl ?_
      refine r_aload_n C d_Mc_halveUse_3 rfl ?_
      refine g_Mc_accountCount C hm lk_Mc_59 d_Mc_halveUse_4 ?_
      rw [hv1_ne (by omega)]
      refine r_icmp_ge (tgt := 31) C d_Mc_halveUse_7 (by decide) (by first | assumption | exact bd_ir (by assumption) rfl | exact b2i_ir _ | exact pb_ir _ | exact ir_mk (by omega) (by omega)) (by first | assumption | exact bd_ir (by assumption) rfl | exact b2i_ir _ | exact pb_ir _ | exact ir_mk (by omega) (by omega)) (fun c7 => ?_) (fun c7 => ?_)
      · exact R d_Mc_halveUse_31 (by rw [show i = (t 1 0).toNat by omega]; rfl)
      · refine r_aload_n C d_Mc_halveUse_10 rfl ?_
        refine g_Mc_accounts C hm lk_Mc_19 d_Mc_halveUse_11 ?_
        refine r_iload_n C d_Mc_halveUse_14 rfl ?_
        refine x_Ac C hm _ rfl (by omega) d_Mc_halveUse_15 ?_
        refine r_dup C d_Mc_halveUse_16 rfl ?_
        refine g_Ac_use C hm (by omega) lk_Mc_242 d_Mc_halveUse_17 ?_
        rw [hv1_ne (by omega)]
        refine r_iconst C d_Mc_halveUse_20 ?_
        refine r_idiv2 C d_Mc_halveUse_21  ?_
        refine p_Ac_use C hm (by omega) lk_Mc_242 d_Mc_halveUse_22 ?_
        rw [hv1_s]
        refine r_iinc_1 C d_Mc_halveUse_25 ?_
        refine r_goto (tgt := 2) C d_Mc_halveUse_28 (by decide) ?_
        exact ih (i + 1) (by omega) (by omega)
  refine r_iconst C d_Mc_halveUse_0 ?_
  refine r_istore_1 C d_Mc_halveUse_1 ?_
  have h := hl ((t 1 0).toNat + 1) 0 (by omega) (by omega)
  rw [hv1_0] at h
  exact h
def neJ (t : TT) (a : Int) : Nat → Int
  | 0 => -1
  | i + 1 => nearF (neJ t a i) (t 29 i) a
def neH (t : TT) (a : Int) : Nat → Int
  | 0 => neJ t a (t 2 0).toNat
  | i + 1 => nearF (neH t a i) (t 34 i) a
def neF (t : TT) (a : Int) : Int := neH t a (t 3 0).toNat
theorem neJ_bd {t : TT} (hB : Bd t) (a : Int) : ∀ i, -1 ≤ neJ t a i ∧ neJ t a i ≤ 3100 := by
  intro i
  induction i with
  | zero => unfold neJ; omega
  | succ i ih => have := bd29 hB i; unfold neJ nearF; (repeat' split) <;> omega
theorem neH_bd {t : TT} (hB : Bd t) (a : Int) : ∀ i, -1 ≤ neH t a i ∧ neH t a i ≤ 3100 := by
  intro i
  induction i with
  | zero => unfold neH; exact neJ_bd hB a _
  | succ i ih => have := bd34 hB i; unfold neH nearF; (repeat' split) <;> omega
theorem k_Mc_nextEnd {l : Launch} {E : Ew} {S0 : WW} {m : Nat} {t : TT} (hm : m < 2) {a : Int} (ha : ir a) (hB : Bd t) : Kf l y_Mc_nextEnd b_Mc_nextEnd 4 (some .int) 2 E (sm S0 m t) [rf E (kMc m), iv a] (some (iv (neF t a))) (sm S0 m t) := by
  refine KfI rfl rfl (Nat.le_of_ble_eq_true rfl) (fun g C R => ?_)
  show g (sm S0 m t) 0 [some (rf E (kMc m)), some (iv a), none, none] []
  have b2 := bd2 hB 0
  have b3 := bd3 hB 0
  have hl2 : ∀ (k i : Nat), i ≤ (t 3 0).toNat → (t 3 0).toNat - i < k → g (sm S0 m t) 35 [some (rf E (kMc m)), some (iv a), some (iv (neH t a i)), some (iv (i : Int))] [] := by
    intro k
    induction k with
    | zero => intro i h1 h2; omega
    | succ k ih =>
      intro i h1 h2
      refine r_iload_n C d_Mc_nextEnd_35 rfl ?_
      refine r_aload_n C d_Mc_nextEnd_36 rfl ?_
      refine g_Mc_holdCount C hm lk_Mc_65 d_Mc_nextEnd_37 ?_
      refine r_icmp_ge (tgt := 64) C d_Mc_nextEnd_40 (by decide) (by first | assumption | exact bd_ir (by assumption) rfl | exact b2i_ir _ | exact pb_ir _ | exact ir_mk (by omega) (by omega)) (by first | assumption | exact bd_ir (by assumption) rfl | exact b2i_ir _ | exact pb_ir _ | exact ir_mk (by omega) (by omega)) (fun c40 => ?_) (fun c40 => ?_)
      · refine r_iload_n C d_Mc_nextEnd_64 rfl ?_
        exact R d_Mc_nextEnd_65 (by rw [show i = (t 3 0).toNat by omega]; rfl) rfl
      · have hne := neH_bd hB a i
        refine r_iload_n C d_Mc_nextEnd_43 rfl ?_
        refine r_aload_n C d_Mc_nextEnd_44 rfl ?_
        refine g_Mc_holds C hm lk_Mc_31 d_Mc_nextEnd_45 ?_
        refine r_iload_n C d_Mc_nextEnd_48 rfl ?_
        refine x_Hd C hm _ rfl (by omega) d_Mc_nextEnd_49 ?_
        refine g_Hd_to C hm (by omega) lk_Mc_129 d_Mc_nextEnd_50 ?_
        refine r_iload_n C d_Mc_nextEnd_53 rfl ?_
        refine r_cS3r C (k_Mc_nearer (ir_mk (by omega) (by omega)) (bd_ir hB rfl) ha) (by decide) (by decide) ml_Mc_214 mt_Mc_nearer mc_Mc_nearer mi_Mc_nearer md_Mc_nearer (Nat.le_of_ble_eq_true rfl) d_Mc_nextEnd_54 ?_
        refine r_istore_2 C d_Mc_nextEnd_57 ?_
        refine r_iinc_3 C d_Mc_nextEnd_58 ?_
        refine r_goto (tgt := 35) C d_Mc_nextEnd_61 (by decide) ?_
        exact ih (i + 1) (by omega) (by omega)
  have hl1 : ∀ (k i : Nat), i ≤ (t 2 0).toNat → (t 2 0).toNat - i < k → g (sm S0 m t) 4 [some (rf E (kMc m)), some (iv a), some (iv (neJ t a i)), some (iv (i : Int))] [] := by
    intro k
    induction k with
    | zero => intro i h1 h2; omega
    | succ k ih =>
      intro i h1 h2
      refine r_iload_n C d_Mc_nextEnd_4 rfl ?_
      refine r_aload_n C d_Mc_nextEnd_5 rfl ?_
      refine g_Mc_jobCount C hm lk_Mc_62 d_Mc_nextEnd_6 ?_
      refine r_icmp_ge (tgt := 33) C d_Mc_nextEnd_9 (by decide) (by first | assumption | exact bd_ir (by assumption) rfl | exact b2i_ir _ | exact pb_ir _ | exact ir_mk (by omega) (by omega)) (by first | assumption | exact bd_ir (by assumption) rfl | exact b2i_ir _ | exact pb_ir _ | exact ir_mk (by omega) (by omega)) (fun c9 => ?_) (fun c9 => ?_)
      · refine r_iconst C d_Mc_nextEnd_33 ?_
        refine r_istore_3 C d_Mc_nextEnd_34 ?_
        rw [show i = (t 2 0).toNat by omega]
        exact hl2 ((t 3 0).toNat + 1) 0 (by omega) (by omega)
      · have hne := neJ_bd hB a i
        refine r_iload_n C d_Mc_nextEnd_12 rfl ?_
        refine r_aload_n C d_Mc_nextEnd_13 rfl ?_
        refine g_Mc_jobs C hm lk_Mc_25 d_Mc_nextEnd_14 ?_
        refine r_iload_n C d_Mc_nextEnd_17 rfl ?_
        refine x_Jb C hm _ rfl (by omega) d_Mc_nextEnd_18 ?_
        refine g_Jb_takesUntil C hm (by omega) lk_Mc_123 d_Mc_nextEnd_19 ?_
        refine r_iload_n C d_Mc_nextEnd_22 rfl ?_
        refine r_cS3r C (k_Mc_nearer (ir_mk (by omega) (by omega)) (bd_ir hB rfl) ha) (by decide) (by decide) ml_Mc_214 mt_Mc_nearer mc_Mc_nearer mi_Mc_nearer md_Mc_nearer (Nat.le_of_ble_eq_true rfl) d_Mc_nextEnd_23 ?_
        refine r_istore_2 C d_Mc_nextEnd_26 ?_
        refine r_iinc_3 C d_Mc_nextEnd_27 ?_
        refine r_goto (tgt := 4) C d_Mc_nextEnd_30 (by decide) ?_
        exact ih (i + 1) (by omega) (by omega)
  refine r_iconst C d_Mc_nextEnd_0 ?_
  refine r_istore_2 C d_Mc_nextEnd_1 ?_
  refine r_iconst C d_Mc_nextEnd_2 ?_
  refine r_istore_3 C d_Mc_nextEnd_3 ?_
  exact hl1 ((t 2 0).toNat + 1) 0 (by omega) (by omega)
noncomputable def ffL (t : TT) (j : Nat) : Nat → Int → Int
  | 0, _ => -1
  | k + 1, x => pif (x = -1 ∨ t 4 0 + 200 < x) (-1) (pif (ftP t j x) x (ffL t j k (neF t x)))
noncomputable def ffF (t : TT) (j : Nat) : Int := ffL t j 38 (neF t (t 4 0))
theorem neF_bd {t : TT} (hB : Bd t) (a : Int) : -1 ≤ neF t a ∧ neF t a ≤ 3100 := neH_bd hB a _
theorem neF_gt {t : TT} {a : Int} (hB : Bd t) : neF t a = -1 ∨ a < neF t a := by
  have h1 : ∀ i, neJ t a i = -1 ∨ a < neJ t a i := by
    intro i
    induction i with
    | zero => left; rfl
    | succ i ih => unfold neJ nearF; (repeat' split) <;> omega
  have h2 : ∀ i, neH t a i = -1 ∨ a < neH t a i := by
    intro i
    induction i with
    | zero => exact h1 _
    | succ i ih => unfold neH nearF; (repeat' split) <;> omega
  exact h2 _
theorem k_Mc_firstFit {l : Launch} {E : Ew} {S0 : WW} {m : Nat} {t : TT} (hm : m < 2) {j : Nat} (hj : j < 30) (hB : Bd t) : Kf l y_Mc_firstFit b_Mc_firstFit 4 (some .int) 3 E (sm S0 m t) [rf E (kMc m), rf E (kJb m j)] (some (iv (ffF t j))) (sm S0 m t) := by
  refine KfI rfl rfl (Nat.le_of_ble_eq_true rfl) (fun g C R => ?_)
  show g (sm S0 m t) 0 [some (rf E (kMc m)), some (rf E (kJb m j)), none, none] []
  have b4 := bd4 hB 0
  have hl : ∀ (k i : Nat) (x : Int), i + k = 38 → (-1 ≤ x ∧ x ≤ 3100) → (x = -1 ∨ t 4 0 < x) → ffL t j k x = ffF t j → g (sm S0 m t) 11 [some (rf E (kMc m)), some (rf E (kJb m j)), some (iv x), some (iv (i : Int))] [] := by
    intro k
    induction k with
    | zero =>
      intro i x h1 h2 h4 h3
      refine r_iload_n C d_Mc_firstFit_11 rfl ?_
      refine r_bipush C d_Mc_firstFit_12 (by decide) ?_
      refine r_icmp_ge (tgt := 59) C d_Mc_firstFit_14 (by decide) (by first | assumption | exact bd_ir (by assumption) rfl | exact b2i_ir _ | exact pb_ir _ | exact ir_mk (by omega) (by omega)) (by first | assumption | exact bd_ir (by assumption) rfl | exact b2i_ir _ | exact pb_ir _ | exact ir_mk (by omega) (by omega)) (fun c14 => ?_) (fun c14 => ?_)
      · refine r_iconst C d_Mc_firstFit_59 ?_
        exact R d_Mc_firstFit_60 h3 rfl
      · exact absurd c14 (by omega)
    | succ k ih =>
      intro i x h1 h2 h4 h3
      rw [ffL] at h3
      refine r_iload_n C d_Mc_firstFit_11 rfl ?_
      refine r_bipush C d_Mc_firstFit_12 (by decide) ?_
      refine r_icmp_ge (tgt := 59) C d_Mc_firstFit_14 (by decide) (by first | assumption | exact bd_ir (by assumption) rfl | exact b2i_ir _ | exact pb_ir _ | exact ir_mk (by omega) (by omega)) (by first | assumption | exact bd_ir (by assumption) rfl | exact b2i_ir _ | exact pb_ir _ | exact ir_mk (by omega) (by omega)) (fun c14 => ?_) (fun c14 => ?_)
      · exact absurd c14 (by omega)
      · refine r_iload_n C d_Mc_firstFit_17 rfl ?_
        refine r_iconst C d_Mc_firstFit_18 ?_
        refine r_icmp_eq (tgt := 34) C d_Mc_firstFit_19 (by decide) (by first | assumption | exact bd_ir (by assumption) rfl | exact b2i_ir _ | exact pb_ir _ | exact ir_mk (by omega) (by omega)) (by first | assumption | exact bd_ir (by assumption) rfl | exact b2i_ir _ | exact pb_ir _ | exact ir_mk (by omega) (by omega)) (fun c19 => ?_) (fun c19 => ?_)
        · refine r_iconst C d_Mc_firstFit_34 ?_
          exact R d_Mc_firstFit_35 (by first | (rw [pif_t (by omega)] at h3; exact h3) | (rw [pif_f (by omega), pif_t (Classical.byContradiction (fun q => c42 (pb_f q)))] at h3; exact h3)) rfl
        · refine r_iload_n C d_Mc_firstFit_22 rfl ?_
          refine r_aload_n C d_Mc_firstFit_23 rfl ?_
          refine g_Mc_now C hm lk_Mc_68 d_Mc_firstFit_24 ?_
          refine r_sipush C d_Mc_firstFit_27 (by decide) ?_
          refine r_iadd C d_Mc_firstFit_30 ?_
          refine r_icmp_le (tgt := 36) C d_Mc_firstFit_31 (by decide) (by first | assumption | exact bd_ir (by assumption) rfl | exact b2i_ir _ | exact pb_ir _ | exact ir_mk (by omega) (by omega)) (by first | assumption | exact bd_ir (by assumption) rfl | exact b2i_ir _ | exact pb_ir _ | exact ir_mk (by omega) (by omega)) (fun c31 => ?_) (fun c31 => ?_)
          · refine r_aload_n C d_Mc_firstFit_36 rfl ?_
            refine r_aload_n C d_Mc_firstFit_37 rfl ?_
            refine r_iload_n C d_Mc_firstFit_38 rfl ?_
            refine r_cV2r C (k_Mc_fits hm hj (by omega) hB) (by decide) (by decide) ml_Mc_197 mn_Mc_fits ms_Mc_fits mc_Mc_fits mi_Mc_fits md_Mc_fits (kMc_lt hm) (zMc hm) rfl rfl (Nat.le_of_ble_eq_true rfl) d_Mc_firstFit_39 ?_
            refine r_if_eq (tgt := 47) C d_Mc_firstFit_42 (by decide) (by first | assumption | exact bd_ir (by assumption) rfl | exact b2i_ir _ | exact pb_ir _ | exact ir_mk (by omega) (by omega)) (fun c42 => ?_) (fun c42 => ?_)
            · refine r_aload_n C d_Mc_firstFit_47 rfl ?_
              refine r_iload_n C d_Mc_firstFit_48 rfl ?_
              refine r_cV1r C (k_Mc_nextEnd hm (ir_mk (by omega) (by omega)) hB) (by decide) (by decide) ml_Mc_211 mn_Mc_nextEnd ms_Mc_nextEnd mc_Mc_nextEnd mi_Mc_nextEnd md_Mc_nextEnd (kMc_lt hm) (zMc hm) rfl rfl (Nat.le_of_ble_eq_true rfl) d_Mc_firstFit_49 ?_
              refine r_istore_2 C d_Mc_firstFit_52 ?_
              refine r_iinc_3 C d_Mc_firstFit_53 ?_
              refine r_goto (tgt := 11) C d_Mc_firstFit_56 (by decide) ?_
              refine ih (i + 1) (neF t x) (by omega) (neF_bd hB x) (by have := neF_gt (a := x) hB; omega) ?_
              rw [pif_f (by omega), pif_f (pb_0.mp c42)] at h3
              exact h3
            · refine r_iload_n C d_Mc_firstFit_45 rfl ?_
              exact R d_Mc_firstFit_46 (by first | (rw [pif_t (by omega)] at h3; exact h3) | (rw [pif_f (by omega), pif_t (Classical.byContradiction (fun q => c42 (pb_f q)))] at h3; exact h3)) rfl
          · refine r_iconst C d_Mc_firstFit_34 ?_
            exact R d_Mc_firstFit_35 (by first | (rw [pif_t (by omega)] at h3; exact h3) | (rw [pif_f (by omega), pif_t (Classical.byContradiction (fun q => c42 (pb_f q)))] at h3; exact h3)) rfl
  refine r_aload_n C d_Mc_firstFit_0 rfl ?_
  refine r_aload_n C d_Mc_firstFit_1 rfl ?_
  refine g_Mc_now C hm lk_Mc_68 d_Mc_firstFit_2 ?_
  refine r_cV1r C (k_Mc_nextEnd hm (bd_ir hB rfl) hB) (by decide) (by decide) ml_Mc_211 mn_Mc_nextEnd ms_Mc_nextEnd mc_Mc_nextEnd mi_Mc_nextEnd md_Mc_nextEnd (kMc_lt hm) (zMc hm) rfl rfl (Nat.le_of_ble_eq_true rfl) d_Mc_firstFit_5 ?_
  refine r_istore_2 C d_Mc_firstFit_8 ?_
  refine r_iconst C d_Mc_firstFit_9 ?_
  refine r_istore_3 C d_Mc_firstFit_10 ?_
  exact hl 38 0 _ rfl (neF_bd hB _) (neF_gt hB) rfl
end
section
def andI (a b : Int) : Int := (Int32.ofInt a &&& Int32.ofInt b).toInt
def ushI (a b : Int) : Int := ((Int32.ofInt a).toUInt32 >>> ((Int32.ofInt b).toUInt32 &&& Int32.toUInt32 31)).toInt32.toInt
def lw (e : Int) : Value := .long (Int64.ofInt e)
section MORE2
variable {g : WW → Nat → LL → List Value → Prop} {own : String} {cc : ByteArray} {nL h : Nat} {l : Launch} {E : Ew} {S : WW} {pc : Nat} {L : LL} {st : List Value}
theorem r_iandG (C : Cw g own cc nL h l E) {a b : Int} (d : decode cc pc = .ok (.iand, 1)) (kk : g S (pc + 1) L (iv (andI a b) :: st)) : g S pc L (iv b :: iv a :: st) := by
  obtain ⟨p, e0, R, s, mi, args, below, meth, c, cells, slots, Q, A, H0, D, ⟨hx, hb, hml, hown, hts⟩, hE, hA, hK, hR, hg⟩ := C
  refine (hg _ _ _ _).mpr fun H locs ls hP hS hL => ?_
  refine lv_iand hx hb d ?_
  rw [iv_of]
  exact (hg _ _ _ _).mp kk H locs ls hP hS hL
theorem r_iushrG (C : Cw g own cc nL h l E) {a b : Int} (d : decode cc pc = .ok (.iushr, 1)) (kk : g S (pc + 1) L (iv (ushI a b) :: st)) : g S pc L (iv b :: iv a :: st) := by
  obtain ⟨p, e0, R, s, mi, args, below, meth, c, cells, slots, Q, A, H0, D, ⟨hx, hb, hml, hown, hts⟩, hE, hA, hK, hR, hg⟩ := C
  refine (hg _ _ _ _).mpr fun H locs ls hP hS hL => ?_
  refine lv_iushr hx hb d rfl ?_
  rw [iv_of]
  exact (hg _ _ _ _).mp kk H locs ls hP hS hL
theorem r_ldcw (C : Cw g own cc nL h l E) {idx : Nat} {v : Int32} {n : Int} (hk : Cond.constant own idx v ∈ lw_w) (hn : Int32.ofInt n = v) (d : decode cc pc = .ok (.ldc_w idx, 3)) (kk : g S (pc + 3) L (iv n :: st)) : g S pc L st := by
  obtain ⟨p, e0, R, s, mi, args, below, meth, c, cells, slots, Q, A, H0, D, ⟨hx, hb, hml, hown, hts⟩, hE, hA, hK, hR, hg⟩ := C
  refine (hg _ _ _ _).mpr fun H locs ls hP hS hL => ?_
  refine lv_ldcw hx hb hown (hts _ hk) d ?_
  rw [← hn]
  exact (hg _ _ _ _).mp kk H locs ls hP hS hL
theorem lw_wr (e : Int) : (Int32.ofInt e).toInt64 = Int64.ofInt (wr e) := by
  rw [← Int64.toInt_inj, Int32.toInt_toInt64, Int64.toInt_ofInt_of_le]
  · rfl
  · have := (ir_of (Int32.ofInt e)).1; unfold wr; omega
  · have := (ir_of (Int32.ofInt e)).2; unfold wr; omega
theorem r_i2l (C : Cw g own cc nL h l E) {a : Int} (d : decode cc pc = .ok (.i2l, 1)) (kk : g S (pc + 1) L (lw (wr a) :: st)) : g S pc L (iv a :: st) := by
  obtain ⟨p, e0, R, s, mi, args, below, meth, c, cells, slots, Q, A, H0, D, ⟨hx, hb, hml, hown, hts⟩, hE, hA, hK, hR, hg⟩ := C
  refine (hg _ _ _ _).mpr fun H locs ls hP hS hL => ?_
  exact lv_i2l hx hb d (lw_wr a) ((hg _ _ _ _).mp kk H locs ls hP hS hL)
theorem r_lmul (C : Cw g own cc nL h l E) {a b : Int} (d : decode cc pc = .ok (.lmul, 1)) (kk : g S (pc + 1) L (lw (a * b) :: st)) : g S pc L (lw b :: lw a :: st) := by
  obtain ⟨p, e0, R, s, mi, args, below, meth, c, cells, slots, Q, A, H0, D, ⟨hx, hb, hml, hown, hts⟩, hE, hA, hK, hR, hg⟩ := C
  refine (hg _ _ _ _).mpr fun H locs ls hP hS hL => ?_
  refine lv_lmul hx hb d ?_
  rw [← Int64.ofInt_mul]
  exact (hg _ _ _ _).mp kk H locs ls hP hS hL
def cmpI (a b : Int) : Int := if b < a then 1 else if a = b then 0 else -1
def lr (e : Int) : Prop := -4611686018427387904 ≤ e ∧ e ≤ 4611686018427387904
theorem lr_to {e : Int} (h : lr e) : (Int64.ofInt e).toInt = e := Int64.toInt_ofInt_of_le (by have := h.1; omega) (by have := h.2; omega)
theorem lr_mul (a b : Int) : lr (wr a * wr b) := by
  have h1 := ir_of (Int32.ofInt a)
  have h2 := ir_of (Int32.ofInt b)
  have e1 : (Int32.ofInt a).toInt = wr a := rfl
  have e2 : (Int32.ofInt b).toInt = wr b := rfl
  rw [e1] at h1; rw [e2] at h2
  unfold ir at h1 h2
  generalize wr a = x at h1 ⊢
  generalize wr b = y at h2 ⊢
  have h3 : (x * y).natAbs ≤ 2147483648 * 2147483648 := by
    rw [Int.natAbs_mul]
    exact Nat.mul_le_mul (by omega) (by omega)
  unfold lr
  omega
theorem r_lcmp (C : Cw g own cc nL h l E) {a b : Int} (d : decode cc pc = .ok (.lcmp, 1)) (ha : lr a) (hb2 : lr b) (kk : g S (pc + 1) L (iv (cmpI a b) :: st)) : g S pc L (lw b :: lw a :: st) := by
  obtain ⟨p, e0, R, s, mi, args, below, meth, c, cells, slots, Q, A, H0, D, ⟨hx, hb, hml, hown, hts⟩, hE, hA, hK, hR, hg⟩ := C
  refine (hg _ _ _ _).mpr fun H locs ls hP hS hL => ?_
  refine W.lcmp hx hb d ?_
  have e1 : lg_cmp (Int64.ofInt a) (Int64.ofInt b) = Int32.ofInt (cmpI a b) := by
    unfold lg_cmp cmpI
    simp only [gt_iff_lt, Int64.lt_iff_toInt_lt, ← Int64.toInt_inj, lr_to ha, lr_to hb2]
    (repeat' split) <;> rfl
  rw [e1]
  exact (hg _ _ _ _).mp kk H locs ls hP hS hL
end MORE2
def bcN (n : Nat) : Nat := n % 2 + n / 2 % 2 + n / 4 % 2 + n / 8 % 2
def bcA (i : Int) : Int := i - andI (ushI i 1) 1431655765
def bcB (a : Int) : Int := andI a 858993459 + andI (ushI a 2) 858993459
def bcC (b : Int) : Int := andI (b + ushI b 4) 252645135
def bcD (c : Int) : Int := c + ushI c 8
def bcE (d : Int) : Int := d + ushI d 16
theorem bc_ok : ∀ n : Nat, n < 16 → andI (bcE (bcD (bcC (bcB (bcA (n : Int)))))) 63 = ((bcN n : Nat) : Int) := by decide +kernel
theorem bcN_bd {n : Nat} (h : n < 16) : bcN n ≤ 4 := by unfold bcN; omega
theorem k_In_bitCount {l : Launch} {E : Ew} {S : WW} (n : Nat) (hn : n < 16) : Kf l y_In_bitCount b_In_bitCount 1 (some .int) 0 E S [iv (n : Int)] (some (iv ((bcN n : Nat) : Int))) S := by
  refine KfI (by decide +kernel) rfl (Nat.le_of_ble_eq_true rfl) (fun g C R => ?_)
  show g S 0 [some (iv (n : Int))] []
  refine r_iload_n C d_In_bitCount_0 rfl ?_
  refine r_iload_n C d_In_bitCount_1 rfl ?_
  refine r_iconst C d_In_bitCount_2 ?_
  refine r_iushrG C d_In_bitCount_3 ?_
  refine r_ldcw (n := 1431655765) C kc_In_265 (by decide) d_In_bitCount_4 ?_
  refine r_iandG C d_In_bitCount_7 ?_
  refine r_isub C d_In_bitCount_8 ?_
  refine r_istore_0 C d_In_bitCount_9 ?_
  refine r_iload_n C d_In_bitCount_10 rfl ?_
  refine r_ldcw (n := 858993459) C kc_In_266 (by decide) d_In_bitCount_11 ?_
  refine r_iandG C d_In_bitCount_14 ?_
  refine r_iload_n C d_In_bitCount_15 rfl ?_
  refine r_iconst C d_In_bitCount_16 ?_
  refine r_iushrG C d_In_bitCount_17 ?_
  refine r_ldcw (n := 858993459) C kc_In_266 (by decide) d_In_bitCount_18 ?_
  refine r_iandG C d_In_bitCount_21 ?_
  refine r_iadd C d_In_bitCount_22 ?_
  refine r_istore_0 C d_In_bitCount_23 ?_
  refine r_iload_n C d_In_bitCount_24 rfl ?_
  refine r_iload_n C d_In_bitCount_25 rfl ?_
  refine r_iconst C d_In_bitCount_26 ?_
  refine r_iushrG C d_In_bitCount_27 ?_
  refine r_iadd C d_In_bitCount_28 ?_
  refine r_ldcw (n := 252645135) C kc_In_267 (by decide) d_In_bitCount_29 ?_
  refine r_iandG C d_In_bitCount_32 ?_
  refine r_istore_0 C d_In_bitCount_33 ?_
  refine r_iload_n C d_In_bitCount_34 rfl ?_
  refine r_iload_n C d_In_bitCount_35 rfl ?_
  refine r_bipush C d_In_bitCount_36 (by decide) ?_
  refine r_iushrG C d_In_bitCount_38 ?_
  refine r_iadd C d_In_bitCount_39 ?_
  refine r_istore_0 C d_In_bitCount_40 ?_
  refine r_iload_n C d_In_bitCount_41 rfl ?_
  refine r_iload_n C d_In_bitCount_42 rfl ?_
  refine r_bipush C d_In_bitCount_43 (by decide) ?_
  refine r_iushrG C d_In_bitCount_45 ?_
  refine r_iadd C d_In_bitCount_46 ?_
  refine r_istore_0 C d_In_bitCount_47 ?_
  refine r_iload_n C d_In_bitCount_48 rfl ?_
  refine r_bipush C d_In_bitCount_49 (by decide) ?_
  refine r_iandG C d_In_bitCount_51 ?_
  exact R d_In_bitCount_52 (bc_ok n hn) rfl
theorem md_In_bitCount2 : y_In_bitCount.cls ≠ "java/lang/invoke/MethodHandle" ∧ y_In_bitCount.cls ≠ "java/lang/invoke/VarHandle" ∧ (parseMethodDescriptor y_In_bitCount.desc).map (fun d => d.parameters.length) = some 1 := by decide +kernel
def uoD (t : TT) (s n : Nat) : Prop := ∃ r, r < n ∧ (s >>> r) % 2 = 1 ∧ t 14 r ≠ 0
def uoS (t : TT) (s n : Nat) : Int := sumN (fun r => if (s >>> r) % 2 = 1 then t 13 r else 0) n
theorem uoS_s (t : TT) (s n : Nat) : uoS t s (n + 1) = uoS t s n + if (s >>> n) % 2 = 1 then t 13 n else 0 := rfl
noncomputable def uoF (t : TT) (s : Nat) : Int := pif (uoD t s (t 0 0).toNat) 0 (uoS t s (t 0 0).toNat)
theorem uoF_bd {t : TT} (hB : Bd t) (s : Nat) : 0 ≤ uoF t s ∧ uoF t s ≤ 64 := by
  have b0 := bd0 hB 0
  have h := sumN_bd (f := fun r => if (s >>> r) % 2 = 1 then t 13 r else 0) (lo := 0) (hi := 16) (n := (t 0 0).toNat) (fun i _ => by
    have := bd13 hB i
    split <;> omega)
  unfold uoF
  by_cases q : uoD t s (t 0 0).toNat
  · rw [pif_t q]; omega
  · rw [pif_f q]; unfold uoS; omega
theorem k_Mc_unusedOn {l : Launch} {E : Ew} {S0 : WW} {m : Nat} {t : TT} (hm : m < 2) {s : Nat} (hs : s < 16) (hB : Bd t) : Kf l y_Mc_unusedOn b_Mc_unusedOn 4 (some .int) 0 E (sm S0 m t) [rf E (kMc m), iv (s : Int)] (some (iv (uoF t s))) (sm S0 m t) := by
  refine KfI rfl rfl (Nat.le_of_ble_eq_true rfl) (fun g C R => ?_)
  show g (sm S0 m t) 0 [some (rf E (kMc m)), some (iv (s : Int)), none, none] []
  have b0 := bd0 hB 0
  have hl : ∀ (k i : Nat), ¬ uoD t s i → i ≤ (t 0 0).toNat → (t 0 0).toNat - i < k → g (sm S0 m t) 4 [some (rf E (kMc m)), some (iv (s : Int)), some (iv (uoS t s i)), some (iv (i : Int))] [] := by
    intro k
    induction k with
    | zero => intro i h0 h1 h2; omega
    | succ k ih =>
      intro i h0 h1 h2
      refine r_iload_n C d_Mc_unusedOn_4 rfl ?_
      refine r_aload_n C d_Mc_unusedOn_5 rfl ?_
      refine g_Mc_rackCount C hm lk_Mc_56 d_Mc_unusedOn_6 ?_
      refine r_icmp_ge (tgt := 52) C d_Mc_unusedOn_9 (by decide) (by first | assumption | exact bd_ir (by assumption) rfl | exact b2i_ir _ | exact pb_ir _ | exact ir_mk (by omega) (by omega)) (by first | assumption | exact bd_ir (by assumption) rfl | exact b2i_ir _ | exact pb_ir _ | exact ir_mk (by omega) (by omega)) (fun c9 => ?_) (fun c9 => ?_)
      · refine r_iload_n C d_Mc_unusedOn_52 rfl ?_
        exact R d_Mc_unusedOn_53 (by unfold uoF; first | (rw [show i = (t 0 0).toNat by omega] at h0 ⊢; rw [pif_f h0]) | (rw [pif_t ⟨i, by omega, by omega, c29⟩])) rfl
      · refine r_iload_n C d_Mc_unusedOn_12 rfl ?_
        refine r_iload_n C d_Mc_unusedOn_13 rfl ?_
        refine r_ishr C hs (by omega) d_Mc_unusedOn_14 ?_
        refine r_iconst C d_Mc_unusedOn_15 ?_
        refine r_iand C hs d_Mc_unusedOn_16 ?_
        refine r_if_eq (tgt := 46) C d_Mc_unusedOn_17 (by decide) (by first | assumption | exact bd_ir (by assumption) rfl | exact b2i_ir _ | exact pb_ir _ | exact ir_mk (by omega) (by omega)) (fun c17 => ?_) (fun c17 => ?_)
        · refine r_iinc_3 C d_Mc_unusedOn_46 ?_
          refine r_goto (tgt := 4) C d_Mc_unusedOn_49 (by decide) ?_
          have h := fun z => ih (i + 1) z (by omega) (by omega)
          rw [uoS_s] at h
          first
            | (rw [if_pos (by omega)] at h
               refine h ?_
               rintro ⟨r, hr, hr2, hr3⟩
               by_cases q : r = i
               · subst q; exact hr3 c29
               · exact h0 ⟨r, by omega, hr2, hr3⟩)
            | (rw [if_neg (by omega), Int.add_zero] at h
               refine h ?_
               rintro ⟨r, hr, hr2, hr3⟩
               by_cases q : r = i
               · subst q; omega
               · exact h0 ⟨r, by omega, hr2, hr3⟩)
        · refine r_aload_n C d_Mc_unusedOn_20 rfl ?_
          refine g_Mc_racks C hm lk_Mc_11 d_Mc_unusedOn_21 ?_
          refine r_iload_n C d_Mc_unusedOn_24 rfl ?_
          refine x_Rk C hm _ rfl (by omega) d_Mc_unusedOn_25 ?_
          refine g_Rk_drained C hm (by omega) lk_Mc_102 d_Mc_unusedOn_26 ?_
          refine r_if_eq (tgt := 34) C d_Mc_unusedOn_29 (by decide) (by first | assumption | exact bd_ir (by assumption) rfl | exact b2i_ir _ | exact pb_ir _ | exact ir_mk (by omega) (by omega)) (fun c29 => ?_) (fun c29 => ?_)
          · refine r_iload_n C d_Mc_unusedOn_34 rfl ?_
            refine r_aload_n C d_Mc_unusedOn_35 rfl ?_
            refine g_Mc_racks C hm lk_Mc_11 d_Mc_unusedOn_36 ?_
            refine r_iload_n C d_Mc_unusedOn_39 rfl ?_
            refine x_Rk C hm _ rfl (by omega) d_Mc_unusedOn_40 ?_
            refine g_Rk_unused C hm (by omega) lk_Mc_90 d_Mc_unusedOn_41 ?_
            refine r_iadd C d_Mc_unusedOn_44 ?_
            refine r_istore_2 C d_Mc_unusedOn_45 ?_
            refine r_iinc_3 C d_Mc_unusedOn_46 ?_
            refine r_goto (tgt := 4) C d_Mc_unusedOn_49 (by decide) ?_
            have h := fun z => ih (i + 1) z (by omega) (by omega)
            rw [uoS_s] at h
            first
              | (rw [if_pos (by omega)] at h
                 refine h ?_
                 rintro ⟨r, hr, hr2, hr3⟩
                 by_cases q : r = i
                 · subst q; exact hr3 c29
                 · exact h0 ⟨r, by omega, hr2, hr3⟩)
              | (rw [if_neg (by omega), Int.add_zero] at h
                 refine h ?_
                 rintro ⟨r, hr, hr2, hr3⟩
                 by_cases q : r = i
                 · subst q; omega
                 · exact h0 ⟨r, by omega, hr2, hr3⟩)
          · refine r_iconst C d_Mc_unusedOn_32 ?_
            exact R d_Mc_unusedOn_33 (by unfold uoF; first | (rw [show i = (t 0 0).toNat by omega] at h0 ⊢; rw [pif_f h0]) | (rw [pif_t ⟨i, by omega, by omega, c29⟩])) rfl
  refine r_iconst C d_Mc_unusedOn_0 ?_
  refine r_istore_2 C d_Mc_unusedOn_1 ?_
  refine r_iconst C d_Mc_unusedOn_2 ?_
  refine r_istore_3 C d_Mc_unusedOn_3 ?_
  exact hl ((t 0 0).toNat + 1) 0 (fun q => by obtain ⟨r, hr, _⟩ := q; omega) (by omega) (by omega)
noncomputable def frN (t : TT) (w : Int) : Nat → Nat
  | 0 => 0
  | k + 1 => pif ((frN t w k = 0 ∨ bcN (k + 1) < bcN (frN t w k)) ∧ w ≤ uoF t (k + 1)) (k + 1) (frN t w k)
theorem frN_s (t : TT) (w : Int) (k : Nat) : frN t w (k + 1) = pif ((frN t w k = 0 ∨ bcN (k + 1) < bcN (frN t w k)) ∧ w ≤ uoF t (k + 1)) (k + 1) (frN t w k) := rfl
theorem frN_le (t : TT) (w : Int) : ∀ k, frN t w k ≤ k := by
  intro k
  induction k with
  | zero => exact Nat.le_refl _
  | succ k ih =>
    rw [frN_s]
    by_cases q : (frN t w k = 0 ∨ bcN (k + 1) < bcN (frN t w k)) ∧ w ≤ uoF t (k + 1)
    · rw [pif_t q]; exact Nat.le_refl _
    · rw [pif_f q]; omega
noncomputable def frF (t : TT) (w : Int) : Nat := frN t w (2 ^ (t 0 0).toNat - 1)
theorem p2_bd {n : Nat} (h : n ≤ 4) : 1 ≤ 2 ^ n ∧ 2 ^ n ≤ 16 := by
  rcases (show n = 0 ∨ n = 1 ∨ n = 2 ∨ n = 3 ∨ n = 4 by omega) with rfl | rfl | rfl | rfl | rfl <;> decide
theorem frF_lt {t : TT} (hB : Bd t) (w : Int) : frF t w < 16 := by
  have b0 := bd0 hB 0
  have h := p2_bd (show (t 0 0).toNat ≤ 4 by omega)
  have h2 := frN_le t w (2 ^ (t 0 0).toNat - 1)
  unfold frF
  omega
theorem k_Mc_fewestRacks {l : Launch} {E : Ew} {S0 : WW} {m : Nat} {t : TT} (hm : m < 2) {w : Int} (hw : ir w) (hB : Bd t) : Kf l y_Mc_fewestRacks b_Mc_fewestRacks 5 (some .int) 1 E (sm S0 m t) [rf E (kMc m), iv w] (some (iv (((frF t w : Nat) : Int)))) (sm S0 m t) := by
  refine KfI rfl rfl (Nat.le_of_ble_eq_true rfl) (fun g C R => ?_)
  show g (sm S0 m t) 0 [some (rf E (kMc m)), some (iv w), none, none, none] []
  have b0 := bd0 hB 0
  have hp := p2_bd (show (t 0 0).toNat ≤ 4 by omega)
  have hl : ∀ (k i : Nat) (X : Option Value), i ≤ 2 ^ (t 0 0).toNat - 1 → 2 ^ (t 0 0).toNat - 1 - i < k → g (sm S0 m t) 4 [some (rf E (kMc m)), some (iv w), some (iv ((frN t w i : Nat) : Int)), some (iv ((i : Int) + 1)), X] [] := by
    intro k
    induction k with
    | zero => intro i X h1 h2; omega
    | succ k ih =>
      intro i X h1 h2
      have hfi := frN_le t w i
      have hu := uoF_bd hB (i + 1)
      refine r_iload_n C d_Mc_fewestRacks_4 rfl ?_
      refine r_iconst C d_Mc_fewestRacks_5 ?_
      refine r_aload_n C d_Mc_fewestRacks_6 rfl ?_
      refine g_Mc_rackCount C hm lk_Mc_56 d_Mc_fewestRacks_7 ?_
      refine r_ishl C (t 0 0).toNat (by omega) (by omega) d_Mc_fewestRacks_10 ?_
      refine r_icmp_ge (tgt := 58) C d_Mc_fewestRacks_11 (by decide) (by first | assumption | exact bd_ir (by assumption) rfl | exact b2i_ir _ | exact pb_ir _ | exact ir_mk (by omega) (by omega)) (by first | assumption | exact bd_ir (by assumption) rfl | exact b2i_ir _ | exact pb_ir _ | exact ir_mk (by omega) (by omega)) (fun c11 => ?_) (fun c11 => ?_)
      · refine r_iload_n C d_Mc_fewestRacks_58 rfl ?_
        exact R d_Mc_fewestRacks_59 (by rw [show i = 2 ^ (t 0 0).toNat - 1 by omega]; rfl) rfl
      · have hb1 := bcN_bd (n := i + 1) (by omega)
        have hb2 := bcN_bd (n := frN t w i) (by omega)
        refine r_iload_n C d_Mc_fewestRacks_14 rfl ?_
        refine r_if_eq (tgt := 29) C d_Mc_fewestRacks_15 (by decide) (by first | assumption | exact bd_ir (by assumption) rfl | exact b2i_ir _ | exact pb_ir _ | exact ir_mk (by omega) (by omega)) (fun c15 => ?_) (fun c15 => ?_)
        · refine r_iconst C d_Mc_fewestRacks_29 ?_
          refine r_goto (tgt := 34) C d_Mc_fewestRacks_30 (by decide) ?_
          refine r_istore_4 C d_Mc_fewestRacks_34 ?_
          refine r_iload C d_Mc_fewestRacks_36 rfl ?_
          refine r_if_eq (tgt := 52) C d_Mc_fewestRacks_38 (by decide) (by first | assumption | exact bd_ir (by assumption) rfl | exact b2i_ir _ | exact pb_ir _ | exact ir_mk (by omega) (by omega)) (fun c38 => ?_) (fun c38 => ?_)
          · refine r_iinc_3 C d_Mc_fewestRacks_52 ?_
            refine r_goto (tgt := 4) C d_Mc_fewestRacks_55 (by decide) ?_
            have h := fun X => ih (i + 1) X (by omega) (by omega)
            rw [frN_s] at h
            first
              | (rw [pif_t ⟨by omega, by omega⟩] at h; exact h _)
              | (rw [pif_f (fun q => by omega)] at h; exact h _)
          · refine r_aload_n C d_Mc_fewestRacks_41 rfl ?_
            refine r_iload_n C d_Mc_fewestRacks_42 rfl ?_
            refine r_cV1r C (k_Mc_unusedOn hm (s := i + 1) (by omega) hB) (by decide) (by decide) ml_Mc_235 mn_Mc_unusedOn ms_Mc_unusedOn mc_Mc_unusedOn mi_Mc_unusedOn md_Mc_unusedOn (kMc_lt hm) (zMc hm) rfl rfl (Nat.le_of_ble_eq_true rfl) d_Mc_fewestRacks_43 ?_
            refine r_iload_n C d_Mc_fewestRacks_46 rfl ?_
            refine r_icmp_lt (tgt := 52) C d_Mc_fewestRacks_47 (by decide) (by first | assumption | exact bd_ir (by assumption) rfl | exact b2i_ir _ | exact pb_ir _ | exact ir_mk (by omega) (by omega)) (by first | assumption | exact bd_ir (by assumption) rfl | exact b2i_ir _ | exact pb_ir _ | exact ir_mk (by omega) (by omega)) (fun c47 => ?_) (fun c47 => ?_)
            · refine r_iinc_3 C d_Mc_fewestRacks_52 ?_
              refine r_goto (tgt := 4) C d_Mc_fewestRacks_55 (by decide) ?_
              have h := fun X => ih (i + 1) X (by omega) (by omega)
              rw [frN_s] at h
              first
                | (rw [pif_t ⟨by omega, by omega⟩] at h; exact h _)
                | (rw [pif_f (fun q => by omega)] at h; exact h _)
            · refine r_iload_n C d_Mc_fewestRacks_50 rfl ?_
              refine r_istore_2 C d_Mc_fewestRacks_51 ?_
              refine r_iinc_3 C d_Mc_fewestRacks_52 ?_
              refine r_goto (tgt := 4) C d_Mc_fewestRacks_55 (by decide) ?_
              have h := fun X => ih (i + 1) X (by omega) (by omega)
              rw [frN_s] at h
              first
                | (rw [pif_t ⟨by omega, by omega⟩] at h; exact h _)
                | (rw [pif_f (fun q => by omega)] at h; exact h _)
        · refine r_iload_n C d_Mc_fewestRacks_18 rfl ?_
          refine r_cS1r C (k_In_bitCount (i + 1) (by omega)) (by decide) (by decide) ml_Mc_230 mt_In_bitCount mc_In_bitCount mi_In_bitCount md_In_bitCount2 (Nat.le_of_ble_eq_true rfl) d_Mc_fewestRacks_19 ?_
          refine r_iload_n C d_Mc_fewestRacks_22 rfl ?_
          refine r_cS1r C (k_In_bitCount (frN t w i) (by omega)) (by decide) (by decide) ml_Mc_230 mt_In_bitCount mc_In_bitCount mi_In_bitCount md_In_bitCount2 (Nat.le_of_ble_eq_true rfl) d_Mc_fewestRacks_23 ?_
          refine r_icmp_ge (tgt := 33) C d_Mc_fewestRacks_26 (by decide) (by first | assumption | exact bd_ir (by assumption) rfl | exact b2i_ir _ | exact pb_ir _ | exact ir_mk (by omega) (by omega)) (by first | assumption | exact bd_ir (by assumption) rfl | exact b2i_ir _ | exact pb_ir _ | exact ir_mk (by omega) (by omega)) (fun c26 => ?_) (fun c26 => ?_)
          · refine r_iconst C d_Mc_fewestRacks_33 ?_
            refine r_istore_4 C d_Mc_fewestRacks_34 ?_
            refine r_iload C d_Mc_fewestRacks_36 rfl ?_
            refine r_if_eq (tgt := 52) C d_Mc_fewestRacks_38 (by decide) (by first | assumption | exact bd_ir (by assumption) rfl | exact b2i_ir _ | exact pb_ir _ | exact ir_mk (by omega) (by omega)) (fun c38 => ?_) (fun c38 => ?_)
            · refine r_iinc_3 C d_Mc_fewestRacks_52 ?_
              refine r_goto (tgt := 4) C d_Mc_fewestRacks_55 (by decide) ?_
              have h := fun X => ih (i + 1) X (by omega) (by omega)
              rw [frN_s] at h
              first
                | (rw [pif_t ⟨by omega, by omega⟩] at h; exact h _)
                | (rw [pif_f (fun q => by omega)] at h; exact h _)
            · refine r_aload_n C d_Mc_fewestRacks_41 rfl ?_
              refine r_iload_n C d_Mc_fewestRacks_42 rfl ?_
              refine r_cV1r C (k_Mc_unusedOn hm (s := i + 1) (by omega) hB) (by decide) (by decide) ml_Mc_235 mn_Mc_unusedOn ms_Mc_unusedOn mc_Mc_unusedOn mi_Mc_unusedOn md_Mc_unusedOn (kMc_lt hm) (zMc hm) rfl rfl (Nat.le_of_ble_eq_true rfl) d_Mc_fewestRacks_43 ?_
              refine r_iload_n C d_Mc_fewestRacks_46 rfl ?_
              refine r_icmp_lt (tgt := 52) C d_Mc_fewestRacks_47 (by decide) (by first | assumption | exact bd_ir (by assumption) rfl | exact b2i_ir _ | exact pb_ir _ | exact ir_mk (by omega) (by omega)) (by first | assumption | exact bd_ir (by assumption) rfl | exact b2i_ir _ | exact pb_ir _ | exact ir_mk (by omega) (by omega)) (fun c47 => ?_) (fun c47 => ?_)
              · refine r_iinc_3 C d_Mc_fewestRacks_52 ?_
                refine r_goto (tgt := 4) C d_Mc_fewestRacks_55 (by decide) ?_
                have h := fun X => ih (i + 1) X (by omega) (by omega)
                rw [frN_s] at h
                first
                  | (rw [pif_t ⟨by omega, by omega⟩] at h; exact h _)
                  | (rw [pif_f (fun q => by omega)] at h; exact h _)
              · refine r_iload_n C d_Mc_fewestRacks_50 rfl ?_
                refine r_istore_2 C d_Mc_fewestRacks_51 ?_
                refine r_iinc_3 C d_Mc_fewestRacks_52 ?_
                refine r_goto (tgt := 4) C d_Mc_fewestRacks_55 (by decide) ?_
                have h := fun X => ih (i + 1) X (by omega) (by omega)
                rw [frN_s] at h
                first
                  | (rw [pif_t ⟨by omega, by omega⟩] at h; exact h _)
                  | (rw [pif_f (fun q => by omega)] at h; exact h _)
          · refine r_iconst C d_Mc_fewestRacks_29 ?_
            refine r_goto (tgt := 34) C d_Mc_fewestRacks_30 (by decide) ?_
            refine r_istore_4 C d_Mc_fewestRacks_34 ?_
            refine r_iload C d_Mc_fewestRacks_36 rfl ?_
            refine r_if_eq (tgt := 52) C d_Mc_fewestRacks_38 (by decide) (by first | assumption | exact bd_ir (by assumption) rfl | exact b2i_ir _ | exact pb_ir _ | exact ir_mk (by omega) (by omega)) (fun c38 => ?_) (fun c38 => ?_)
            · refine r_iinc_3 C d_Mc_fewestRacks_52 ?_
              refine r_goto (tgt := 4) C d_Mc_fewestRacks_55 (by decide) ?_
              have h := fun X => ih (i + 1) X (by omega) (by omega)
              rw [frN_s] at h
              first
                | (rw [pif_t ⟨by omega, by omega⟩] at h; exact h _)
                | (rw [pif_f (fun q => by omega)] at h; exact h _)
            · refine r_aload_n C d_Mc_fewestRacks_41 rfl ?_
              refine r_iload_n C d_Mc_fewestRacks_42 rfl ?_
              refine r_cV1r C (k_Mc_unusedOn hm (s := i + 1) (by omega) hB) (by decide) (by decide) ml_Mc_235 mn_Mc_unusedOn ms_Mc_unusedOn mc_Mc_unusedOn mi_Mc_unusedOn md_Mc_unusedOn (kMc_lt hm) (zMc hm) rfl rfl (Nat.le_of_ble_eq_true rfl) d_Mc_fewestRacks_43 ?_
              refine r_iload_n C d_Mc_fewestRacks_46 rfl ?_
              refine r_icmp_lt (tgt := 52) C d_Mc_fewestRacks_47 (by decide) (by first | assumption | exact bd_ir (by assumption) rfl | exact b2i_ir _ | exact pb_ir _ | exact ir_mk (by omega) (by omega)) (by first | assumption | exact bd_ir (by assumption) rfl | exact b2i_ir _ | exact pb_ir _ | exact ir_mk (by omega) (by omega)) (fun c47 => ?_) (fun c47 => ?_)
              · refine r_iinc_3 C d_Mc_fewestRacks_52 ?_
                refine r_goto (tgt := 4) C d_Mc_fewestRacks_55 (by decide) ?_
                have h := fun X => ih (i + 1) X (by omega) (by omega)
                rw [frN_s] at h
                first
                  | (rw [pif_t ⟨by omega, by omega⟩] at h; exact h _)
                  | (rw [pif_f (fun q => by omega)] at h; exact h _)
              · refine r_iload_n C d_Mc_fewestRacks_50 rfl ?_
                refine r_istore_2 C d_Mc_fewestRacks_51 ?_
                refine r_iinc_3 C d_Mc_fewestRacks_52 ?_
                refine r_goto (tgt := 4) C d_Mc_fewestRacks_55 (by decide) ?_
                have h := fun X => ih (i + 1) X (by omega) (by omega)
                rw [frN_s] at h
                first
                  | (rw [pif_t ⟨by omega, by omega⟩] at h; exact h _)
                  | (rw [pif_f (fun q => by omega)] at h; exact h _)
  refine r_iconst C d_Mc_fewestRacks_0 ?_
  refine r_istore_2 C d_Mc_fewestRacks_1 ?_
  refine r_iconst C d_Mc_fewestRacks_2 ?_
  refine r_istore_3 C d_Mc_fewestRacks_3 ?_
  exact hl (2 ^ (t 0 0).toNat) 0 _ (by omega) (by omega)
def wnF (t : TT) (s : Nat) (w : Int) : Nat → Int
  | 0 => w
  | r + 1 => if (s >>> r) % 2 = 1 then wnF t s w r - min (wnF t s w r) (t 13 r) else wnF t s w r
theorem wnF_s (t : TT) (s : Nat) (w : Int) (r : Nat) : wnF t s w (r + 1) = if (s >>> r) % 2 = 1 then wnF t s w r - min (wnF t s w r) (t 13 r) else wnF t s w r := rfl
theorem wnF_bd {t : TT} (hB : Bd t) (s : Nat) {w : Int} (hw : 0 ≤ w) : ∀ r, 0 ≤ wnF t s w r ∧ wnF t s w r ≤ w := by
  intro r
  induction r with
  | zero => unfold wnF; omega
  | succ r ih => have := bd13 hB r; rw [wnF_s]; split <;> omega
def bg1 (t : TT) (j s : Nat) (w : Int) (n : Nat) : TT := fun f a => if f = 13 ∧ a < n ∧ (s >>> a) % 2 = 1 then t 13 a - min (wnF t s w a) (t 13 a) else if f = 100 + j ∧ a < n ∧ (s >>> a) % 2 = 1 then min (wnF t s w a) (t 13 a) else t f a
noncomputable def bgF (t : TT) (j : Nat) : TT := tu (tu (tu (tu (bg1 t j (frF t (t 18 j)) (t 18 j) (t 0 0).toNat) 24 j 1) 25 j (t 4 0)) 28 j (t 18 j)) 29 j (t 4 0 + (t 20 j - t 27 j))
theorem bg1_0 (t : TT) (j s : Nat) (w : Int) : bg1 t j s w 0 = t := by
  funext f a
  simp [bg1]
theorem bg1_ne {t : TT} {j s : Nat} {w : Int} {n f a : Nat} (h : (f ≠ 13 ∧ f ≠ 100 + j) ∨ n ≤ a) : bg1 t j s w n f a = t f a := by unfold bg1; rw [if_neg (by omega), if_neg (by omega)]
theorem bg1_y {t : TT} {j s : Nat} {w : Int} {n : Nat} (h : (s >>> n) % 2 = 1) : tu (tu (bg1 t j s w n) 13 n (t 13 n - min (wnF t s w n) (t 13 n))) (100 + j) n (min (wnF t s w n) (t 13 n)) = bg1 t j s w (n + 1) := by
  funext f a
  simp only [tu, bg1]
  by_cases e1 : f = 13
  · subst e1
    by_cases e2 : a = n
    · subst e2; simp [h]; omega
    · have q : a < n + 1 ↔ a < n := by omega
      simp [e2, q] <;> omega
  · by_cases e3 : f = 100 + j
    · subst e3
      by_cases e2 : a = n
      · subst e2; simp [h]; omega
      · have q : a < n + 1 ↔ a < n := by omega
        simp [e2, q]
    · simp [e1, e3]
theorem bg1_n {t : TT} {j s : Nat} {w : Int} {n : Nat} (h : ¬ (s >>> n) % 2 = 1) : bg1 t j s w n = bg1 t j s w (n + 1) := by
  funext f a
  simp only [bg1]
  by_cases e2 : a = n
  · subst e2; simp [h]
  · have q : a < n + 1 ↔ a < n := by omega
    simp [q]
theorem bg1_bd {t : TT} (hB : Bd t) (j s : Nat) {w : Int} (hw : 0 ≤ w) (n : Nat) : Bd (bg1 t j s w n) := by
  intro f a hf
  have h1 := bd13 hB a
  have h2 := wnF_bd hB s hw a
  unfold bg1
  split
  · rename_i q; rw [q.1]
    show (0 : Int) ≤ _ ∧ _ ≤ (16 : Int)
    omega
  split
  · rename_i q
    have e1 : lo f = 0 := by unfold lo; rw [if_neg (by omega)]
    have e2 : hi f = 16 := by unfold hi; rw [List.getD_eq_getElem?_getD, List.getElem?_eq_none (by simp; omega)]; rfl
    rw [e1, e2]
    omega
  · exact hB f a hf
theorem k_Mc_begin {l : Launch} {E : Ew} {S0 : WW} {m : Nat} {t : TT} (hm : m < 2) {j : Nat} (hj : j < 30) (hB : Bd t) : Kf l y_Mc_begin b_Mc_begin 6 none 2 E (sm S0 m t) [rf E (kMc m), rf E (kJb m j)] none (sm S0 m (bgF t j)) := by
  refine KfV rfl rfl (Nat.le_of_ble_eq_true rfl) (fun g C R => ?_)
  show g (sm S0 m t) 0 [some (rf E (kMc m)), some (rf E (kJb m j)), none, none, none, none] []
  have b0 := bd0 hB 0
  have b4 := bd4 hB 0
  obtain ⟨s, hse⟩ : ∃ s, s = frF t (t 18 j) := ⟨_, rfl⟩
  obtain ⟨w, hwe⟩ : ∃ w, w = t 18 j := ⟨_, rfl⟩
  have hs : s < 16 := by rw [hse]; exact frF_lt hB _
  have hw : 0 ≤ w ∧ w ≤ 64 := by rw [hwe]; exact bd18 hB j
  have hw0 := hw.1
  have hl : ∀ (k i : Nat) (X : Option Value), i ≤ (t 0 0).toNat → (t 0 0).toNat - i < k → g (sm S0 m (bg1 t j s w i)) 17 [some (rf E (kMc m)), some (rf E (kJb m j)), some (iv (s : Int)), some (iv (wnF t s w i)), some (iv (i : Int)), X] [] := by
    intro k
    induction k with
    | zero => intro i X h1 h2; omega
    | succ k ih =>
      intro i X h1 h2
      have hwn := wnF_bd hB s hw0 i
      have hb1 := bg1_bd hB j s hw0 i
      refine r_iload C d_Mc_begin_17 rfl ?_
      refine r_aload_n C d_Mc_begin_19 rfl ?_
      refine g_Mc_rackCount C hm lk_Mc_56 d_Mc_begin_20 ?_
      rw [bg1_ne (by omega)]
      refine r_icmp_ge (tgt := 88) C d_Mc_begin_23 (by decide) (by first | assumption | exact bd_ir (by assumption) rfl | exact b2i_ir _ | exact pb_ir _ | exact ir_mk (by omega) (by omega)) (by first | assumption | exact bd_ir (by assumption) rfl | exact b2i_ir _ | exact pb_ir _ | exact ir_mk (by omega) (by omega)) (fun c23 => ?_) (fun c23 => ?_)
      · refine r_aload_n C d_Mc_begin_88 rfl ?_
        refine r_iconst C d_Mc_begin_89 ?_
        refine p_Jb_state C hm (by omega) lk_Mc_99 d_Mc_begin_90 ?_
        refine r_aload_n C d_Mc_begin_93 rfl ?_
        refine r_aload_n C d_Mc_begin_94 rfl ?_
        refine g_Mc_now C hm lk_Mc_68 d_Mc_begin_95 ?_
        try simp (disch := omega) only [tu_ne, tu_eq, bg1_ne]
        refine p_Jb_begun C hm (by omega) lk_Mc_227 d_Mc_begin_98 ?_
        refine r_aload_n C d_Mc_begin_101 rfl ?_
        refine r_aload_n C d_Mc_begin_102 rfl ?_
        refine g_Jb_nodes C hm (by omega) lk_Mc_152 d_Mc_begin_103 ?_
        try simp (disch := omega) only [tu_ne, tu_eq, bg1_ne]
        refine p_Jb_counted C hm (by omega) lk_Mc_110 d_Mc_begin_106 ?_
        refine r_aload_n C d_Mc_begin_109 rfl ?_
        refine r_aload_n C d_Mc_begin_110 rfl ?_
        refine g_Mc_now C hm lk_Mc_68 d_Mc_begin_111 ?_
        try simp (disch := omega) only [tu_ne, tu_eq, bg1_ne]
        refine r_aload_n C d_Mc_begin_114 rfl ?_
        refine r_cV0r C (k_Jb_left hm hj (bd_tu (bd_tu (bd_tu hb1 (fun _ => by show (0 : Int) ≤ 1 ∧ (1 : Int) ≤ 3; omega)) (fun _ => by show (-1 : Int) ≤ t 4 0 ∧ t 4 0 ≤ 3000; omega)) (fun _ => bd18 hB j))) (by decide) (by decide) ml_Mc_148 mn_Jb_left ms_Jb_left mc_Jb_left mi_Jb_left md_Jb_left (kJb_lt hm (by omega)) (zJb hm (by omega)) rfl rfl (Nat.le_of_ble_eq_true rfl) d_Mc_begin_115 ?_
        try simp (disch := omega) only [tu_ne, tu_eq, bg1_ne]
        refine r_iadd C d_Mc_begin_118 ?_
        refine p_Jb_takesUntil C hm (by omega) lk_Mc_123 d_Mc_begin_119 ?_
        exact R d_Mc_begin_122 (by rw [show i = (t 0 0).toNat by omega, hse, hwe]; rfl)
      · refine r_iload_n C d_Mc_begin_26 rfl ?_
        refine r_iload C d_Mc_begin_27 rfl ?_
        refine r_ishr C hs (by omega) d_Mc_begin_29 ?_
        refine r_iconst C d_Mc_begin_30 ?_
        refine r_iand C hs d_Mc_begin_31 ?_
        refine r_if_eq (tgt := 82) C d_Mc_begin_32 (by decide) (by first | assumption | exact bd_ir (by assumption) rfl | exact b2i_ir _ | exact pb_ir _ | exact ir_mk (by omega) (by omega)) (fun c32 => ?_) (fun c32 => ?_)
        · refine r_iinc_4 C d_Mc_begin_82 ?_
          refine r_goto (tgt := 17) C d_Mc_begin_85 (by decide) ?_
          have h := fun X => ih (i + 1) X (by omega) (by omega)
          rw [wnF_s] at h
          first
            | (rw [if_pos (by omega), ← bg1_y (by omega)] at h; exact h _)
            | (rw [if_neg (by omega), ← bg1_n (by omega)] at h; exact h _)
        · refine r_iload_n C d_Mc_begin_35 rfl ?_
          refine r_aload_n C d_Mc_begin_36 rfl ?_
          refine g_Mc_racks C hm lk_Mc_11 d_Mc_begin_37 ?_
          refine r_iload C d_Mc_begin_40 rfl ?_
          refine x_Rk C hm _ rfl (by omega) d_Mc_begin_42 ?_
          refine g_Rk_unused C hm (by omega) lk_Mc_90 d_Mc_begin_43 ?_
          rw [bg1_ne (by omega)]
          refine r_min C (by first | assumption | exact bd_ir (by assumption) rfl | exact b2i_ir _ | exact pb_ir _ | exact ir_mk (by omega) (by omega)) (by first | assumption | exact bd_ir (by assumption) rfl | exact b2i_ir _ | exact pb_ir _ | exact ir_mk (by omega) (by omega)) (by decide) ml_Mc_218 lw_Math_s lw_Math_i lw_Math_c (Nat.le_of_ble_eq_true rfl) d_Mc_begin_46 ?_
          refine r_istore_5 C d_Mc_begin_49 ?_
          refine r_aload_n C d_Mc_begin_51 rfl ?_
          refine g_Mc_racks C hm lk_Mc_11 d_Mc_begin_52 ?_
          refine r_iload C d_Mc_begin_55 rfl ?_
          refine x_Rk C hm _ rfl (by omega) d_Mc_begin_57 ?_
          refine r_dup C d_Mc_begin_58 rfl ?_
          refine g_Rk_unused C hm (by omega) lk_Mc_90 d_Mc_begin_59 ?_
          rw [bg1_ne (by omega)]
          refine r_iload C d_Mc_begin_62 rfl ?_
          refine r_isub C d_Mc_begin_64 ?_
          refine p_Rk_unused C hm (by omega) lk_Mc_90 d_Mc_begin_65 ?_
          refine r_aload_n C d_Mc_begin_68 rfl ?_
          refine g_Jb_nodesOn C hm (by omega) lk_Mc_113 d_Mc_begin_69 ?_
          refine r_iload C d_Mc_begin_72 rfl ?_
          refine r_iload C d_Mc_begin_74 rfl ?_
          refine st_On C hm (by omega) _ rfl (by omega) d_Mc_begin_76 ?_
          refine r_iload_n C d_Mc_begin_77 rfl ?_
          refine r_iload C d_Mc_begin_78 rfl ?_
          refine r_isub C d_Mc_begin_80 ?_
          refine r_istore_3 C d_Mc_begin_81 ?_
          refine r_iinc_4 C d_Mc_begin_82 ?_
          refine r_goto (tgt := 17) C d_Mc_begin_85 (by decide) ?_
          have h := fun X => ih (i + 1) X (by omega) (by omega)
          rw [wnF_s] at h
          first
            | (rw [if_pos (by omega), ← bg1_y (by omega)] at h; exact h _)
            | (rw [if_neg (by omega), ← bg1_n (by omega)] at h; exact h _)
  refine r_aload_n C d_Mc_begin_0 rfl ?_
  refine r_aload_n C d_Mc_begin_1 rfl ?_
  refine g_Jb_nodes C hm (by omega) lk_Mc_152 d_Mc_begin_2 ?_
  refine r_cV1r C (k_Mc_fewestRacks hm (bd_ir hB rfl) hB) (by decide) (by decide) ml_Mc_224 mn_Mc_fewestRacks ms_Mc_fewestRacks mc_Mc_fewestRacks mi_Mc_fewestRacks md_Mc_fewestRacks (kMc_lt hm) (zMc hm) rfl rfl (Nat.le_of_ble_eq_true rfl) d_Mc_begin_5 ?_
  refine r_istore_2 C d_Mc_begin_8 ?_
  rw [← hse]
  refine r_aload_n C d_Mc_begin_9 rfl ?_
  refine g_Jb_nodes C hm (by omega) lk_Mc_152 d_Mc_begin_10 ?_
  rw [← hwe]
  refine r_istore_3 C d_Mc_begin_13 ?_
  refine r_iconst C d_Mc_begin_14 ?_
  refine r_istore_4 C d_Mc_begin_15 ?_
  have h := hl ((t 0 0).toNat + 1) 0 none (by omega) (by omega)
  rw [bg1_0] at h
  exact h
end
