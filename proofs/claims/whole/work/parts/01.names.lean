-- ===== PART A: goes FIRST, ahead of the names: the tables' words, and 'selects' of the private methods out of them =====
/-- a private method of a class that the tables say can be made, by its rows of tables_1 -/
def lw_okq (q : MethodName × Nat) : Prop := (q.1.cls ≠ "java/lang/invoke/MethodHandle" ∧ q.1.cls ≠ "java/lang/invoke/VarHandle") ∧ Cond.instantiable q.1.cls q.2 ∈ tables_1 ∧ Cond.privateMethod q.1 ∈ tables_1 ∧ Cond.instanceMethod q.1 ∈ tables_1
theorem lw_p0 : lw_okq (⟨"DefectDrive", "bringIntoForce", "(LDefectDrive$Lists;)V"⟩, 11) := ⟨⟨by decide +kernel, by decide +kernel⟩, List.mem_of_getElem? (i := 19) (by decide +kernel), List.mem_of_getElem? (i := 168) (by decide +kernel), List.mem_of_getElem? (i := 169) (by decide +kernel)⟩
theorem lw_p1 : lw_okq (⟨"DefectDrive$SectorMap", "forget", "()V"⟩, 5) := ⟨⟨by decide +kernel, by decide +kernel⟩, List.mem_of_getElem? (i := 65) (by decide +kernel), List.mem_of_getElem? (i := 176) (by decide +kernel), List.mem_of_getElem? (i := 177) (by decide +kernel)⟩
theorem lw_p2 : lw_okq (⟨"DefectDrive$SectorMap", "numberSectors", "()V"⟩, 5) := ⟨⟨by decide +kernel, by decide +kernel⟩, List.mem_of_getElem? (i := 65) (by decide +kernel), List.mem_of_getElem? (i := 180) (by decide +kernel), List.mem_of_getElem? (i := 181) (by decide +kernel)⟩
theorem lw_p3 : lw_okq (⟨"DefectDrive$SectorMap", "redirect", "(II)V"⟩, 5) := ⟨⟨by decide +kernel, by decide +kernel⟩, List.mem_of_getElem? (i := 65) (by decide +kernel), List.mem_of_getElem? (i := 191) (by decide +kernel), List.mem_of_getElem? (i := 192) (by decide +kernel)⟩
theorem lw_p4 : lw_okq (⟨"java/lang/Throwable", "fillInStackTrace", "(I)Ljava/lang/Throwable;"⟩, 6) := ⟨⟨by decide +kernel, by decide +kernel⟩, List.mem_of_getElem? (i := 252) (by decide +kernel), List.mem_of_getElem? (i := 250) (by decide +kernel), List.mem_of_getElem? (i := 251) (by decide +kernel)⟩
theorem lw_p5 : lw_okq (⟨"DefectDrive", "countSlipped", "()I"⟩, 11) := ⟨⟨by decide +kernel, by decide +kernel⟩, List.mem_of_getElem? (i := 19) (by decide +kernel), List.mem_of_getElem? (i := 314) (by decide +kernel), List.mem_of_getElem? (i := 315) (by decide +kernel)⟩
theorem lw_p6 : lw_okq (⟨"DefectDrive", "isSlipped", "(I)Z"⟩, 11) := ⟨⟨by decide +kernel, by decide +kernel⟩, List.mem_of_getElem? (i := 19) (by decide +kernel), List.mem_of_getElem? (i := 318) (by decide +kernel), List.mem_of_getElem? (i := 319) (by decide +kernel)⟩
theorem lw_p7 : lw_okq (⟨"DefectDrive", "wipeGoodSectors", "()Z"⟩, 11) := ⟨⟨by decide +kernel, by decide +kernel⟩, List.mem_of_getElem? (i := 19) (by decide +kernel), List.mem_of_getElem? (i := 326) (by decide +kernel), List.mem_of_getElem? (i := 327) (by decide +kernel)⟩
theorem lw_p8 : lw_okq (⟨"DefectDrive", "draftSlipped", "()V"⟩, 11) := ⟨⟨by decide +kernel, by decide +kernel⟩, List.mem_of_getElem? (i := 19) (by decide +kernel), List.mem_of_getElem? (i := 342) (by decide +kernel), List.mem_of_getElem? (i := 343) (by decide +kernel)⟩
theorem lw_p9 : lw_okq (⟨"DefectDrive", "writeDraft", "()Z"⟩, 11) := ⟨⟨by decide +kernel, by decide +kernel⟩, List.mem_of_getElem? (i := 19) (by decide +kernel), List.mem_of_getElem? (i := 355) (by decide +kernel), List.mem_of_getElem? (i := 356) (by decide +kernel)⟩
theorem lw_p10 : lw_okq (⟨"DefectDrive", "nearestFreeSpare", "(I)I"⟩, 11) := ⟨⟨by decide +kernel, by decide +kernel⟩, List.mem_of_getElem? (i := 19) (by decide +kernel), List.mem_of_getElem? (i := 440) (by decide +kernel), List.mem_of_getElem? (i := 441) (by decide +kernel)⟩
theorem lw_p11 : lw_okq (⟨"DefectDrive", "isFreeSpare", "(I)Z"⟩, 11) := ⟨⟨by decide +kernel, by decide +kernel⟩, List.mem_of_getElem? (i := 19) (by decide +kernel), List.mem_of_getElem? (i := 450) (by decide +kernel), List.mem_of_getElem? (i := 451) (by decide +kernel)⟩
theorem lw_p12 : lw_okq (⟨"DefectDriveModel", "pairOfFirst", "(I)I"⟩, 18) := ⟨⟨by decide +kernel, by decide +kernel⟩, List.mem_of_getElem? (i := 534) (by decide +kernel), List.mem_of_getElem? (i := 613) (by decide +kernel), List.mem_of_getElem? (i := 614) (by decide +kernel)⟩
theorem lw_p13 : lw_okq (⟨"DefectDriveModel", "writesOne", "()Z"⟩, 18) := ⟨⟨by decide +kernel, by decide +kernel⟩, List.mem_of_getElem? (i := 534) (by decide +kernel), List.mem_of_getElem? (i := 617) (by decide +kernel), List.mem_of_getElem? (i := 618) (by decide +kernel)⟩
theorem lw_p14 : lw_okq (⟨"DefectDriveModel", "writesLists", "()Z"⟩, 18) := ⟨⟨by decide +kernel, by decide +kernel⟩, List.mem_of_getElem? (i := 534) (by decide +kernel), List.mem_of_getElem? (i := 621) (by decide +kernel), List.mem_of_getElem? (i := 622) (by decide +kernel)⟩
theorem lw_p15 : lw_okq (⟨"DefectDriveModel", "copyLists", "(II)V"⟩, 18) := ⟨⟨by decide +kernel, by decide +kernel⟩, List.mem_of_getElem? (i := 534) (by decide +kernel), List.mem_of_getElem? (i := 625) (by decide +kernel), List.mem_of_getElem? (i := 626) (by decide +kernel)⟩
def lw_privs_1 : List (MethodName × Nat) := [(⟨"DefectDrive", "bringIntoForce", "(LDefectDrive$Lists;)V"⟩, 11), (⟨"DefectDrive$SectorMap", "forget", "()V"⟩, 5), (⟨"DefectDrive$SectorMap", "numberSectors", "()V"⟩, 5), (⟨"DefectDrive$SectorMap", "redirect", "(II)V"⟩, 5), (⟨"java/lang/Throwable", "fillInStackTrace", "(I)Ljava/lang/Throwable;"⟩, 6), (⟨"DefectDrive", "countSlipped", "()I"⟩, 11), (⟨"DefectDrive", "isSlipped", "(I)Z"⟩, 11), (⟨"DefectDrive", "wipeGoodSectors", "()Z"⟩, 11), (⟨"DefectDrive", "draftSlipped", "()V"⟩, 11), (⟨"DefectDrive", "writeDraft", "()Z"⟩, 11), (⟨"DefectDrive", "nearestFreeSpare", "(I)I"⟩, 11), (⟨"DefectDrive", "isFreeSpare", "(I)Z"⟩, 11), (⟨"DefectDriveModel", "pairOfFirst", "(I)I"⟩, 18), (⟨"DefectDriveModel", "writesOne", "()Z"⟩, 18), (⟨"DefectDriveModel", "writesLists", "()Z"⟩, 18), (⟨"DefectDriveModel", "copyLists", "(II)V"⟩, 18)]
theorem lw_r1 : ∀ q ∈ lw_privs_1, lw_okq q := List.forall_mem_cons.mpr ⟨lw_p0, List.forall_mem_cons.mpr ⟨lw_p1, List.forall_mem_cons.mpr ⟨lw_p2, List.forall_mem_cons.mpr ⟨lw_p3, List.forall_mem_cons.mpr ⟨lw_p4, List.forall_mem_cons.mpr ⟨lw_p5, List.forall_mem_cons.mpr ⟨lw_p6, List.forall_mem_cons.mpr ⟨lw_p7, List.forall_mem_cons.mpr ⟨lw_p8, List.forall_mem_cons.mpr ⟨lw_p9, List.forall_mem_cons.mpr ⟨lw_p10, List.forall_mem_cons.mpr ⟨lw_p11, List.forall_mem_cons.mpr ⟨lw_p12, List.forall_mem_cons.mpr ⟨lw_p13, List.forall_mem_cons.mpr ⟨lw_p14, List.forall_mem_cons.mpr ⟨lw_p15, fun _ h => absurd h List.not_mem_nil⟩⟩⟩⟩⟩⟩⟩⟩⟩⟩⟩⟩⟩⟩⟩⟩
theorem lw_p16 : lw_okq (⟨"DefectDriveModel", "capacity", "()I"⟩, 18) := ⟨⟨by decide +kernel, by decide +kernel⟩, List.mem_of_getElem? (i := 534) (by decide +kernel), List.mem_of_getElem? (i := 629) (by decide +kernel), List.mem_of_getElem? (i := 630) (by decide +kernel)⟩
theorem lw_p17 : lw_okq (⟨"DefectDriveModel", "isLogical", "(I)Z"⟩, 18) := ⟨⟨by decide +kernel, by decide +kernel⟩, List.mem_of_getElem? (i := 534) (by decide +kernel), List.mem_of_getElem? (i := 633) (by decide +kernel), List.mem_of_getElem? (i := 634) (by decide +kernel)⟩
theorem lw_p18 : lw_okq (⟨"DefectDriveModel", "isPrimary", "(I)Z"⟩, 18) := ⟨⟨by decide +kernel, by decide +kernel⟩, List.mem_of_getElem? (i := 534) (by decide +kernel), List.mem_of_getElem? (i := 640) (by decide +kernel), List.mem_of_getElem? (i := 641) (by decide +kernel)⟩
theorem lw_p19 : lw_okq (⟨"DefectDriveModel", "hasLogical", "(I)Z"⟩, 18) := ⟨⟨by decide +kernel, by decide +kernel⟩, List.mem_of_getElem? (i := 534) (by decide +kernel), List.mem_of_getElem? (i := 648) (by decide +kernel), List.mem_of_getElem? (i := 649) (by decide +kernel)⟩
theorem lw_p20 : lw_okq (⟨"DefectDriveModel", "placeOf", "(I)I"⟩, 18) := ⟨⟨by decide +kernel, by decide +kernel⟩, List.mem_of_getElem? (i := 534) (by decide +kernel), List.mem_of_getElem? (i := 652) (by decide +kernel), List.mem_of_getElem? (i := 653) (by decide +kernel)⟩
theorem lw_p21 : lw_okq (⟨"DefectDriveModel", "ownOf", "(I)I"⟩, 18) := ⟨⟨by decide +kernel, by decide +kernel⟩, List.mem_of_getElem? (i := 534) (by decide +kernel), List.mem_of_getElem? (i := 656) (by decide +kernel), List.mem_of_getElem? (i := 657) (by decide +kernel)⟩
theorem lw_p22 : lw_okq (⟨"DefectDriveModel", "nearest", "(I)I"⟩, 18) := ⟨⟨by decide +kernel, by decide +kernel⟩, List.mem_of_getElem? (i := 534) (by decide +kernel), List.mem_of_getElem? (i := 668) (by decide +kernel), List.mem_of_getElem? (i := 669) (by decide +kernel)⟩
theorem lw_p23 : lw_okq (⟨"DefectDriveModel", "isFreeSpare", "(I)Z"⟩, 18) := ⟨⟨by decide +kernel, by decide +kernel⟩, List.mem_of_getElem? (i := 534) (by decide +kernel), List.mem_of_getElem? (i := 672) (by decide +kernel), List.mem_of_getElem? (i := 673) (by decide +kernel)⟩
theorem lw_p24 : lw_okq (⟨"DefectDriveModel", "pairOfSpare", "(I)I"⟩, 18) := ⟨⟨by decide +kernel, by decide +kernel⟩, List.mem_of_getElem? (i := 534) (by decide +kernel), List.mem_of_getElem? (i := 676) (by decide +kernel), List.mem_of_getElem? (i := 677) (by decide +kernel)⟩
def lw_privs_2 : List (MethodName × Nat) := [(⟨"DefectDriveModel", "capacity", "()I"⟩, 18), (⟨"DefectDriveModel", "isLogical", "(I)Z"⟩, 18), (⟨"DefectDriveModel", "isPrimary", "(I)Z"⟩, 18), (⟨"DefectDriveModel", "hasLogical", "(I)Z"⟩, 18), (⟨"DefectDriveModel", "placeOf", "(I)I"⟩, 18), (⟨"DefectDriveModel", "ownOf", "(I)I"⟩, 18), (⟨"DefectDriveModel", "nearest", "(I)I"⟩, 18), (⟨"DefectDriveModel", "isFreeSpare", "(I)Z"⟩, 18), (⟨"DefectDriveModel", "pairOfSpare", "(I)I"⟩, 18)]
theorem lw_r2 : ∀ q ∈ lw_privs_2, lw_okq q := List.forall_mem_cons.mpr ⟨lw_p16, List.forall_mem_cons.mpr ⟨lw_p17, List.forall_mem_cons.mpr ⟨lw_p18, List.forall_mem_cons.mpr ⟨lw_p19, List.forall_mem_cons.mpr ⟨lw_p20, List.forall_mem_cons.mpr ⟨lw_p21, List.forall_mem_cons.mpr ⟨lw_p22, List.forall_mem_cons.mpr ⟨lw_p23, List.forall_mem_cons.mpr ⟨lw_p24, fun _ h => absurd h List.not_mem_nil⟩⟩⟩⟩⟩⟩⟩⟩⟩
def lw_privs : List (MethodName × Nat) := lw_privs_1 ++ (lw_privs_2)
def lw_tbl : List Cond := k2_sels lw_privs ++ tables_1
theorem lw_privs_ok : ∀ q ∈ lw_privs, lw_okq q := by
  show ∀ q ∈ lw_privs_1 ++ (lw_privs_2), lw_okq q
  exact List.forall_mem_append.mpr ⟨lw_r1, lw_r2⟩
def R_law : String := "DefectDriveLaw"
/-- the words of the tables that every state of a run keeps -/
def lw_g : List Cond := lw_tbl.filter goodWord
theorem gd_tbl : GoodIn lw_g lw_g := fun w hw => ⟨hw, good_of_word (List.mem_filter.mp hw).2⟩
def nz_is : Cond → Bool
  | .fieldLinkNest .. => true
  | .methodLinkNest .. => true
  | .declares .. => true
  | .castable .. => true
  | _ => false
/-- the links of nest mates: they are carried from call to call -/
def nz_l : List Cond := lw_tbl.filter nz_is
def nz_N (U : State) : Prop := ∀ w ∈ nz_l, va_Nw w U
theorem nz_N.warm {s U : State} (hW : s.WarmedH U.vm) (h : nz_N s) : nz_N U := by
  intro w hw
  have h1 := h w hw
  have h2 := (List.mem_filter.mp hw).2
  cases w <;> first | exact absurd h2 (by decide) | exact va_Nw.warmF hW h1 | exact va_Nw.warmM hW h1 | exact va_Nw.warmD hW h1 | exact va_Nw.warmC hW h1 | (exfalso; cases h2)
theorem nz_N.calling {U : State} {g : JFrame} {mk : MethodId} {a : Array Value} (h : nz_N U) : nz_N (U.calling g mk a) := by
  intro w hw
  have h1 := h w hw
  have h2 := (List.mem_filter.mp hw).2
  cases w <;> first | exact va_Nw.same rfl rfl h1 | (exfalso; cases h2)
theorem nz_ot {w : Cond} (h : w ∈ nz_l) : w.onTables = true := by
  have h2 := (List.mem_filter.mp h).2
  cases w <;> first | rfl | (exfalso; cases h2)
theorem gd_in {w : Cond} (h : w ∈ lw_g) : w ∈ lw_tbl := (List.mem_filter.mp h).1
def R_Lists : String := "DefectDrive$Lists"
def F_Lists : u_T := fun k => match k with
  | 0 => ("DefectDrive$Lists", "version", "I", false)
  | 1 => ("DefectDrive$Lists", "closed", "Z", false)
  | 2 => ("DefectDrive$Lists", "primaries", "I", false)
  | 3 => ("DefectDrive$Lists", "pairs", "I", false)
  | 4 => ("DefectDrive$Lists", "sector", "[I", true)
  | _ => ("DefectDrive$Lists", "standIn", "[I", true)
def t_Lists : Nat → FieldType := fun k => match k with
  | 0 => .int
  | 1 => .boolean
  | 2 => .int
  | 3 => .int
  | 4 => .array .int
  | _ => .array .int
theorem n_Lists : ∀ a, a < 6 → ∀ b, b < 6 → a ≠ b → (F_Lists a).2.1 ≠ (F_Lists b).2.1 := by decide +kernel
theorem t_Lists_ok : ∀ k, k < 6 → parseFieldDescriptor (F_Lists k).2.2.1 = some (t_Lists k) := by decide +kernel
theorem i_Lists : ∀ w ∈ u_ws R_Lists F_Lists 6, w ∈ lw_g := by decide +kernel
def R_Power : String := "DefectDrive$Power"
def F_Power : u_T := fun k => match k with
  | 0 => ("DefectDrive$Power", "off", "Z", false)
  | 1 => ("DefectDrive$Power", "writesLeft", "I", false)
  | _ => ("DefectDrive$Power", "writesDone", "I", false)
def t_Power : Nat → FieldType := fun k => match k with
  | 0 => .boolean
  | 1 => .int
  | _ => .int
theorem n_Power : ∀ a, a < 3 → ∀ b, b < 3 → a ≠ b → (F_Power a).2.1 ≠ (F_Power b).2.1 := by decide +kernel
theorem t_Power_ok : ∀ k, k < 3 → parseFieldDescriptor (F_Power k).2.2.1 = some (t_Power k) := by decide +kernel
theorem i_Power : ∀ w ∈ u_ws R_Power F_Power 3, w ∈ lw_g := by decide +kernel
def R_SectorMap : String := "DefectDrive$SectorMap"
def F_SectorMap : u_T := fun k => match k with
  | 0 => ("DefectDrive$SectorMap", "capacity", "I", false)
  | 1 => ("DefectDrive$SectorMap", "own", "[I", true)
  | 2 => ("DefectDrive$SectorMap", "place", "[I", true)
  | 3 => ("DefectDrive$SectorMap", "logicalAt", "[I", true)
  | _ => ("DefectDrive$SectorMap", "isPrimary", "[Z", true)
def t_SectorMap : Nat → FieldType := fun k => match k with
  | 0 => .int
  | 1 => .array .int
  | 2 => .array .int
  | 3 => .array .int
  | _ => .array .boolean
theorem n_SectorMap : ∀ a, a < 5 → ∀ b, b < 5 → a ≠ b → (F_SectorMap a).2.1 ≠ (F_SectorMap b).2.1 := by decide +kernel
theorem t_SectorMap_ok : ∀ k, k < 5 → parseFieldDescriptor (F_SectorMap k).2.2.1 = some (t_SectorMap k) := by decide +kernel
theorem i_SectorMap : ∀ w ∈ u_ws R_SectorMap F_SectorMap 5, w ∈ lw_g := by decide +kernel
def R_Surface : String := "DefectDrive$Surface"
def F_Surface : u_T := fun k => match k with
  | 0 => ("DefectDrive$Surface", "condition", "[I", true)
  | 1 => ("DefectDrive$Surface", "word", "[I", true)
  | _ => ("DefectDrive$Surface", "lost", "[Z", true)
def t_Surface : Nat → FieldType := fun k => match k with
  | 0 => .array .int
  | 1 => .array .int
  | _ => .array .boolean
theorem n_Surface : ∀ a, a < 3 → ∀ b, b < 3 → a ≠ b → (F_Surface a).2.1 ≠ (F_Surface b).2.1 := by decide +kernel
theorem t_Surface_ok : ∀ k, k < 3 → parseFieldDescriptor (F_Surface k).2.2.1 = some (t_Surface k) := by decide +kernel
theorem i_Surface : ∀ w ∈ u_ws R_Surface F_Surface 3, w ∈ lw_g := by decide +kernel
def R_DefectDrive : String := "DefectDrive"
def F_DefectDrive : u_T := fun k => match k with
  | 0 => ("DefectDrive", "power", "LDefectDrive$Power;", true)
  | 1 => ("DefectDrive", "surface", "LDefectDrive$Surface;", true)
  | 2 => ("DefectDrive", "map", "LDefectDrive$SectorMap;", true)
  | 3 => ("DefectDrive", "noLists", "LDefectDrive$Lists;", true)
  | 4 => ("DefectDrive", "copyA", "LDefectDrive$Lists;", true)
  | 5 => ("DefectDrive", "copyB", "LDefectDrive$Lists;", true)
  | 6 => ("DefectDrive", "draft", "LDefectDrive$Lists;", true)
  | 7 => ("DefectDrive", "inForce", "LDefectDrive$Lists;", false)
  | 8 => ("DefectDrive", "factoryDefect", "[Z", true)
  | 9 => ("DefectDrive", "factoryDefects", "I", false)
  | _ => ("DefectDrive", "formatted", "Z", false)
def t_DefectDrive : Nat → FieldType := fun k => match k with
  | 0 => .object "DefectDrive$Power"
  | 1 => .object "DefectDrive$Surface"
  | 2 => .object "DefectDrive$SectorMap"
  | 3 => .object "DefectDrive$Lists"
  | 4 => .object "DefectDrive$Lists"
  | 5 => .object "DefectDrive$Lists"
  | 6 => .object "DefectDrive$Lists"
  | 7 => .object "DefectDrive$Lists"
  | 8 => .array .boolean
  | 9 => .int
  | _ => .boolean
theorem n_DefectDrive : ∀ a, a < 11 → ∀ b, b < 11 → a ≠ b → (F_DefectDrive a).2.1 ≠ (F_DefectDrive b).2.1 := by decide +kernel
theorem t_DefectDrive_ok : ∀ k, k < 11 → parseFieldDescriptor (F_DefectDrive k).2.2.1 = some (t_DefectDrive k) := by decide +kernel
theorem i_DefectDrive : ∀ w ∈ u_ws R_DefectDrive F_DefectDrive 11, w ∈ lw_g := by decide +kernel
def R_Model : String := "DefectDriveModel"
def F_Model : u_T := fun k => match k with
  | 0 => ("DefectDriveModel", "code", "I", false)
  | 1 => ("DefectDriveModel", "words", "[I", true)
  | 2 => ("DefectDriveModel", "lost", "[Z", true)
  | 3 => ("DefectDriveModel", "states", "[I", true)
  | 4 => ("DefectDriveModel", "factories", "[Z", true)
  | 5 => ("DefectDriveModel", "factoryCount", "I", false)
  | 6 => ("DefectDriveModel", "formatted", "Z", false)
  | 7 => ("DefectDriveModel", "off", "Z", false)
  | 8 => ("DefectDriveModel", "lasts", "I", false)
  | 9 => ("DefectDriveModel", "writes", "I", false)
  | 10 => ("DefectDriveModel", "versions", "[I", true)
  | 11 => ("DefectDriveModel", "closed", "[Z", true)
  | 12 => ("DefectDriveModel", "primaries", "[I", true)
  | 13 => ("DefectDriveModel", "primaryRow", "[I", true)
  | 14 => ("DefectDriveModel", "pairs", "[I", true)
  | 15 => ("DefectDriveModel", "firsts", "[I", true)
  | 16 => ("DefectDriveModel", "spareOf", "[I", true)
  | _ => ("DefectDriveModel", "marked", "[Z", true)
def t_Model : Nat → FieldType := fun k => match k with
  | 0 => .int
  | 1 => .array .int
  | 2 => .array .boolean
  | 3 => .array .int
  | 4 => .array .boolean
  | 5 => .int
  | 6 => .boolean
  | 7 => .boolean
  | 8 => .int
  | 9 => .int
  | 10 => .array .int
  | 11 => .array .boolean
  | 12 => .array .int
  | 13 => .array .int
  | 14 => .array .int
  | 15 => .array .int
  | 16 => .array .int
  | _ => .array .boolean
theorem n_Model : ∀ a, a < 18 → ∀ b, b < 18 → a ≠ b → (F_Model a).2.1 ≠ (F_Model b).2.1 := by decide +kernel
theorem t_Model_ok : ∀ k, k < 18 → parseFieldDescriptor (F_Model k).2.2.1 = some (t_Model k) := by decide +kernel
theorem i_Model : ∀ w ∈ u_ws R_Model F_Model 18, w ∈ lw_g := by decide +kernel
def R_Arrays : String := "java/util/Arrays"
def R_Math : String := "java/lang/Math"
def R_System : String := "java/lang/System"
abbrev classes : List vw_C := [(R_Lists, F_Lists, 6), (R_Power, F_Power, 3), (R_SectorMap, F_SectorMap, 5), (R_Surface, F_Surface, 3), (R_DefectDrive, F_DefectDrive, 11), (R_Model, F_Model, 18)]
abbrev b_DefectDrive_init : ByteArray := prog_1_method_1_code
def y_DefectDrive_init : MethodName := ⟨R_DefectDrive, "<init>", "()V"⟩
abbrev b_Power_init : ByteArray := prog_3_method_1_code
def y_Power_init : MethodName := ⟨R_Power, "<init>", "()V"⟩
abbrev b_Surface_init : ByteArray := prog_5_method_1_code
def y_Surface_init : MethodName := ⟨R_Surface, "<init>", "()V"⟩
abbrev b_SectorMap_init : ByteArray := prog_4_method_1_code
def y_SectorMap_init : MethodName := ⟨R_SectorMap, "<init>", "()V"⟩
abbrev b_Arrays_fill : ByteArray := prog_17_method_103_code
def y_Arrays_fill : MethodName := ⟨R_Arrays, "fill", "([II)V"⟩
abbrev b_Lists_init : ByteArray := prog_2_method_1_code
def y_Lists_init : MethodName := ⟨R_Lists, "<init>", "()V"⟩
abbrev b_DefectDrive_start : ByteArray := prog_1_method_9_code
def y_DefectDrive_start : MethodName := ⟨R_DefectDrive, "start", "()I"⟩
abbrev b_DefectDrive_bringIntoForce : ByteArray := prog_1_method_29_code
def y_DefectDrive_bringIntoForce : MethodName := ⟨R_DefectDrive, "bringIntoForce", "(LDefectDrive$Lists;)V"⟩
abbrev b_SectorMap_follow : ByteArray := prog_4_method_3_code
def y_SectorMap_follow : MethodName := ⟨R_SectorMap, "follow", "(LDefectDrive$Lists;)V"⟩
abbrev b_SectorMap_forget : ByteArray := prog_4_method_4_code
def y_SectorMap_forget : MethodName := ⟨R_SectorMap, "forget", "()V"⟩
abbrev b_SectorMap_numberSectors : ByteArray := prog_4_method_5_code
def y_SectorMap_numberSectors : MethodName := ⟨R_SectorMap, "numberSectors", "()V"⟩
abbrev b_DefectDrive_isSpare : ByteArray := prog_1_method_21_code
def y_DefectDrive_isSpare : MethodName := ⟨R_DefectDrive, "isSpare", "(I)Z"⟩
abbrev b_Lists_entries : ByteArray := prog_2_method_2_code
def y_Lists_entries : MethodName := ⟨R_Lists, "entries", "()I"⟩
abbrev b_SectorMap_redirect : ByteArray := prog_4_method_6_code
def y_SectorMap_redirect : MethodName := ⟨R_SectorMap, "redirect", "(II)V"⟩
abbrev b_DefectDrive_told : ByteArray := prog_1_method_17_code
def y_DefectDrive_told : MethodName := ⟨R_DefectDrive, "told", "(I)I"⟩
abbrev b_law_factory : ByteArray := method_3_code
def y_law_factory : MethodName := ⟨R_law, "factory", "(LDefectDrive;I[J)I"⟩
abbrev b_DefectDrive_factory : ByteArray := prog_1_method_2_code
def y_DefectDrive_factory : MethodName := ⟨R_DefectDrive, "factory", "(I)I"⟩
abbrev b_DefectDrive_isSector : ByteArray := prog_1_method_18_code
def y_DefectDrive_isSector : MethodName := ⟨R_DefectDrive, "isSector", "(I)Z"⟩
abbrev b_law_format : ByteArray := method_4_code
def y_law_format : MethodName := ⟨R_law, "format", "(LDefectDrive;[J)I"⟩
abbrev b_DefectDrive_format : ByteArray := prog_1_method_3_code
def y_DefectDrive_format : MethodName := ⟨R_DefectDrive, "format", "()I"⟩
abbrev b_DefectDrive_countSlipped : ByteArray := prog_1_method_23_code
def y_DefectDrive_countSlipped : MethodName := ⟨R_DefectDrive, "countSlipped", "()I"⟩
abbrev b_DefectDrive_isSlipped : ByteArray := prog_1_method_22_code
def y_DefectDrive_isSlipped : MethodName := ⟨R_DefectDrive, "isSlipped", "(I)Z"⟩
abbrev b_Lists_pairOf : ByteArray := prog_2_method_3_code
def y_Lists_pairOf : MethodName := ⟨R_Lists, "pairOf", "(I)I"⟩
abbrev b_DefectDrive_wipeGoodSectors : ByteArray := prog_1_method_25_code
def y_DefectDrive_wipeGoodSectors : MethodName := ⟨R_DefectDrive, "wipeGoodSectors", "()Z"⟩
abbrev b_Power_lastsForOneWrite : ByteArray := prog_3_method_2_code
def y_Power_lastsForOneWrite : MethodName := ⟨R_Power, "lastsForOneWrite", "()Z"⟩
abbrev b_Surface_wipe : ByteArray := prog_5_method_5_code
def y_Surface_wipe : MethodName := ⟨R_Surface, "wipe", "(I)V"⟩
abbrev b_Surface_put : ByteArray := prog_5_method_4_code
def y_Surface_put : MethodName := ⟨R_Surface, "put", "(III)V"⟩
abbrev b_DefectDrive_draftSlipped : ByteArray := prog_1_method_24_code
def y_DefectDrive_draftSlipped : MethodName := ⟨R_DefectDrive, "draftSlipped", "()V"⟩
abbrev b_Lists_becomeEmpty : ByteArray := prog_2_method_5_code
def y_Lists_becomeEmpty : MethodName := ⟨R_Lists, "becomeEmpty", "(I)V"⟩
abbrev b_Lists_addPrimary : ByteArray := prog_2_method_6_code
def y_Lists_addPrimary : MethodName := ⟨R_Lists, "addPrimary", "(I)V"⟩
abbrev b_DefectDrive_writeDraft : ByteArray := prog_1_method_28_code
def y_DefectDrive_writeDraft : MethodName := ⟨R_DefectDrive, "writeDraft", "()Z"⟩
abbrev b_Lists_begin : ByteArray := prog_2_method_8_code
def y_Lists_begin : MethodName := ⟨R_Lists, "begin", "(LDefectDrive$Lists;)V"⟩
abbrev b_Lists_takePart : ByteArray := prog_2_method_9_code
def y_Lists_takePart : MethodName := ⟨R_Lists, "takePart", "(LDefectDrive$Lists;I)V"⟩
abbrev b_law_write : ByteArray := method_5_code
def y_law_write : MethodName := ⟨R_law, "write", "(LDefectDrive;III[J)I"⟩
abbrev b_DefectDrive_write : ByteArray := prog_1_method_4_code
def y_DefectDrive_write : MethodName := ⟨R_DefectDrive, "write", "(III)I"⟩
abbrev b_SectorMap_holds : ByteArray := prog_4_method_2_code
def y_SectorMap_holds : MethodName := ⟨R_SectorMap, "holds", "(I)Z"⟩
abbrev b_DefectDrive_isWord : ByteArray := prog_1_method_19_code
def y_DefectDrive_isWord : MethodName := ⟨R_DefectDrive, "isWord", "(I)Z"⟩
abbrev b_law_read : ByteArray := method_6_code
def y_law_read : MethodName := ⟨R_law, "read", "(LDefectDrive;II[J)I"⟩
abbrev b_DefectDrive_read : ByteArray := prog_1_method_5_code
def y_DefectDrive_read : MethodName := ⟨R_DefectDrive, "read", "(II)I"⟩
abbrev b_Surface_isLost : ByteArray := prog_5_method_3_code
def y_Surface_isLost : MethodName := ⟨R_Surface, "isLost", "(II)Z"⟩
abbrev b_Surface_wordOf : ByteArray := prog_5_method_2_code
def y_Surface_wordOf : MethodName := ⟨R_Surface, "wordOf", "(II)I"⟩
abbrev b_law_reassign : ByteArray := method_7_code
def y_law_reassign : MethodName := ⟨R_law, "reassign", "(LDefectDrive;I[J)I"⟩
abbrev b_DefectDrive_reassign : ByteArray := prog_1_method_6_code
def y_DefectDrive_reassign : MethodName := ⟨R_DefectDrive, "reassign", "(I)I"⟩
abbrev b_DefectDrive_nearestFreeSpare : ByteArray := prog_1_method_27_code
def y_DefectDrive_nearestFreeSpare : MethodName := ⟨R_DefectDrive, "nearestFreeSpare", "(I)I"⟩
abbrev b_DefectDrive_cylinderOf : ByteArray := prog_1_method_20_code
def y_DefectDrive_cylinderOf : MethodName := ⟨R_DefectDrive, "cylinderOf", "(I)I"⟩
abbrev b_DefectDrive_isFreeSpare : ByteArray := prog_1_method_26_code
def y_DefectDrive_isFreeSpare : MethodName := ⟨R_DefectDrive, "isFreeSpare", "(I)Z"⟩
abbrev b_Lists_hasRoomForPairOf : ByteArray := prog_2_method_4_code
def y_Lists_hasRoomForPairOf : MethodName := ⟨R_Lists, "hasRoomForPairOf", "(I)Z"⟩
abbrev b_Surface_move : ByteArray := prog_5_method_6_code
def y_Surface_move : MethodName := ⟨R_Surface, "move", "(II)V"⟩
abbrev b_Lists_becomeWithPair : ByteArray := prog_2_method_7_code
def y_Lists_becomeWithPair : MethodName := ⟨R_Lists, "becomeWithPair", "(LDefectDrive$Lists;II)V"⟩
abbrev b_law_spoil : ByteArray := method_8_code
def y_law_spoil : MethodName := ⟨R_law, "spoil", "(LDefectDrive;IZ[J)I"⟩
abbrev b_DefectDrive_spoil : ByteArray := prog_1_method_7_code
def y_DefectDrive_spoil : MethodName := ⟨R_DefectDrive, "spoil", "(IZ)I"⟩
abbrev b_law_cutAfter : ByteArray := method_9_code
def y_law_cutAfter : MethodName := ⟨R_law, "cutAfter", "(LDefectDrive;I[J)I"⟩
abbrev b_DefectDrive_cutAfter : ByteArray := prog_1_method_8_code
def y_DefectDrive_cutAfter : MethodName := ⟨R_DefectDrive, "cutAfter", "(I)I"⟩
abbrev b_law_physical : ByteArray := method_10_code
def y_law_physical : MethodName := ⟨R_law, "physical", "(LDefectDrive;I[J)I"⟩
abbrev b_DefectDrive_physical : ByteArray := prog_1_method_10_code
def y_DefectDrive_physical : MethodName := ⟨R_DefectDrive, "physical", "(I)I"⟩
abbrev b_law_logical : ByteArray := method_11_code
def y_law_logical : MethodName := ⟨R_law, "logical", "(LDefectDrive;I[J)I"⟩
abbrev b_DefectDrive_logical : ByteArray := prog_1_method_11_code
def y_DefectDrive_logical : MethodName := ⟨R_DefectDrive, "logical", "(I)I"⟩
abbrev b_law_spares : ByteArray := method_12_code
def y_law_spares : MethodName := ⟨R_law, "spares", "(LDefectDrive;I[J)I"⟩
abbrev b_DefectDrive_spares : ByteArray := prog_1_method_12_code
def y_DefectDrive_spares : MethodName := ⟨R_DefectDrive, "spares", "(I)I"⟩
abbrev b_law_grown : ByteArray := method_13_code
def y_law_grown : MethodName := ⟨R_law, "grown", "(LDefectDrive;IZ[J)I"⟩
abbrev b_DefectDrive_grown : ByteArray := prog_1_method_13_code
def y_DefectDrive_grown : MethodName := ⟨R_DefectDrive, "grown", "(IZ)I"⟩
abbrev b_law_primary : ByteArray := method_14_code
def y_law_primary : MethodName := ⟨R_law, "primary", "(LDefectDrive;I[J)I"⟩
abbrev b_DefectDrive_primary : ByteArray := prog_1_method_14_code
def y_DefectDrive_primary : MethodName := ⟨R_DefectDrive, "primary", "(I)I"⟩
abbrev b_law_seeks : ByteArray := method_15_code
def y_law_seeks : MethodName := ⟨R_law, "seeks", "(LDefectDrive;II[J)I"⟩
abbrev b_DefectDrive_seeks : ByteArray := prog_1_method_15_code
def y_DefectDrive_seeks : MethodName := ⟨R_DefectDrive, "seeks", "(II)I"⟩
abbrev b_law_state : ByteArray := method_16_code
def y_law_state : MethodName := ⟨R_law, "state", "(LDefectDrive;I[J)I"⟩
abbrev b_DefectDrive_state : ByteArray := prog_1_method_16_code
def y_DefectDrive_state : MethodName := ⟨R_DefectDrive, "state", "(I)I"⟩
abbrev b_Model_init : ByteArray := prog_7_method_1_code
def y_Model_init : MethodName := ⟨R_Model, "<init>", "()V"⟩
abbrev b_Model_thrown : ByteArray := prog_7_method_2_code
def y_Model_thrown : MethodName := ⟨R_Model, "thrown", "()I"⟩
abbrev b_Model_factory : ByteArray := prog_7_method_18_code
def y_Model_factory : MethodName := ⟨R_Model, "factory", "(I)I"⟩
abbrev b_Model_isSector : ByteArray := prog_7_method_4_code
def y_Model_isSector : MethodName := ⟨R_Model, "isSector", "(I)Z"⟩
abbrev b_Model_in : ByteArray := prog_7_method_3_code
def y_Model_in : MethodName := ⟨R_Model, "in", "(III)Z"⟩
abbrev b_Model_format : ByteArray := prog_7_method_19_code
def y_Model_format : MethodName := ⟨R_Model, "format", "()I"⟩
abbrev b_Model_pairOfFirst : ByteArray := prog_7_method_8_code
def y_Model_pairOfFirst : MethodName := ⟨R_Model, "pairOfFirst", "(I)I"⟩
abbrev b_Model_writesOne : ByteArray := prog_7_method_15_code
def y_Model_writesOne : MethodName := ⟨R_Model, "writesOne", "()Z"⟩
abbrev b_Model_writesLists : ByteArray := prog_7_method_17_code
def y_Model_writesLists : MethodName := ⟨R_Model, "writesLists", "()Z"⟩
abbrev b_Model_copyLists : ByteArray := prog_7_method_16_code
def y_Model_copyLists : MethodName := ⟨R_Model, "copyLists", "(II)V"⟩
abbrev b_Model_capacity : ByteArray := prog_7_method_10_code
def y_Model_capacity : MethodName := ⟨R_Model, "capacity", "()I"⟩
abbrev b_Model_isLogical : ByteArray := prog_7_method_9_code
def y_Model_isLogical : MethodName := ⟨R_Model, "isLogical", "(I)Z"⟩
abbrev b_Model_isSpare : ByteArray := prog_7_method_5_code
def y_Model_isSpare : MethodName := ⟨R_Model, "isSpare", "(I)Z"⟩
abbrev b_Model_isPrimary : ByteArray := prog_7_method_6_code
def y_Model_isPrimary : MethodName := ⟨R_Model, "isPrimary", "(I)Z"⟩
abbrev b_Model_write : ByteArray := prog_7_method_20_code
def y_Model_write : MethodName := ⟨R_Model, "write", "(III)I"⟩
abbrev b_Model_hasLogical : ByteArray := prog_7_method_11_code
def y_Model_hasLogical : MethodName := ⟨R_Model, "hasLogical", "(I)Z"⟩
abbrev b_Model_placeOf : ByteArray := prog_7_method_13_code
def y_Model_placeOf : MethodName := ⟨R_Model, "placeOf", "(I)I"⟩
abbrev b_Model_ownOf : ByteArray := prog_7_method_12_code
def y_Model_ownOf : MethodName := ⟨R_Model, "ownOf", "(I)I"⟩
abbrev b_Model_read : ByteArray := prog_7_method_21_code
def y_Model_read : MethodName := ⟨R_Model, "read", "(II)I"⟩
abbrev b_Model_reassign : ByteArray := prog_7_method_23_code
def y_Model_reassign : MethodName := ⟨R_Model, "reassign", "(I)I"⟩
abbrev b_Model_nearest : ByteArray := prog_7_method_22_code
def y_Model_nearest : MethodName := ⟨R_Model, "nearest", "(I)I"⟩
abbrev b_Model_isFreeSpare : ByteArray := prog_7_method_14_code
def y_Model_isFreeSpare : MethodName := ⟨R_Model, "isFreeSpare", "(I)Z"⟩
abbrev b_Model_pairOfSpare : ByteArray := prog_7_method_7_code
def y_Model_pairOfSpare : MethodName := ⟨R_Model, "pairOfSpare", "(I)I"⟩
abbrev b_Model_spoil : ByteArray := prog_7_method_24_code
def y_Model_spoil : MethodName := ⟨R_Model, "spoil", "(IZ)I"⟩
abbrev b_Model_cutAfter : ByteArray := prog_7_method_25_code
def y_Model_cutAfter : MethodName := ⟨R_Model, "cutAfter", "(I)I"⟩
abbrev b_Model_start : ByteArray := prog_7_method_26_code
def y_Model_start : MethodName := ⟨R_Model, "start", "()I"⟩
abbrev b_Model_physical : ByteArray := prog_7_method_27_code
def y_Model_physical : MethodName := ⟨R_Model, "physical", "(I)I"⟩
abbrev b_Model_logical : ByteArray := prog_7_method_28_code
def y_Model_logical : MethodName := ⟨R_Model, "logical", "(I)I"⟩
abbrev b_Model_spares : ByteArray := prog_7_method_29_code
def y_Model_spares : MethodName := ⟨R_Model, "spares", "(I)I"⟩
abbrev b_Model_grown : ByteArray := prog_7_method_30_code
def y_Model_grown : MethodName := ⟨R_Model, "grown", "(IZ)I"⟩
abbrev b_Model_primary : ByteArray := prog_7_method_31_code
def y_Model_primary : MethodName := ⟨R_Model, "primary", "(I)I"⟩
abbrev b_Model_seeks : ByteArray := prog_7_method_32_code
def y_Model_seeks : MethodName := ⟨R_Model, "seeks", "(II)I"⟩
abbrev b_Model_state : ByteArray := prog_7_method_33_code
def y_Model_state : MethodName := ⟨R_Model, "state", "(I)I"⟩
abbrev b_Model_told : ByteArray := prog_7_method_34_code
def y_Model_told : MethodName := ⟨R_Model, "told", "(I)I"⟩
abbrev b_law_law : ByteArray := code
def y_law_law : MethodName := ⟨R_law, "law", "([I)Z"⟩
theorem mem_t1 {w : Cond} (h : w ∈ tables_1_1) : w ∈ lw_tbl := List.mem_append_right _ (List.mem_append_left _ h)
theorem mem_t2 {w : Cond} (h : w ∈ tables_1_2) : w ∈ lw_tbl := List.mem_append_right _ (List.mem_append_right _ (List.mem_append_left _ h))
theorem mem_t3 {w : Cond} (h : w ∈ tables_1_3) : w ∈ lw_tbl := List.mem_append_right _ (List.mem_append_right _ (List.mem_append_right _ (List.mem_append_left _ h)))
theorem mem_t4 {w : Cond} (h : w ∈ tables_1_4) : w ∈ lw_tbl := List.mem_append_right _ (List.mem_append_right _ (List.mem_append_right _ (List.mem_append_right _ (h))))
theorem k_sel_DefectDrive_bringIntoForce : Cond.selects R_DefectDrive y_DefectDrive_bringIntoForce y_DefectDrive_bringIntoForce ∈ lw_g := List.mem_filter.mpr ⟨List.mem_append_left _ (List.mem_of_getElem? (i := 0) rfl), rfl⟩
theorem k_sel_SectorMap_forget : Cond.selects R_SectorMap y_SectorMap_forget y_SectorMap_forget ∈ lw_g := List.mem_filter.mpr ⟨List.mem_append_left _ (List.mem_of_getElem? (i := 1) rfl), rfl⟩
theorem k_sel_SectorMap_numberSectors : Cond.selects R_SectorMap y_SectorMap_numberSectors y_SectorMap_numberSectors ∈ lw_g := List.mem_filter.mpr ⟨List.mem_append_left _ (List.mem_of_getElem? (i := 2) rfl), rfl⟩
theorem k_sel_SectorMap_redirect : Cond.selects R_SectorMap y_SectorMap_redirect y_SectorMap_redirect ∈ lw_g := List.mem_filter.mpr ⟨List.mem_append_left _ (List.mem_of_getElem? (i := 3) rfl), rfl⟩
theorem k_sel_DefectDrive_countSlipped : Cond.selects R_DefectDrive y_DefectDrive_countSlipped y_DefectDrive_countSlipped ∈ lw_g := List.mem_filter.mpr ⟨List.mem_append_left _ (List.mem_of_getElem? (i := 5) rfl), rfl⟩
theorem k_sel_DefectDrive_isSlipped : Cond.selects R_DefectDrive y_DefectDrive_isSlipped y_DefectDrive_isSlipped ∈ lw_g := List.mem_filter.mpr ⟨List.mem_append_left _ (List.mem_of_getElem? (i := 6) rfl), rfl⟩
theorem k_sel_DefectDrive_wipeGoodSectors : Cond.selects R_DefectDrive y_DefectDrive_wipeGoodSectors y_DefectDrive_wipeGoodSectors ∈ lw_g := List.mem_filter.mpr ⟨List.mem_append_left _ (List.mem_of_getElem? (i := 7) rfl), rfl⟩
theorem k_sel_DefectDrive_draftSlipped : Cond.selects R_DefectDrive y_DefectDrive_draftSlipped y_DefectDrive_draftSlipped ∈ lw_g := List.mem_filter.mpr ⟨List.mem_append_left _ (List.mem_of_getElem? (i := 8) rfl), rfl⟩
theorem k_sel_DefectDrive_writeDraft : Cond.selects R_DefectDrive y_DefectDrive_writeDraft y_DefectDrive_writeDraft ∈ lw_g := List.mem_filter.mpr ⟨List.mem_append_left _ (List.mem_of_getElem? (i := 9) rfl), rfl⟩
theorem k_sel_DefectDrive_nearestFreeSpare : Cond.selects R_DefectDrive y_DefectDrive_nearestFreeSpare y_DefectDrive_nearestFreeSpare ∈ lw_g := List.mem_filter.mpr ⟨List.mem_append_left _ (List.mem_of_getElem? (i := 10) rfl), rfl⟩
theorem k_sel_DefectDrive_isFreeSpare : Cond.selects R_DefectDrive y_DefectDrive_isFreeSpare y_DefectDrive_isFreeSpare ∈ lw_g := List.mem_filter.mpr ⟨List.mem_append_left _ (List.mem_of_getElem? (i := 11) rfl), rfl⟩
theorem k_sel_Model_pairOfFirst : Cond.selects R_Model y_Model_pairOfFirst y_Model_pairOfFirst ∈ lw_g := List.mem_filter.mpr ⟨List.mem_append_left _ (List.mem_of_getElem? (i := 12) rfl), rfl⟩
theorem k_sel_Model_writesOne : Cond.selects R_Model y_Model_writesOne y_Model_writesOne ∈ lw_g := List.mem_filter.mpr ⟨List.mem_append_left _ (List.mem_of_getElem? (i := 13) rfl), rfl⟩
theorem k_sel_Model_writesLists : Cond.selects R_Model y_Model_writesLists y_Model_writesLists ∈ lw_g := List.mem_filter.mpr ⟨List.mem_append_left _ (List.mem_of_getElem? (i := 14) rfl), rfl⟩
theorem k_sel_Model_copyLists : Cond.selects R_Model y_Model_copyLists y_Model_copyLists ∈ lw_g := List.mem_filter.mpr ⟨List.mem_append_left _ (List.mem_of_getElem? (i := 15) rfl), rfl⟩
theorem k_sel_Model_capacity : Cond.selects R_Model y_Model_capacity y_Model_capacity ∈ lw_g := List.mem_filter.mpr ⟨List.mem_append_left _ (List.mem_of_getElem? (i := 16) rfl), rfl⟩
theorem k_sel_Model_isLogical : Cond.selects R_Model y_Model_isLogical y_Model_isLogical ∈ lw_g := List.mem_filter.mpr ⟨List.mem_append_left _ (List.mem_of_getElem? (i := 17) rfl), rfl⟩
theorem k_sel_Model_isPrimary : Cond.selects R_Model y_Model_isPrimary y_Model_isPrimary ∈ lw_g := List.mem_filter.mpr ⟨List.mem_append_left _ (List.mem_of_getElem? (i := 18) rfl), rfl⟩
theorem k_sel_Model_hasLogical : Cond.selects R_Model y_Model_hasLogical y_Model_hasLogical ∈ lw_g := List.mem_filter.mpr ⟨List.mem_append_left _ (List.mem_of_getElem? (i := 19) rfl), rfl⟩
theorem k_sel_Model_placeOf : Cond.selects R_Model y_Model_placeOf y_Model_placeOf ∈ lw_g := List.mem_filter.mpr ⟨List.mem_append_left _ (List.mem_of_getElem? (i := 20) rfl), rfl⟩
theorem k_sel_Model_ownOf : Cond.selects R_Model y_Model_ownOf y_Model_ownOf ∈ lw_g := List.mem_filter.mpr ⟨List.mem_append_left _ (List.mem_of_getElem? (i := 21) rfl), rfl⟩
theorem k_sel_Model_nearest : Cond.selects R_Model y_Model_nearest y_Model_nearest ∈ lw_g := List.mem_filter.mpr ⟨List.mem_append_left _ (List.mem_of_getElem? (i := 22) rfl), rfl⟩
theorem k_sel_Model_isFreeSpare : Cond.selects R_Model y_Model_isFreeSpare y_Model_isFreeSpare ∈ lw_g := List.mem_filter.mpr ⟨List.mem_append_left _ (List.mem_of_getElem? (i := 23) rfl), rfl⟩
theorem k_sel_Model_pairOfSpare : Cond.selects R_Model y_Model_pairOfSpare y_Model_pairOfSpare ∈ lw_g := List.mem_filter.mpr ⟨List.mem_append_left _ (List.mem_of_getElem? (i := 24) rfl), rfl⟩
theorem k_init_law : Cond.initialized R_law ∈ lw_g := List.mem_filter.mpr ⟨mem_t1 (List.mem_of_getElem? (i := 0) rfl), rfl⟩
theorem k_init_DefectDrive : Cond.initialized R_DefectDrive ∈ lw_g := List.mem_filter.mpr ⟨mem_t1 (List.mem_of_getElem? (i := 1) rfl), rfl⟩
theorem k_init_Power : Cond.initialized R_Power ∈ lw_g := List.mem_filter.mpr ⟨mem_t1 (List.mem_of_getElem? (i := 2) rfl), rfl⟩
theorem k_init_Surface : Cond.initialized R_Surface ∈ lw_g := List.mem_filter.mpr ⟨mem_t1 (List.mem_of_getElem? (i := 3) rfl), rfl⟩
theorem k_init_SectorMap : Cond.initialized R_SectorMap ∈ lw_g := List.mem_filter.mpr ⟨mem_t1 (List.mem_of_getElem? (i := 4) rfl), rfl⟩
theorem k_init_Arrays : Cond.initialized R_Arrays ∈ lw_g := List.mem_filter.mpr ⟨mem_t1 (List.mem_of_getElem? (i := 5) rfl), rfl⟩
theorem k_init_Lists : Cond.initialized R_Lists ∈ lw_g := List.mem_filter.mpr ⟨mem_t1 (List.mem_of_getElem? (i := 6) rfl), rfl⟩
theorem k_init_Model : Cond.initialized R_Model ∈ lw_g := List.mem_filter.mpr ⟨mem_t1 (List.mem_of_getElem? (i := 7) rfl), rfl⟩
theorem k_init_IOOBE : Cond.initialized "java/lang/IndexOutOfBoundsException" ∈ lw_g := List.mem_filter.mpr ⟨mem_t1 (List.mem_of_getElem? (i := 11) rfl), rfl⟩
theorem k_init_IAE : Cond.initialized "java/lang/IllegalArgumentException" ∈ lw_g := List.mem_filter.mpr ⟨mem_t1 (List.mem_of_getElem? (i := 12) rfl), rfl⟩
theorem k_init_ISE : Cond.initialized "java/lang/IllegalStateException" ∈ lw_g := List.mem_filter.mpr ⟨mem_t1 (List.mem_of_getElem? (i := 13) rfl), rfl⟩
theorem k_init_Math : Cond.initialized R_Math ∈ lw_g := List.mem_filter.mpr ⟨mem_t1 (List.mem_of_getElem? (i := 14) rfl), rfl⟩
theorem k_init_UOE : Cond.initialized "java/lang/UnsupportedOperationException" ∈ lw_g := List.mem_filter.mpr ⟨mem_t1 (List.mem_of_getElem? (i := 15) rfl), rfl⟩
theorem k_init_NSEE : Cond.initialized "java/util/NoSuchElementException" ∈ lw_g := List.mem_filter.mpr ⟨mem_t1 (List.mem_of_getElem? (i := 16) rfl), rfl⟩
theorem k_init_System : Cond.initialized R_System ∈ lw_g := List.mem_filter.mpr ⟨mem_t1 (List.mem_of_getElem? (i := 17) rfl), rfl⟩
theorem k_cl_law_8 : Cond.classLink R_law 8 R_DefectDrive ∈ lw_g := List.mem_filter.mpr ⟨mem_t1 (List.mem_of_getElem? (i := 18) rfl), rfl⟩
theorem k_able_DefectDrive : Cond.instantiable R_DefectDrive 11 ∈ lw_g := List.mem_filter.mpr ⟨mem_t1 (List.mem_of_getElem? (i := 19) rfl), rfl⟩
theorem k_ml_law_66 : Cond.methodLink R_law 66 y_DefectDrive_init ∈ lw_g := List.mem_filter.mpr ⟨mem_t1 (List.mem_of_getElem? (i := 20) rfl), rfl⟩
theorem k_inst_DefectDrive_init : Cond.instanceMethod y_DefectDrive_init ∈ lw_g := List.mem_filter.mpr ⟨mem_t1 (List.mem_of_getElem? (i := 21) rfl), rfl⟩
theorem k_ml_DefectDrive_3 : Cond.methodLink R_DefectDrive 3 objectInit ∈ lw_g := List.mem_filter.mpr ⟨mem_t1 (List.mem_of_getElem? (i := 23) rfl), rfl⟩
theorem k_inst_Object : Cond.instanceMethod objectInit ∈ lw_g := List.mem_filter.mpr ⟨mem_t1 (List.mem_of_getElem? (i := 24) rfl), rfl⟩
theorem k_code_Object : Cond.code objectInit ⟨#[0xb1]⟩ 1 none ∈ lw_g := List.mem_filter.mpr ⟨mem_t1 (List.mem_of_getElem? (i := 25) rfl), rfl⟩
theorem k_cl_DefectDrive_9 : Cond.classLink R_DefectDrive 9 R_Power ∈ lw_g := List.mem_filter.mpr ⟨mem_t1 (List.mem_of_getElem? (i := 26) rfl), rfl⟩
theorem k_able_Power : Cond.instantiable R_Power 3 ∈ lw_g := List.mem_filter.mpr ⟨mem_t1 (List.mem_of_getElem? (i := 27) rfl), rfl⟩
theorem k_ml_DefectDrive_11 : Cond.methodLinkNest R_DefectDrive 11 y_Power_init R_DefectDrive ∈ nz_l := List.mem_filter.mpr ⟨mem_t1 (List.mem_of_getElem? (i := 28) rfl), rfl⟩
theorem k_inst_Power_init : Cond.instanceMethod y_Power_init ∈ lw_g := List.mem_filter.mpr ⟨mem_t1 (List.mem_of_getElem? (i := 29) rfl), rfl⟩
theorem k_ml_Power_3 : Cond.methodLink R_Power 3 objectInit ∈ lw_g := List.mem_filter.mpr ⟨mem_t1 (List.mem_of_getElem? (i := 31) rfl), rfl⟩
theorem k_fl_Power_15 : Cond.fieldLink R_Power 15 "DefectDrive$Power" "off" "Z" ∈ lw_g := List.mem_filter.mpr ⟨mem_t1 (List.mem_of_getElem? (i := 32) rfl), rfl⟩
theorem k_fl_DefectDrive_78 : Cond.fieldLinkNest R_DefectDrive 78 "DefectDrive$Power" "off" "Z" R_DefectDrive ∈ nz_l := List.mem_filter.mpr ⟨mem_t1 (List.mem_of_getElem? (i := 33) rfl), rfl⟩
theorem k_fl_Power_9 : Cond.fieldLink R_Power 9 "DefectDrive$Power" "writesLeft" "I" ∈ lw_g := List.mem_filter.mpr ⟨mem_t1 (List.mem_of_getElem? (i := 34) rfl), rfl⟩
theorem k_fl_DefectDrive_146 : Cond.fieldLinkNest R_DefectDrive 146 "DefectDrive$Power" "writesLeft" "I" R_DefectDrive ∈ nz_l := List.mem_filter.mpr ⟨mem_t1 (List.mem_of_getElem? (i := 35) rfl), rfl⟩
theorem k_fl_Power_19 : Cond.fieldLink R_Power 19 "DefectDrive$Power" "writesDone" "I" ∈ lw_g := List.mem_filter.mpr ⟨mem_t1 (List.mem_of_getElem? (i := 36) rfl), rfl⟩
theorem k_fl_DefectDrive_180 : Cond.fieldLinkNest R_DefectDrive 180 "DefectDrive$Power" "writesDone" "I" R_DefectDrive ∈ nz_l := List.mem_filter.mpr ⟨mem_t1 (List.mem_of_getElem? (i := 37) rfl), rfl⟩
theorem k_cl_DefectDrive_16 : Cond.classLink R_DefectDrive 16 R_Surface ∈ lw_g := List.mem_filter.mpr ⟨mem_t1 (List.mem_of_getElem? (i := 45) rfl), rfl⟩
theorem k_able_Surface : Cond.instantiable R_Surface 3 ∈ lw_g := List.mem_filter.mpr ⟨mem_t1 (List.mem_of_getElem? (i := 46) rfl), rfl⟩
theorem k_ml_DefectDrive_18 : Cond.methodLinkNest R_DefectDrive 18 y_Surface_init R_DefectDrive ∈ nz_l := List.mem_filter.mpr ⟨mem_t1 (List.mem_of_getElem? (i := 47) rfl), rfl⟩
theorem k_inst_Surface_init : Cond.instanceMethod y_Surface_init ∈ lw_g := List.mem_filter.mpr ⟨mem_t1 (List.mem_of_getElem? (i := 48) rfl), rfl⟩
theorem k_ml_Surface_3 : Cond.methodLink R_Surface 3 objectInit ∈ lw_g := List.mem_filter.mpr ⟨mem_t1 (List.mem_of_getElem? (i := 50) rfl), rfl⟩
theorem k_fl_Surface_9 : Cond.fieldLink R_Surface 9 "DefectDrive$Surface" "condition" "[I" ∈ lw_g := List.mem_filter.mpr ⟨mem_t1 (List.mem_of_getElem? (i := 51) rfl), rfl⟩
theorem k_fl_DefectDrive_104 : Cond.fieldLinkNest R_DefectDrive 104 "DefectDrive$Surface" "condition" "[I" R_DefectDrive ∈ nz_l := List.mem_filter.mpr ⟨mem_t1 (List.mem_of_getElem? (i := 52) rfl), rfl⟩
theorem k_fl_Surface_15 : Cond.fieldLink R_Surface 15 "DefectDrive$Surface" "word" "[I" ∈ lw_g := List.mem_filter.mpr ⟨mem_t1 (List.mem_of_getElem? (i := 53) rfl), rfl⟩
theorem k_fl_Surface_18 : Cond.fieldLink R_Surface 18 "DefectDrive$Surface" "lost" "[Z" ∈ lw_g := List.mem_filter.mpr ⟨mem_t1 (List.mem_of_getElem? (i := 54) rfl), rfl⟩
theorem k_arr_I : Cond.arrayClass .int ∈ lw_g := List.mem_filter.mpr ⟨mem_t1 (List.mem_of_getElem? (i := 62) rfl), rfl⟩
theorem k_arr_Z : Cond.arrayClass .boolean ∈ lw_g := List.mem_filter.mpr ⟨mem_t1 (List.mem_of_getElem? (i := 63) rfl), rfl⟩
theorem k_cl_DefectDrive_23 : Cond.classLink R_DefectDrive 23 R_SectorMap ∈ lw_g := List.mem_filter.mpr ⟨mem_t1 (List.mem_of_getElem? (i := 64) rfl), rfl⟩
theorem k_able_SectorMap : Cond.instantiable R_SectorMap 5 ∈ lw_g := List.mem_filter.mpr ⟨mem_t1 (List.mem_of_getElem? (i := 65) rfl), rfl⟩
theorem k_ml_DefectDrive_25 : Cond.methodLink R_DefectDrive 25 y_SectorMap_init ∈ lw_g := List.mem_filter.mpr ⟨mem_t1 (List.mem_of_getElem? (i := 66) rfl), rfl⟩
theorem k_inst_SectorMap_init : Cond.instanceMethod y_SectorMap_init ∈ lw_g := List.mem_filter.mpr ⟨mem_t1 (List.mem_of_getElem? (i := 67) rfl), rfl⟩
theorem k_ml_SectorMap_3 : Cond.methodLink R_SectorMap 3 objectInit ∈ lw_g := List.mem_filter.mpr ⟨mem_t1 (List.mem_of_getElem? (i := 69) rfl), rfl⟩
theorem k_ml_SectorMap_25 : Cond.methodLink R_SectorMap 25 y_Arrays_fill ∈ lw_g := List.mem_filter.mpr ⟨mem_t1 (List.mem_of_getElem? (i := 70) rfl), rfl⟩
theorem k_stat_Arrays_fill : Cond.static y_Arrays_fill ∈ lw_g := List.mem_filter.mpr ⟨mem_t1 (List.mem_of_getElem? (i := 71) rfl), rfl⟩
theorem k_fl_SectorMap_31 : Cond.fieldLink R_SectorMap 31 "DefectDrive$SectorMap" "capacity" "I" ∈ lw_g := List.mem_filter.mpr ⟨mem_t1 (List.mem_of_getElem? (i := 73) rfl), rfl⟩
theorem k_fl_DefectDrive_91 : Cond.fieldLinkNest R_DefectDrive 91 "DefectDrive$SectorMap" "capacity" "I" R_DefectDrive ∈ nz_l := List.mem_filter.mpr ⟨mem_t1 (List.mem_of_getElem? (i := 74) rfl), rfl⟩
theorem k_fl_SectorMap_9 : Cond.fieldLink R_SectorMap 9 "DefectDrive$SectorMap" "own" "[I" ∈ lw_g := List.mem_filter.mpr ⟨mem_t1 (List.mem_of_getElem? (i := 75) rfl), rfl⟩
theorem k_fl_DefectDrive_128 : Cond.fieldLinkNest R_DefectDrive 128 "DefectDrive$SectorMap" "own" "[I" R_DefectDrive ∈ nz_l := List.mem_filter.mpr ⟨mem_t1 (List.mem_of_getElem? (i := 76) rfl), rfl⟩
theorem k_fl_SectorMap_15 : Cond.fieldLink R_SectorMap 15 "DefectDrive$SectorMap" "place" "[I" ∈ lw_g := List.mem_filter.mpr ⟨mem_t1 (List.mem_of_getElem? (i := 77) rfl), rfl⟩
theorem k_fl_DefectDrive_100 : Cond.fieldLinkNest R_DefectDrive 100 "DefectDrive$SectorMap" "place" "[I" R_DefectDrive ∈ nz_l := List.mem_filter.mpr ⟨mem_t1 (List.mem_of_getElem? (i := 78) rfl), rfl⟩
theorem k_fl_SectorMap_18 : Cond.fieldLink R_SectorMap 18 "DefectDrive$SectorMap" "logicalAt" "[I" ∈ lw_g := List.mem_filter.mpr ⟨mem_t1 (List.mem_of_getElem? (i := 79) rfl), rfl⟩
theorem k_fl_DefectDrive_159 : Cond.fieldLinkNest R_DefectDrive 159 "DefectDrive$SectorMap" "logicalAt" "[I" R_DefectDrive ∈ nz_l := List.mem_filter.mpr ⟨mem_t1 (List.mem_of_getElem? (i := 80) rfl), rfl⟩
theorem k_fl_SectorMap_21 : Cond.fieldLink R_SectorMap 21 "DefectDrive$SectorMap" "isPrimary" "[Z" ∈ lw_g := List.mem_filter.mpr ⟨mem_t1 (List.mem_of_getElem? (i := 81) rfl), rfl⟩
theorem k_fl_DefectDrive_202 : Cond.fieldLinkNest R_DefectDrive 202 "DefectDrive$SectorMap" "isPrimary" "[Z" R_DefectDrive ∈ nz_l := List.mem_filter.mpr ⟨mem_t1 (List.mem_of_getElem? (i := 82) rfl), rfl⟩
theorem k_cl_DefectDrive_30 : Cond.classLink R_DefectDrive 30 R_Lists ∈ lw_g := List.mem_filter.mpr ⟨mem_t1 (List.mem_of_getElem? (i := 94) rfl), rfl⟩
theorem k_able_Lists : Cond.instantiable R_Lists 6 ∈ lw_g := List.mem_filter.mpr ⟨mem_t1 (List.mem_of_getElem? (i := 95) rfl), rfl⟩
theorem k_ml_DefectDrive_32 : Cond.methodLinkNest R_DefectDrive 32 y_Lists_init R_DefectDrive ∈ nz_l := List.mem_filter.mpr ⟨mem_t1 (List.mem_of_getElem? (i := 96) rfl), rfl⟩
theorem k_inst_Lists_init : Cond.instanceMethod y_Lists_init ∈ lw_g := List.mem_filter.mpr ⟨mem_t1 (List.mem_of_getElem? (i := 97) rfl), rfl⟩
theorem k_ml_Lists_3 : Cond.methodLink R_Lists 3 objectInit ∈ lw_g := List.mem_filter.mpr ⟨mem_t1 (List.mem_of_getElem? (i := 99) rfl), rfl⟩
theorem k_fl_SectorMap_38 : Cond.fieldLinkNest R_SectorMap 38 "DefectDrive$Lists" "version" "I" R_DefectDrive ∈ nz_l := List.mem_filter.mpr ⟨mem_t1 (List.mem_of_getElem? (i := 100) rfl), rfl⟩
theorem k_fl_Lists_33 : Cond.fieldLink R_Lists 33 "DefectDrive$Lists" "version" "I" ∈ lw_g := List.mem_filter.mpr ⟨mem_t1 (List.mem_of_getElem? (i := 101) rfl), rfl⟩
theorem k_fl_DefectDrive_152 : Cond.fieldLinkNest R_DefectDrive 152 "DefectDrive$Lists" "version" "I" R_DefectDrive ∈ nz_l := List.mem_filter.mpr ⟨mem_t1 (List.mem_of_getElem? (i := 102) rfl), rfl⟩
theorem k_fl_Lists_42 : Cond.fieldLink R_Lists 42 "DefectDrive$Lists" "closed" "Z" ∈ lw_g := List.mem_filter.mpr ⟨mem_t1 (List.mem_of_getElem? (i := 103) rfl), rfl⟩
theorem k_fl_DefectDrive_149 : Cond.fieldLinkNest R_DefectDrive 149 "DefectDrive$Lists" "closed" "Z" R_DefectDrive ∈ nz_l := List.mem_filter.mpr ⟨mem_t1 (List.mem_of_getElem? (i := 104) rfl), rfl⟩
theorem k_fl_Lists_18 : Cond.fieldLink R_Lists 18 "DefectDrive$Lists" "primaries" "I" ∈ lw_g := List.mem_filter.mpr ⟨mem_t1 (List.mem_of_getElem? (i := 105) rfl), rfl⟩
theorem k_fl_SectorMap_43 : Cond.fieldLinkNest R_SectorMap 43 "DefectDrive$Lists" "primaries" "I" R_DefectDrive ∈ nz_l := List.mem_filter.mpr ⟨mem_t1 (List.mem_of_getElem? (i := 106) rfl), rfl⟩
theorem k_fl_DefectDrive_168 : Cond.fieldLinkNest R_DefectDrive 168 "DefectDrive$Lists" "primaries" "I" R_DefectDrive ∈ nz_l := List.mem_filter.mpr ⟨mem_t1 (List.mem_of_getElem? (i := 107) rfl), rfl⟩
theorem k_fl_Lists_22 : Cond.fieldLink R_Lists 22 "DefectDrive$Lists" "pairs" "I" ∈ lw_g := List.mem_filter.mpr ⟨mem_t1 (List.mem_of_getElem? (i := 108) rfl), rfl⟩
theorem k_fl_DefectDrive_165 : Cond.fieldLinkNest R_DefectDrive 165 "DefectDrive$Lists" "pairs" "I" R_DefectDrive ∈ nz_l := List.mem_filter.mpr ⟨mem_t1 (List.mem_of_getElem? (i := 109) rfl), rfl⟩
theorem k_fl_Lists_9 : Cond.fieldLink R_Lists 9 "DefectDrive$Lists" "sector" "[I" ∈ lw_g := List.mem_filter.mpr ⟨mem_t1 (List.mem_of_getElem? (i := 110) rfl), rfl⟩
theorem k_fl_SectorMap_46 : Cond.fieldLinkNest R_SectorMap 46 "DefectDrive$Lists" "sector" "[I" R_DefectDrive ∈ nz_l := List.mem_filter.mpr ⟨mem_t1 (List.mem_of_getElem? (i := 111) rfl), rfl⟩
theorem k_fl_DefectDrive_174 : Cond.fieldLinkNest R_DefectDrive 174 "DefectDrive$Lists" "sector" "[I" R_DefectDrive ∈ nz_l := List.mem_filter.mpr ⟨mem_t1 (List.mem_of_getElem? (i := 112) rfl), rfl⟩
theorem k_fl_Lists_15 : Cond.fieldLink R_Lists 15 "DefectDrive$Lists" "standIn" "[I" ∈ lw_g := List.mem_filter.mpr ⟨mem_t1 (List.mem_of_getElem? (i := 113) rfl), rfl⟩
theorem k_fl_SectorMap_56 : Cond.fieldLinkNest R_SectorMap 56 "DefectDrive$Lists" "standIn" "[I" R_DefectDrive ∈ nz_l := List.mem_filter.mpr ⟨mem_t1 (List.mem_of_getElem? (i := 114) rfl), rfl⟩
theorem k_fl_DefectDrive_171 : Cond.fieldLinkNest R_DefectDrive 171 "DefectDrive$Lists" "standIn" "[I" R_DefectDrive ∈ nz_l := List.mem_filter.mpr ⟨mem_t1 (List.mem_of_getElem? (i := 115) rfl), rfl⟩
theorem k_fl_DefectDrive_12 : Cond.fieldLink R_DefectDrive 12 "DefectDrive" "power" "LDefectDrive$Power;" ∈ lw_g := List.mem_filter.mpr ⟨mem_t1 (List.mem_of_getElem? (i := 129) rfl), rfl⟩
theorem k_fl_DefectDrive_19 : Cond.fieldLink R_DefectDrive 19 "DefectDrive" "surface" "LDefectDrive$Surface;" ∈ lw_g := List.mem_filter.mpr ⟨mem_t1 (List.mem_of_getElem? (i := 130) rfl), rfl⟩
theorem k_fl_DefectDrive_26 : Cond.fieldLink R_DefectDrive 26 "DefectDrive" "map" "LDefectDrive$SectorMap;" ∈ lw_g := List.mem_filter.mpr ⟨mem_t1 (List.mem_of_getElem? (i := 131) rfl), rfl⟩
theorem k_fl_DefectDrive_33 : Cond.fieldLink R_DefectDrive 33 "DefectDrive" "noLists" "LDefectDrive$Lists;" ∈ lw_g := List.mem_filter.mpr ⟨mem_t1 (List.mem_of_getElem? (i := 132) rfl), rfl⟩
theorem k_fl_DefectDrive_37 : Cond.fieldLink R_DefectDrive 37 "DefectDrive" "copyA" "LDefectDrive$Lists;" ∈ lw_g := List.mem_filter.mpr ⟨mem_t1 (List.mem_of_getElem? (i := 133) rfl), rfl⟩
theorem k_fl_DefectDrive_40 : Cond.fieldLink R_DefectDrive 40 "DefectDrive" "copyB" "LDefectDrive$Lists;" ∈ lw_g := List.mem_filter.mpr ⟨mem_t1 (List.mem_of_getElem? (i := 134) rfl), rfl⟩
theorem k_fl_DefectDrive_43 : Cond.fieldLink R_DefectDrive 43 "DefectDrive" "draft" "LDefectDrive$Lists;" ∈ lw_g := List.mem_filter.mpr ⟨mem_t1 (List.mem_of_getElem? (i := 135) rfl), rfl⟩
theorem k_fl_DefectDrive_46 : Cond.fieldLink R_DefectDrive 46 "DefectDrive" "inForce" "LDefectDrive$Lists;" ∈ lw_g := List.mem_filter.mpr ⟨mem_t1 (List.mem_of_getElem? (i := 136) rfl), rfl⟩
theorem k_fl_DefectDrive_49 : Cond.fieldLink R_DefectDrive 49 "DefectDrive" "factoryDefect" "[Z" ∈ lw_g := List.mem_filter.mpr ⟨mem_t1 (List.mem_of_getElem? (i := 137) rfl), rfl⟩
theorem k_fl_DefectDrive_70 : Cond.fieldLink R_DefectDrive 70 "DefectDrive" "factoryDefects" "I" ∈ lw_g := List.mem_filter.mpr ⟨mem_t1 (List.mem_of_getElem? (i := 138) rfl), rfl⟩
theorem k_fl_DefectDrive_63 : Cond.fieldLink R_DefectDrive 63 "DefectDrive" "formatted" "Z" ∈ lw_g := List.mem_filter.mpr ⟨mem_t1 (List.mem_of_getElem? (i := 139) rfl), rfl⟩
theorem k_ml_law_101 : Cond.methodLink R_law 101 y_DefectDrive_start ∈ lw_g := List.mem_filter.mpr ⟨mem_t1 (List.mem_of_getElem? (i := 163) rfl), rfl⟩
theorem k_inst_DefectDrive_start : Cond.instanceMethod y_DefectDrive_start ∈ lw_g := List.mem_filter.mpr ⟨mem_t1 (List.mem_of_getElem? (i := 164) rfl), rfl⟩
theorem k_sel_DefectDrive_start : Cond.selects R_DefectDrive y_DefectDrive_start y_DefectDrive_start ∈ lw_g := List.mem_filter.mpr ⟨mem_t1 (List.mem_of_getElem? (i := 165) rfl), rfl⟩
theorem k_ml_DefectDrive_155 : Cond.methodLink R_DefectDrive 155 y_DefectDrive_bringIntoForce ∈ lw_g := List.mem_filter.mpr ⟨mem_t1 (List.mem_of_getElem? (i := 167) rfl), rfl⟩
theorem k_inst_DefectDrive_bringIntoForce : Cond.instanceMethod y_DefectDrive_bringIntoForce ∈ lw_g := List.mem_filter.mpr ⟨mem_t1 (List.mem_of_getElem? (i := 169) rfl), rfl⟩
theorem k_ml_DefectDrive_220 : Cond.methodLink R_DefectDrive 220 y_SectorMap_follow ∈ lw_g := List.mem_filter.mpr ⟨mem_t1 (List.mem_of_getElem? (i := 171) rfl), rfl⟩
theorem k_inst_SectorMap_follow : Cond.instanceMethod y_SectorMap_follow ∈ lw_g := List.mem_filter.mpr ⟨mem_t1 (List.mem_of_getElem? (i := 172) rfl), rfl⟩
theorem k_sel_SectorMap_follow : Cond.selects R_SectorMap y_SectorMap_follow y_SectorMap_follow ∈ lw_g := List.mem_filter.mpr ⟨mem_t1 (List.mem_of_getElem? (i := 173) rfl), rfl⟩
theorem k_ml_SectorMap_35 : Cond.methodLink R_SectorMap 35 y_SectorMap_forget ∈ lw_g := List.mem_filter.mpr ⟨mem_t1 (List.mem_of_getElem? (i := 175) rfl), rfl⟩
theorem k_inst_SectorMap_forget : Cond.instanceMethod y_SectorMap_forget ∈ lw_g := List.mem_filter.mpr ⟨mem_t1 (List.mem_of_getElem? (i := 177) rfl), rfl⟩
theorem k_ml_SectorMap_49 : Cond.methodLink R_SectorMap 49 y_SectorMap_numberSectors ∈ lw_g := List.mem_filter.mpr ⟨mem_t1 (List.mem_of_getElem? (i := 179) rfl), rfl⟩
theorem k_inst_SectorMap_numberSectors : Cond.instanceMethod y_SectorMap_numberSectors ∈ lw_g := List.mem_filter.mpr ⟨mem_t1 (List.mem_of_getElem? (i := 181) rfl), rfl⟩
theorem k_ml_SectorMap_63 : Cond.methodLinkNest R_SectorMap 63 y_DefectDrive_isSpare R_DefectDrive ∈ nz_l := List.mem_filter.mpr ⟨mem_t1 (List.mem_of_getElem? (i := 183) rfl), rfl⟩
theorem k_stat_DefectDrive_isSpare : Cond.static y_DefectDrive_isSpare ∈ lw_g := List.mem_filter.mpr ⟨mem_t1 (List.mem_of_getElem? (i := 184) rfl), rfl⟩
theorem k_ml_SectorMap_52 : Cond.methodLink R_SectorMap 52 y_Lists_entries ∈ lw_g := List.mem_filter.mpr ⟨mem_t1 (List.mem_of_getElem? (i := 186) rfl), rfl⟩
theorem k_inst_Lists_entries : Cond.instanceMethod y_Lists_entries ∈ lw_g := List.mem_filter.mpr ⟨mem_t1 (List.mem_of_getElem? (i := 187) rfl), rfl⟩
theorem k_sel_Lists_entries : Cond.selects R_Lists y_Lists_entries y_Lists_entries ∈ lw_g := List.mem_filter.mpr ⟨mem_t1 (List.mem_of_getElem? (i := 188) rfl), rfl⟩
theorem k_ml_SectorMap_59 : Cond.methodLink R_SectorMap 59 y_SectorMap_redirect ∈ lw_g := List.mem_filter.mpr ⟨mem_t1 (List.mem_of_getElem? (i := 190) rfl), rfl⟩
theorem k_inst_SectorMap_redirect : Cond.instanceMethod y_SectorMap_redirect ∈ lw_g := List.mem_filter.mpr ⟨mem_t1 (List.mem_of_getElem? (i := 192) rfl), rfl⟩
theorem k_ml_law_126 : Cond.methodLink R_law 126 y_DefectDrive_told ∈ lw_g := List.mem_filter.mpr ⟨mem_t1 (List.mem_of_getElem? (i := 194) rfl), rfl⟩
theorem k_inst_DefectDrive_told : Cond.instanceMethod y_DefectDrive_told ∈ lw_g := List.mem_filter.mpr ⟨mem_t1 (List.mem_of_getElem? (i := 195) rfl), rfl⟩
theorem k_sel_DefectDrive_told : Cond.selects R_DefectDrive y_DefectDrive_told y_DefectDrive_told ∈ lw_g := List.mem_filter.mpr ⟨mem_t1 (List.mem_of_getElem? (i := 196) rfl), rfl⟩
theorem k_ml_law_70 : Cond.methodLink R_law 70 y_law_factory ∈ lw_g := List.mem_filter.mpr ⟨mem_t1 (List.mem_of_getElem? (i := 198) rfl), rfl⟩
theorem k_stat_law_factory : Cond.static y_law_factory ∈ lw_g := List.mem_filter.mpr ⟨mem_t1 (List.mem_of_getElem? (i := 199) rfl), rfl⟩
theorem k_cl_law_13 : Cond.classLink R_law 13 "java/lang/IndexOutOfBoundsException" ∈ lw_g := List.mem_filter.mpr ⟨mem_t1 (List.mem_of_getElem? (i := 201) rfl), rfl⟩
theorem k_cl_law_15 : Cond.classLink R_law 15 "java/lang/IllegalArgumentException" ∈ lw_g := List.mem_filter.mpr ⟨mem_t1 (List.mem_of_getElem? (i := 202) rfl), rfl⟩
theorem k_cl_law_17 : Cond.classLink R_law 17 "java/lang/IllegalStateException" ∈ lw_g := List.mem_filter.mpr ⟨mem_t1 (List.mem_of_getElem? (i := 203) rfl), rfl⟩
theorem k_ml_law_7 : Cond.methodLink R_law 7 y_DefectDrive_factory ∈ lw_g := List.mem_filter.mpr ⟨mem_t1 (List.mem_of_getElem? (i := 204) rfl), rfl⟩
theorem k_inst_DefectDrive_factory : Cond.instanceMethod y_DefectDrive_factory ∈ lw_g := List.mem_filter.mpr ⟨mem_t1 (List.mem_of_getElem? (i := 205) rfl), rfl⟩
theorem k_sel_DefectDrive_factory : Cond.selects R_DefectDrive y_DefectDrive_factory y_DefectDrive_factory ∈ lw_g := List.mem_filter.mpr ⟨mem_t1 (List.mem_of_getElem? (i := 206) rfl), rfl⟩
theorem k_ml_DefectDrive_53 : Cond.methodLink R_DefectDrive 53 y_DefectDrive_isSector ∈ lw_g := List.mem_filter.mpr ⟨mem_t1 (List.mem_of_getElem? (i := 208) rfl), rfl⟩
theorem k_stat_DefectDrive_isSector : Cond.static y_DefectDrive_isSector ∈ lw_g := List.mem_filter.mpr ⟨mem_t1 (List.mem_of_getElem? (i := 209) rfl), rfl⟩
theorem k_cl_DefectDrive_57 : Cond.classLink R_DefectDrive 57 "java/lang/IndexOutOfBoundsException" ∈ lw_g := List.mem_filter.mpr ⟨mem_t1 (List.mem_of_getElem? (i := 211) rfl), rfl⟩
theorem k_cast_IOOBE : Cond.castable "java/lang/IndexOutOfBoundsException" "java/lang/IndexOutOfBoundsException" ∈ nz_l := List.mem_filter.mpr ⟨mem_t1 (List.mem_of_getElem? (i := 213) rfl), rfl⟩
theorem k_ml_DefectDrive_59 : Cond.methodLink R_DefectDrive 59 ⟨"java/lang/IndexOutOfBoundsException", "<init>", "()V"⟩ ∈ lw_g := List.mem_filter.mpr ⟨mem_t2 (List.mem_of_getElem? (i := 14) rfl), rfl⟩
theorem k_cl_DefectDrive_60 : Cond.classLink R_DefectDrive 60 "java/lang/IllegalArgumentException" ∈ lw_g := List.mem_filter.mpr ⟨mem_t2 (List.mem_of_getElem? (i := 36) rfl), rfl⟩
theorem k_cast_IAE : Cond.castable "java/lang/IllegalArgumentException" "java/lang/IllegalArgumentException" ∈ nz_l := List.mem_filter.mpr ⟨mem_t2 (List.mem_of_getElem? (i := 38) rfl), rfl⟩
theorem k_ml_DefectDrive_62 : Cond.methodLink R_DefectDrive 62 ⟨"java/lang/IllegalArgumentException", "<init>", "()V"⟩ ∈ lw_g := List.mem_filter.mpr ⟨mem_t2 (List.mem_of_getElem? (i := 45) rfl), rfl⟩
theorem k_cl_DefectDrive_67 : Cond.classLink R_DefectDrive 67 "java/lang/IllegalStateException" ∈ lw_g := List.mem_filter.mpr ⟨mem_t2 (List.mem_of_getElem? (i := 51) rfl), rfl⟩
theorem k_cast_ISE : Cond.castable "java/lang/IllegalStateException" "java/lang/IllegalStateException" ∈ nz_l := List.mem_filter.mpr ⟨mem_t2 (List.mem_of_getElem? (i := 53) rfl), rfl⟩
theorem k_ml_DefectDrive_69 : Cond.methodLink R_DefectDrive 69 ⟨"java/lang/IllegalStateException", "<init>", "()V"⟩ ∈ lw_g := List.mem_filter.mpr ⟨mem_t2 (List.mem_of_getElem? (i := 60) rfl), rfl⟩
theorem k_ml_law_79 : Cond.methodLink R_law 79 y_law_format ∈ lw_g := List.mem_filter.mpr ⟨mem_t2 (List.mem_of_getElem? (i := 66) rfl), rfl⟩
theorem k_stat_law_format : Cond.static y_law_format ∈ lw_g := List.mem_filter.mpr ⟨mem_t2 (List.mem_of_getElem? (i := 67) rfl), rfl⟩
theorem k_ml_law_19 : Cond.methodLink R_law 19 y_DefectDrive_format ∈ lw_g := List.mem_filter.mpr ⟨mem_t2 (List.mem_of_getElem? (i := 69) rfl), rfl⟩
theorem k_inst_DefectDrive_format : Cond.instanceMethod y_DefectDrive_format ∈ lw_g := List.mem_filter.mpr ⟨mem_t2 (List.mem_of_getElem? (i := 70) rfl), rfl⟩
theorem k_sel_DefectDrive_format : Cond.selects R_DefectDrive y_DefectDrive_format y_DefectDrive_format ∈ lw_g := List.mem_filter.mpr ⟨mem_t2 (List.mem_of_getElem? (i := 71) rfl), rfl⟩
theorem k_ml_DefectDrive_74 : Cond.methodLink R_DefectDrive 74 y_DefectDrive_countSlipped ∈ lw_g := List.mem_filter.mpr ⟨mem_t2 (List.mem_of_getElem? (i := 73) rfl), rfl⟩
theorem k_inst_DefectDrive_countSlipped : Cond.instanceMethod y_DefectDrive_countSlipped ∈ lw_g := List.mem_filter.mpr ⟨mem_t2 (List.mem_of_getElem? (i := 75) rfl), rfl⟩
theorem k_ml_DefectDrive_186 : Cond.methodLink R_DefectDrive 186 y_DefectDrive_isSlipped ∈ lw_g := List.mem_filter.mpr ⟨mem_t2 (List.mem_of_getElem? (i := 77) rfl), rfl⟩
theorem k_inst_DefectDrive_isSlipped : Cond.instanceMethod y_DefectDrive_isSlipped ∈ lw_g := List.mem_filter.mpr ⟨mem_t2 (List.mem_of_getElem? (i := 79) rfl), rfl⟩
theorem k_ml_DefectDrive_183 : Cond.methodLink R_DefectDrive 183 y_Lists_pairOf ∈ lw_g := List.mem_filter.mpr ⟨mem_t2 (List.mem_of_getElem? (i := 81) rfl), rfl⟩
theorem k_inst_Lists_pairOf : Cond.instanceMethod y_Lists_pairOf ∈ lw_g := List.mem_filter.mpr ⟨mem_t2 (List.mem_of_getElem? (i := 82) rfl), rfl⟩
theorem k_sel_Lists_pairOf : Cond.selects R_Lists y_Lists_pairOf y_Lists_pairOf ∈ lw_g := List.mem_filter.mpr ⟨mem_t2 (List.mem_of_getElem? (i := 83) rfl), rfl⟩
theorem k_ml_DefectDrive_81 : Cond.methodLink R_DefectDrive 81 y_DefectDrive_wipeGoodSectors ∈ lw_g := List.mem_filter.mpr ⟨mem_t2 (List.mem_of_getElem? (i := 85) rfl), rfl⟩
theorem k_inst_DefectDrive_wipeGoodSectors : Cond.instanceMethod y_DefectDrive_wipeGoodSectors ∈ lw_g := List.mem_filter.mpr ⟨mem_t2 (List.mem_of_getElem? (i := 87) rfl), rfl⟩
theorem k_ml_DefectDrive_107 : Cond.methodLink R_DefectDrive 107 y_Power_lastsForOneWrite ∈ lw_g := List.mem_filter.mpr ⟨mem_t2 (List.mem_of_getElem? (i := 89) rfl), rfl⟩
theorem k_inst_Power_lastsForOneWrite : Cond.instanceMethod y_Power_lastsForOneWrite ∈ lw_g := List.mem_filter.mpr ⟨mem_t2 (List.mem_of_getElem? (i := 90) rfl), rfl⟩
theorem k_sel_Power_lastsForOneWrite : Cond.selects R_Power y_Power_lastsForOneWrite y_Power_lastsForOneWrite ∈ lw_g := List.mem_filter.mpr ⟨mem_t2 (List.mem_of_getElem? (i := 91) rfl), rfl⟩
theorem k_ml_DefectDrive_196 : Cond.methodLink R_DefectDrive 196 y_Surface_wipe ∈ lw_g := List.mem_filter.mpr ⟨mem_t2 (List.mem_of_getElem? (i := 93) rfl), rfl⟩
theorem k_inst_Surface_wipe : Cond.instanceMethod y_Surface_wipe ∈ lw_g := List.mem_filter.mpr ⟨mem_t2 (List.mem_of_getElem? (i := 94) rfl), rfl⟩
theorem k_sel_Surface_wipe : Cond.selects R_Surface y_Surface_wipe y_Surface_wipe ∈ lw_g := List.mem_filter.mpr ⟨mem_t2 (List.mem_of_getElem? (i := 95) rfl), rfl⟩
theorem k_ml_Surface_22 : Cond.methodLink R_Surface 22 y_Surface_put ∈ lw_g := List.mem_filter.mpr ⟨mem_t2 (List.mem_of_getElem? (i := 97) rfl), rfl⟩
theorem k_inst_Surface_put : Cond.instanceMethod y_Surface_put ∈ lw_g := List.mem_filter.mpr ⟨mem_t2 (List.mem_of_getElem? (i := 98) rfl), rfl⟩
theorem k_sel_Surface_put : Cond.selects R_Surface y_Surface_put y_Surface_put ∈ lw_g := List.mem_filter.mpr ⟨mem_t2 (List.mem_of_getElem? (i := 99) rfl), rfl⟩
theorem k_ml_DefectDrive_85 : Cond.methodLink R_DefectDrive 85 y_DefectDrive_draftSlipped ∈ lw_g := List.mem_filter.mpr ⟨mem_t2 (List.mem_of_getElem? (i := 101) rfl), rfl⟩
theorem k_inst_DefectDrive_draftSlipped : Cond.instanceMethod y_DefectDrive_draftSlipped ∈ lw_g := List.mem_filter.mpr ⟨mem_t2 (List.mem_of_getElem? (i := 103) rfl), rfl⟩
theorem k_ml_DefectDrive_189 : Cond.methodLink R_DefectDrive 189 y_Lists_becomeEmpty ∈ lw_g := List.mem_filter.mpr ⟨mem_t2 (List.mem_of_getElem? (i := 105) rfl), rfl⟩
theorem k_inst_Lists_becomeEmpty : Cond.instanceMethod y_Lists_becomeEmpty ∈ lw_g := List.mem_filter.mpr ⟨mem_t2 (List.mem_of_getElem? (i := 106) rfl), rfl⟩
theorem k_sel_Lists_becomeEmpty : Cond.selects R_Lists y_Lists_becomeEmpty y_Lists_becomeEmpty ∈ lw_g := List.mem_filter.mpr ⟨mem_t2 (List.mem_of_getElem? (i := 107) rfl), rfl⟩
theorem k_ml_DefectDrive_193 : Cond.methodLink R_DefectDrive 193 y_Lists_addPrimary ∈ lw_g := List.mem_filter.mpr ⟨mem_t2 (List.mem_of_getElem? (i := 109) rfl), rfl⟩
theorem k_inst_Lists_addPrimary : Cond.instanceMethod y_Lists_addPrimary ∈ lw_g := List.mem_filter.mpr ⟨mem_t2 (List.mem_of_getElem? (i := 110) rfl), rfl⟩
theorem k_sel_Lists_addPrimary : Cond.selects R_Lists y_Lists_addPrimary y_Lists_addPrimary ∈ lw_g := List.mem_filter.mpr ⟨mem_t2 (List.mem_of_getElem? (i := 111) rfl), rfl⟩
theorem k_ml_Lists_29 : Cond.methodLink R_Lists 29 y_Lists_entries ∈ lw_g := List.mem_filter.mpr ⟨mem_t2 (List.mem_of_getElem? (i := 113) rfl), rfl⟩
theorem k_ml_DefectDrive_88 : Cond.methodLink R_DefectDrive 88 y_DefectDrive_writeDraft ∈ lw_g := List.mem_filter.mpr ⟨mem_t2 (List.mem_of_getElem? (i := 114) rfl), rfl⟩
theorem k_inst_DefectDrive_writeDraft : Cond.instanceMethod y_DefectDrive_writeDraft ∈ lw_g := List.mem_filter.mpr ⟨mem_t2 (List.mem_of_getElem? (i := 116) rfl), rfl⟩
theorem k_ml_DefectDrive_210 : Cond.methodLink R_DefectDrive 210 y_Lists_begin ∈ lw_g := List.mem_filter.mpr ⟨mem_t2 (List.mem_of_getElem? (i := 118) rfl), rfl⟩
theorem k_inst_Lists_begin : Cond.instanceMethod y_Lists_begin ∈ lw_g := List.mem_filter.mpr ⟨mem_t2 (List.mem_of_getElem? (i := 119) rfl), rfl⟩
theorem k_sel_Lists_begin : Cond.selects R_Lists y_Lists_begin y_Lists_begin ∈ lw_g := List.mem_filter.mpr ⟨mem_t2 (List.mem_of_getElem? (i := 120) rfl), rfl⟩
theorem k_ml_DefectDrive_213 : Cond.methodLink R_DefectDrive 213 y_Lists_entries ∈ lw_g := List.mem_filter.mpr ⟨mem_t2 (List.mem_of_getElem? (i := 122) rfl), rfl⟩
theorem k_ml_DefectDrive_216 : Cond.methodLink R_DefectDrive 216 y_Lists_takePart ∈ lw_g := List.mem_filter.mpr ⟨mem_t2 (List.mem_of_getElem? (i := 123) rfl), rfl⟩
theorem k_inst_Lists_takePart : Cond.instanceMethod y_Lists_takePart ∈ lw_g := List.mem_filter.mpr ⟨mem_t2 (List.mem_of_getElem? (i := 124) rfl), rfl⟩
theorem k_sel_Lists_takePart : Cond.selects R_Lists y_Lists_takePart y_Lists_takePart ∈ lw_g := List.mem_filter.mpr ⟨mem_t2 (List.mem_of_getElem? (i := 125) rfl), rfl⟩
theorem k_ml_Lists_46 : Cond.methodLink R_Lists 46 Lib.Math.min.name ∈ lw_g := List.mem_filter.mpr ⟨mem_t2 (List.mem_of_getElem? (i := 127) rfl), rfl⟩
theorem k_st_min : Cond.static Lib.Math.min.name ∈ lw_g := List.mem_filter.mpr ⟨mem_t2 (List.mem_of_getElem? (i := 128) rfl), rfl⟩
theorem k_cd_min : Cond.code Lib.Math.min.name Lib.Math.min.code 2 (some .int) ∈ lw_g := List.mem_filter.mpr ⟨mem_t2 (List.mem_of_getElem? (i := 129) rfl), rfl⟩
theorem k_ml_law_83 : Cond.methodLink R_law 83 y_law_write ∈ lw_g := List.mem_filter.mpr ⟨mem_t2 (List.mem_of_getElem? (i := 130) rfl), rfl⟩
theorem k_stat_law_write : Cond.static y_law_write ∈ lw_g := List.mem_filter.mpr ⟨mem_t2 (List.mem_of_getElem? (i := 131) rfl), rfl⟩
theorem k_ml_law_23 : Cond.methodLink R_law 23 y_DefectDrive_write ∈ lw_g := List.mem_filter.mpr ⟨mem_t2 (List.mem_of_getElem? (i := 133) rfl), rfl⟩
theorem k_inst_DefectDrive_write : Cond.instanceMethod y_DefectDrive_write ∈ lw_g := List.mem_filter.mpr ⟨mem_t2 (List.mem_of_getElem? (i := 134) rfl), rfl⟩
theorem k_sel_DefectDrive_write : Cond.selects R_DefectDrive y_DefectDrive_write y_DefectDrive_write ∈ lw_g := List.mem_filter.mpr ⟨mem_t2 (List.mem_of_getElem? (i := 135) rfl), rfl⟩
theorem k_ml_DefectDrive_94 : Cond.methodLink R_DefectDrive 94 y_SectorMap_holds ∈ lw_g := List.mem_filter.mpr ⟨mem_t2 (List.mem_of_getElem? (i := 137) rfl), rfl⟩
theorem k_inst_SectorMap_holds : Cond.instanceMethod y_SectorMap_holds ∈ lw_g := List.mem_filter.mpr ⟨mem_t2 (List.mem_of_getElem? (i := 138) rfl), rfl⟩
theorem k_sel_SectorMap_holds : Cond.selects R_SectorMap y_SectorMap_holds y_SectorMap_holds ∈ lw_g := List.mem_filter.mpr ⟨mem_t2 (List.mem_of_getElem? (i := 139) rfl), rfl⟩
theorem k_ml_DefectDrive_97 : Cond.methodLink R_DefectDrive 97 y_DefectDrive_isWord ∈ lw_g := List.mem_filter.mpr ⟨mem_t2 (List.mem_of_getElem? (i := 141) rfl), rfl⟩
theorem k_stat_DefectDrive_isWord : Cond.static y_DefectDrive_isWord ∈ lw_g := List.mem_filter.mpr ⟨mem_t2 (List.mem_of_getElem? (i := 142) rfl), rfl⟩
theorem k_ml_DefectDrive_110 : Cond.methodLink R_DefectDrive 110 y_Surface_put ∈ lw_g := List.mem_filter.mpr ⟨mem_t2 (List.mem_of_getElem? (i := 144) rfl), rfl⟩
theorem k_ml_law_87 : Cond.methodLink R_law 87 y_law_read ∈ lw_g := List.mem_filter.mpr ⟨mem_t2 (List.mem_of_getElem? (i := 145) rfl), rfl⟩
theorem k_stat_law_read : Cond.static y_law_read ∈ lw_g := List.mem_filter.mpr ⟨mem_t2 (List.mem_of_getElem? (i := 146) rfl), rfl⟩
theorem k_cl_law_31 : Cond.classLink R_law 31 "java/lang/UnsupportedOperationException" ∈ lw_g := List.mem_filter.mpr ⟨mem_t2 (List.mem_of_getElem? (i := 148) rfl), rfl⟩
theorem k_cl_law_33 : Cond.classLink R_law 33 "java/util/NoSuchElementException" ∈ lw_g := List.mem_filter.mpr ⟨mem_t2 (List.mem_of_getElem? (i := 149) rfl), rfl⟩
theorem k_ml_law_27 : Cond.methodLink R_law 27 y_DefectDrive_read ∈ lw_g := List.mem_filter.mpr ⟨mem_t2 (List.mem_of_getElem? (i := 150) rfl), rfl⟩
theorem k_inst_DefectDrive_read : Cond.instanceMethod y_DefectDrive_read ∈ lw_g := List.mem_filter.mpr ⟨mem_t2 (List.mem_of_getElem? (i := 151) rfl), rfl⟩
theorem k_sel_DefectDrive_read : Cond.selects R_DefectDrive y_DefectDrive_read y_DefectDrive_read ∈ lw_g := List.mem_filter.mpr ⟨mem_t2 (List.mem_of_getElem? (i := 152) rfl), rfl⟩
theorem k_cl_DefectDrive_114 : Cond.classLink R_DefectDrive 114 "java/lang/UnsupportedOperationException" ∈ lw_g := List.mem_filter.mpr ⟨mem_t2 (List.mem_of_getElem? (i := 154) rfl), rfl⟩
theorem k_cast_UOE : Cond.castable "java/lang/UnsupportedOperationException" "java/lang/UnsupportedOperationException" ∈ nz_l := List.mem_filter.mpr ⟨mem_t2 (List.mem_of_getElem? (i := 156) rfl), rfl⟩
theorem k_ml_DefectDrive_116 : Cond.methodLink R_DefectDrive 116 ⟨"java/lang/UnsupportedOperationException", "<init>", "()V"⟩ ∈ lw_g := List.mem_filter.mpr ⟨mem_t2 (List.mem_of_getElem? (i := 163) rfl), rfl⟩
theorem k_ml_DefectDrive_117 : Cond.methodLink R_DefectDrive 117 y_Surface_isLost ∈ lw_g := List.mem_filter.mpr ⟨mem_t2 (List.mem_of_getElem? (i := 169) rfl), rfl⟩
theorem k_inst_Surface_isLost : Cond.instanceMethod y_Surface_isLost ∈ lw_g := List.mem_filter.mpr ⟨mem_t2 (List.mem_of_getElem? (i := 170) rfl), rfl⟩
theorem k_sel_Surface_isLost : Cond.selects R_Surface y_Surface_isLost y_Surface_isLost ∈ lw_g := List.mem_filter.mpr ⟨mem_t2 (List.mem_of_getElem? (i := 171) rfl), rfl⟩
theorem k_cl_DefectDrive_121 : Cond.classLink R_DefectDrive 121 "java/util/NoSuchElementException" ∈ lw_g := List.mem_filter.mpr ⟨mem_t2 (List.mem_of_getElem? (i := 173) rfl), rfl⟩
theorem k_cast_NSEE : Cond.castable "java/util/NoSuchElementException" "java/util/NoSuchElementException" ∈ nz_l := List.mem_filter.mpr ⟨mem_t2 (List.mem_of_getElem? (i := 175) rfl), rfl⟩
theorem k_ml_DefectDrive_123 : Cond.methodLink R_DefectDrive 123 ⟨"java/util/NoSuchElementException", "<init>", "()V"⟩ ∈ lw_g := List.mem_filter.mpr ⟨mem_t2 (List.mem_of_getElem? (i := 182) rfl), rfl⟩
theorem k_ml_DefectDrive_124 : Cond.methodLink R_DefectDrive 124 y_Surface_wordOf ∈ lw_g := List.mem_filter.mpr ⟨mem_t2 (List.mem_of_getElem? (i := 188) rfl), rfl⟩
theorem k_inst_Surface_wordOf : Cond.instanceMethod y_Surface_wordOf ∈ lw_g := List.mem_filter.mpr ⟨mem_t2 (List.mem_of_getElem? (i := 189) rfl), rfl⟩
theorem k_sel_Surface_wordOf : Cond.selects R_Surface y_Surface_wordOf y_Surface_wordOf ∈ lw_g := List.mem_filter.mpr ⟨mem_t2 (List.mem_of_getElem? (i := 190) rfl), rfl⟩
theorem k_ml_law_91 : Cond.methodLink R_law 91 y_law_reassign ∈ lw_g := List.mem_filter.mpr ⟨mem_t2 (List.mem_of_getElem? (i := 192) rfl), rfl⟩
theorem k_stat_law_reassign : Cond.static y_law_reassign ∈ lw_g := List.mem_filter.mpr ⟨mem_t2 (List.mem_of_getElem? (i := 193) rfl), rfl⟩
theorem k_ml_law_35 : Cond.methodLink R_law 35 y_DefectDrive_reassign ∈ lw_g := List.mem_filter.mpr ⟨mem_t2 (List.mem_of_getElem? (i := 195) rfl), rfl⟩
theorem k_inst_DefectDrive_reassign : Cond.instanceMethod y_DefectDrive_reassign ∈ lw_g := List.mem_filter.mpr ⟨mem_t2 (List.mem_of_getElem? (i := 196) rfl), rfl⟩
theorem k_sel_DefectDrive_reassign : Cond.selects R_DefectDrive y_DefectDrive_reassign y_DefectDrive_reassign ∈ lw_g := List.mem_filter.mpr ⟨mem_t2 (List.mem_of_getElem? (i := 197) rfl), rfl⟩
theorem k_ml_DefectDrive_131 : Cond.methodLink R_DefectDrive 131 y_DefectDrive_nearestFreeSpare ∈ lw_g := List.mem_filter.mpr ⟨mem_t2 (List.mem_of_getElem? (i := 199) rfl), rfl⟩
theorem k_inst_DefectDrive_nearestFreeSpare : Cond.instanceMethod y_DefectDrive_nearestFreeSpare ∈ lw_g := List.mem_filter.mpr ⟨mem_t2 (List.mem_of_getElem? (i := 201) rfl), rfl⟩
theorem k_ml_DefectDrive_177 : Cond.methodLink R_DefectDrive 177 y_DefectDrive_cylinderOf ∈ lw_g := List.mem_filter.mpr ⟨mem_t2 (List.mem_of_getElem? (i := 203) rfl), rfl⟩
theorem k_stat_DefectDrive_cylinderOf : Cond.static y_DefectDrive_cylinderOf ∈ lw_g := List.mem_filter.mpr ⟨mem_t2 (List.mem_of_getElem? (i := 204) rfl), rfl⟩
theorem k_ml_DefectDrive_205 : Cond.methodLink R_DefectDrive 205 Lib.Math.abs.name ∈ lw_g := List.mem_filter.mpr ⟨mem_t2 (List.mem_of_getElem? (i := 206) rfl), rfl⟩
theorem k_st_abs : Cond.static Lib.Math.abs.name ∈ lw_g := List.mem_filter.mpr ⟨mem_t2 (List.mem_of_getElem? (i := 207) rfl), rfl⟩
theorem k_cd_abs : Cond.code Lib.Math.abs.name Lib.Math.abs.code 1 (some .int) ∈ lw_g := List.mem_filter.mpr ⟨mem_t2 (List.mem_of_getElem? (i := 208) rfl), rfl⟩
theorem k_ml_DefectDrive_162 : Cond.methodLink R_DefectDrive 162 y_DefectDrive_isFreeSpare ∈ lw_g := List.mem_filter.mpr ⟨mem_t2 (List.mem_of_getElem? (i := 209) rfl), rfl⟩
theorem k_inst_DefectDrive_isFreeSpare : Cond.instanceMethod y_DefectDrive_isFreeSpare ∈ lw_g := List.mem_filter.mpr ⟨mem_t2 (List.mem_of_getElem? (i := 211) rfl), rfl⟩
theorem k_ml_DefectDrive_199 : Cond.methodLink R_DefectDrive 199 y_DefectDrive_isSpare ∈ lw_g := List.mem_filter.mpr ⟨mem_t2 (List.mem_of_getElem? (i := 213) rfl), rfl⟩
theorem k_ml_DefectDrive_135 : Cond.methodLink R_DefectDrive 135 y_Lists_hasRoomForPairOf ∈ lw_g := List.mem_filter.mpr ⟨mem_t2 (List.mem_of_getElem? (i := 214) rfl), rfl⟩
theorem k_inst_Lists_hasRoomForPairOf : Cond.instanceMethod y_Lists_hasRoomForPairOf ∈ lw_g := List.mem_filter.mpr ⟨mem_t2 (List.mem_of_getElem? (i := 215) rfl), rfl⟩
theorem k_sel_Lists_hasRoomForPairOf : Cond.selects R_Lists y_Lists_hasRoomForPairOf y_Lists_hasRoomForPairOf ∈ lw_g := List.mem_filter.mpr ⟨mem_t2 (List.mem_of_getElem? (i := 216) rfl), rfl⟩
theorem k_ml_Lists_25 : Cond.methodLink R_Lists 25 y_Lists_pairOf ∈ lw_g := List.mem_filter.mpr ⟨mem_t2 (List.mem_of_getElem? (i := 218) rfl), rfl⟩
theorem k_ml_DefectDrive_138 : Cond.methodLink R_DefectDrive 138 y_Surface_move ∈ lw_g := List.mem_filter.mpr ⟨mem_t2 (List.mem_of_getElem? (i := 219) rfl), rfl⟩
theorem k_inst_Surface_move : Cond.instanceMethod y_Surface_move ∈ lw_g := List.mem_filter.mpr ⟨mem_t2 (List.mem_of_getElem? (i := 220) rfl), rfl⟩
theorem k_sel_Surface_move : Cond.selects R_Surface y_Surface_move y_Surface_move ∈ lw_g := List.mem_filter.mpr ⟨mem_t2 (List.mem_of_getElem? (i := 221) rfl), rfl⟩
theorem k_ml_DefectDrive_142 : Cond.methodLink R_DefectDrive 142 y_Lists_becomeWithPair ∈ lw_g := List.mem_filter.mpr ⟨mem_t2 (List.mem_of_getElem? (i := 223) rfl), rfl⟩
theorem k_inst_Lists_becomeWithPair : Cond.instanceMethod y_Lists_becomeWithPair ∈ lw_g := List.mem_filter.mpr ⟨mem_t2 (List.mem_of_getElem? (i := 224) rfl), rfl⟩
theorem k_sel_Lists_becomeWithPair : Cond.selects R_Lists y_Lists_becomeWithPair y_Lists_becomeWithPair ∈ lw_g := List.mem_filter.mpr ⟨mem_t2 (List.mem_of_getElem? (i := 225) rfl), rfl⟩
theorem k_ml_Lists_36 : Cond.methodLink R_Lists 36 arraycopyName ∈ lw_g := List.mem_filter.mpr ⟨mem_t2 (List.mem_of_getElem? (i := 227) rfl), rfl⟩
theorem k_st_arraycopy : Cond.static arraycopyName ∈ lw_g := List.mem_filter.mpr ⟨mem_t2 (List.mem_of_getElem? (i := 228) rfl), rfl⟩
theorem k_nat_arraycopy : Cond.native arraycopyName ∈ lw_g := List.mem_filter.mpr ⟨mem_t2 (List.mem_of_getElem? (i := 229) rfl), rfl⟩
theorem k_ml_law_94 : Cond.methodLink R_law 94 y_law_spoil ∈ lw_g := List.mem_filter.mpr ⟨mem_t2 (List.mem_of_getElem? (i := 230) rfl), rfl⟩
theorem k_stat_law_spoil : Cond.static y_law_spoil ∈ lw_g := List.mem_filter.mpr ⟨mem_t2 (List.mem_of_getElem? (i := 231) rfl), rfl⟩
theorem k_ml_law_38 : Cond.methodLink R_law 38 y_DefectDrive_spoil ∈ lw_g := List.mem_filter.mpr ⟨mem_t2 (List.mem_of_getElem? (i := 233) rfl), rfl⟩
theorem k_inst_DefectDrive_spoil : Cond.instanceMethod y_DefectDrive_spoil ∈ lw_g := List.mem_filter.mpr ⟨mem_t2 (List.mem_of_getElem? (i := 234) rfl), rfl⟩
theorem k_sel_DefectDrive_spoil : Cond.selects R_DefectDrive y_DefectDrive_spoil y_DefectDrive_spoil ∈ lw_g := List.mem_filter.mpr ⟨mem_t2 (List.mem_of_getElem? (i := 235) rfl), rfl⟩
theorem k_ml_law_98 : Cond.methodLink R_law 98 y_law_cutAfter ∈ lw_g := List.mem_filter.mpr ⟨mem_t2 (List.mem_of_getElem? (i := 237) rfl), rfl⟩
theorem k_stat_law_cutAfter : Cond.static y_law_cutAfter ∈ lw_g := List.mem_filter.mpr ⟨mem_t2 (List.mem_of_getElem? (i := 238) rfl), rfl⟩
theorem k_ml_law_42 : Cond.methodLink R_law 42 y_DefectDrive_cutAfter ∈ lw_g := List.mem_filter.mpr ⟨mem_t3 (List.mem_of_getElem? (i := 0) rfl), rfl⟩
theorem k_inst_DefectDrive_cutAfter : Cond.instanceMethod y_DefectDrive_cutAfter ∈ lw_g := List.mem_filter.mpr ⟨mem_t3 (List.mem_of_getElem? (i := 1) rfl), rfl⟩
theorem k_sel_DefectDrive_cutAfter : Cond.selects R_DefectDrive y_DefectDrive_cutAfter y_DefectDrive_cutAfter ∈ lw_g := List.mem_filter.mpr ⟨mem_t3 (List.mem_of_getElem? (i := 2) rfl), rfl⟩
theorem k_ml_law_105 : Cond.methodLink R_law 105 y_law_physical ∈ lw_g := List.mem_filter.mpr ⟨mem_t3 (List.mem_of_getElem? (i := 4) rfl), rfl⟩
theorem k_stat_law_physical : Cond.static y_law_physical ∈ lw_g := List.mem_filter.mpr ⟨mem_t3 (List.mem_of_getElem? (i := 5) rfl), rfl⟩
theorem k_ml_law_45 : Cond.methodLink R_law 45 y_DefectDrive_physical ∈ lw_g := List.mem_filter.mpr ⟨mem_t3 (List.mem_of_getElem? (i := 7) rfl), rfl⟩
theorem k_inst_DefectDrive_physical : Cond.instanceMethod y_DefectDrive_physical ∈ lw_g := List.mem_filter.mpr ⟨mem_t3 (List.mem_of_getElem? (i := 8) rfl), rfl⟩
theorem k_sel_DefectDrive_physical : Cond.selects R_DefectDrive y_DefectDrive_physical y_DefectDrive_physical ∈ lw_g := List.mem_filter.mpr ⟨mem_t3 (List.mem_of_getElem? (i := 9) rfl), rfl⟩
theorem k_ml_law_108 : Cond.methodLink R_law 108 y_law_logical ∈ lw_g := List.mem_filter.mpr ⟨mem_t3 (List.mem_of_getElem? (i := 11) rfl), rfl⟩
theorem k_stat_law_logical : Cond.static y_law_logical ∈ lw_g := List.mem_filter.mpr ⟨mem_t3 (List.mem_of_getElem? (i := 12) rfl), rfl⟩
theorem k_ml_law_48 : Cond.methodLink R_law 48 y_DefectDrive_logical ∈ lw_g := List.mem_filter.mpr ⟨mem_t3 (List.mem_of_getElem? (i := 14) rfl), rfl⟩
theorem k_inst_DefectDrive_logical : Cond.instanceMethod y_DefectDrive_logical ∈ lw_g := List.mem_filter.mpr ⟨mem_t3 (List.mem_of_getElem? (i := 15) rfl), rfl⟩
theorem k_sel_DefectDrive_logical : Cond.selects R_DefectDrive y_DefectDrive_logical y_DefectDrive_logical ∈ lw_g := List.mem_filter.mpr ⟨mem_t3 (List.mem_of_getElem? (i := 16) rfl), rfl⟩
theorem k_ml_law_111 : Cond.methodLink R_law 111 y_law_spares ∈ lw_g := List.mem_filter.mpr ⟨mem_t3 (List.mem_of_getElem? (i := 18) rfl), rfl⟩
theorem k_stat_law_spares : Cond.static y_law_spares ∈ lw_g := List.mem_filter.mpr ⟨mem_t3 (List.mem_of_getElem? (i := 19) rfl), rfl⟩
theorem k_ml_law_51 : Cond.methodLink R_law 51 y_DefectDrive_spares ∈ lw_g := List.mem_filter.mpr ⟨mem_t3 (List.mem_of_getElem? (i := 21) rfl), rfl⟩
theorem k_inst_DefectDrive_spares : Cond.instanceMethod y_DefectDrive_spares ∈ lw_g := List.mem_filter.mpr ⟨mem_t3 (List.mem_of_getElem? (i := 22) rfl), rfl⟩
theorem k_sel_DefectDrive_spares : Cond.selects R_DefectDrive y_DefectDrive_spares y_DefectDrive_spares ∈ lw_g := List.mem_filter.mpr ⟨mem_t3 (List.mem_of_getElem? (i := 23) rfl), rfl⟩
theorem k_ml_law_114 : Cond.methodLink R_law 114 y_law_grown ∈ lw_g := List.mem_filter.mpr ⟨mem_t3 (List.mem_of_getElem? (i := 25) rfl), rfl⟩
theorem k_stat_law_grown : Cond.static y_law_grown ∈ lw_g := List.mem_filter.mpr ⟨mem_t3 (List.mem_of_getElem? (i := 26) rfl), rfl⟩
theorem k_ml_law_54 : Cond.methodLink R_law 54 y_DefectDrive_grown ∈ lw_g := List.mem_filter.mpr ⟨mem_t3 (List.mem_of_getElem? (i := 28) rfl), rfl⟩
theorem k_inst_DefectDrive_grown : Cond.instanceMethod y_DefectDrive_grown ∈ lw_g := List.mem_filter.mpr ⟨mem_t3 (List.mem_of_getElem? (i := 29) rfl), rfl⟩
theorem k_sel_DefectDrive_grown : Cond.selects R_DefectDrive y_DefectDrive_grown y_DefectDrive_grown ∈ lw_g := List.mem_filter.mpr ⟨mem_t3 (List.mem_of_getElem? (i := 30) rfl), rfl⟩
theorem k_ml_law_117 : Cond.methodLink R_law 117 y_law_primary ∈ lw_g := List.mem_filter.mpr ⟨mem_t3 (List.mem_of_getElem? (i := 32) rfl), rfl⟩
theorem k_stat_law_primary : Cond.static y_law_primary ∈ lw_g := List.mem_filter.mpr ⟨mem_t3 (List.mem_of_getElem? (i := 33) rfl), rfl⟩
theorem k_ml_law_57 : Cond.methodLink R_law 57 y_DefectDrive_primary ∈ lw_g := List.mem_filter.mpr ⟨mem_t3 (List.mem_of_getElem? (i := 35) rfl), rfl⟩
theorem k_inst_DefectDrive_primary : Cond.instanceMethod y_DefectDrive_primary ∈ lw_g := List.mem_filter.mpr ⟨mem_t3 (List.mem_of_getElem? (i := 36) rfl), rfl⟩
theorem k_sel_DefectDrive_primary : Cond.selects R_DefectDrive y_DefectDrive_primary y_DefectDrive_primary ∈ lw_g := List.mem_filter.mpr ⟨mem_t3 (List.mem_of_getElem? (i := 37) rfl), rfl⟩
theorem k_ml_law_120 : Cond.methodLink R_law 120 y_law_seeks ∈ lw_g := List.mem_filter.mpr ⟨mem_t3 (List.mem_of_getElem? (i := 39) rfl), rfl⟩
theorem k_stat_law_seeks : Cond.static y_law_seeks ∈ lw_g := List.mem_filter.mpr ⟨mem_t3 (List.mem_of_getElem? (i := 40) rfl), rfl⟩
theorem k_ml_law_60 : Cond.methodLink R_law 60 y_DefectDrive_seeks ∈ lw_g := List.mem_filter.mpr ⟨mem_t3 (List.mem_of_getElem? (i := 42) rfl), rfl⟩
theorem k_inst_DefectDrive_seeks : Cond.instanceMethod y_DefectDrive_seeks ∈ lw_g := List.mem_filter.mpr ⟨mem_t3 (List.mem_of_getElem? (i := 43) rfl), rfl⟩
theorem k_sel_DefectDrive_seeks : Cond.selects R_DefectDrive y_DefectDrive_seeks y_DefectDrive_seeks ∈ lw_g := List.mem_filter.mpr ⟨mem_t3 (List.mem_of_getElem? (i := 44) rfl), rfl⟩
theorem k_ml_law_123 : Cond.methodLink R_law 123 y_law_state ∈ lw_g := List.mem_filter.mpr ⟨mem_t3 (List.mem_of_getElem? (i := 46) rfl), rfl⟩
theorem k_stat_law_state : Cond.static y_law_state ∈ lw_g := List.mem_filter.mpr ⟨mem_t3 (List.mem_of_getElem? (i := 47) rfl), rfl⟩
theorem k_ml_law_63 : Cond.methodLink R_law 63 y_DefectDrive_state ∈ lw_g := List.mem_filter.mpr ⟨mem_t3 (List.mem_of_getElem? (i := 49) rfl), rfl⟩
theorem k_inst_DefectDrive_state : Cond.instanceMethod y_DefectDrive_state ∈ lw_g := List.mem_filter.mpr ⟨mem_t3 (List.mem_of_getElem? (i := 50) rfl), rfl⟩
theorem k_sel_DefectDrive_state : Cond.selects R_DefectDrive y_DefectDrive_state y_DefectDrive_state ∈ lw_g := List.mem_filter.mpr ⟨mem_t3 (List.mem_of_getElem? (i := 51) rfl), rfl⟩
theorem k_cl_law_67 : Cond.classLink R_law 67 R_Model ∈ lw_g := List.mem_filter.mpr ⟨mem_t3 (List.mem_of_getElem? (i := 53) rfl), rfl⟩
theorem k_able_Model : Cond.instantiable R_Model 18 ∈ lw_g := List.mem_filter.mpr ⟨mem_t3 (List.mem_of_getElem? (i := 54) rfl), rfl⟩
theorem k_ml_law_69 : Cond.methodLink R_law 69 y_Model_init ∈ lw_g := List.mem_filter.mpr ⟨mem_t3 (List.mem_of_getElem? (i := 55) rfl), rfl⟩
theorem k_inst_Model_init : Cond.instanceMethod y_Model_init ∈ lw_g := List.mem_filter.mpr ⟨mem_t3 (List.mem_of_getElem? (i := 56) rfl), rfl⟩
theorem k_ml_Model_1 : Cond.methodLink R_Model 1 objectInit ∈ lw_g := List.mem_filter.mpr ⟨mem_t3 (List.mem_of_getElem? (i := 58) rfl), rfl⟩
theorem k_fl_Model_51 : Cond.fieldLink R_Model 51 "DefectDriveModel" "code" "I" ∈ lw_g := List.mem_filter.mpr ⟨mem_t3 (List.mem_of_getElem? (i := 59) rfl), rfl⟩
theorem k_fl_Model_7 : Cond.fieldLink R_Model 7 "DefectDriveModel" "words" "[I" ∈ lw_g := List.mem_filter.mpr ⟨mem_t3 (List.mem_of_getElem? (i := 60) rfl), rfl⟩
theorem k_fl_Model_13 : Cond.fieldLink R_Model 13 "DefectDriveModel" "lost" "[Z" ∈ lw_g := List.mem_filter.mpr ⟨mem_t3 (List.mem_of_getElem? (i := 61) rfl), rfl⟩
theorem k_fl_Model_17 : Cond.fieldLink R_Model 17 "DefectDriveModel" "states" "[I" ∈ lw_g := List.mem_filter.mpr ⟨mem_t3 (List.mem_of_getElem? (i := 62) rfl), rfl⟩
theorem k_fl_Model_20 : Cond.fieldLink R_Model 20 "DefectDriveModel" "factories" "[Z" ∈ lw_g := List.mem_filter.mpr ⟨mem_t3 (List.mem_of_getElem? (i := 63) rfl), rfl⟩
theorem k_fl_Model_103 : Cond.fieldLink R_Model 103 "DefectDriveModel" "factoryCount" "I" ∈ lw_g := List.mem_filter.mpr ⟨mem_t3 (List.mem_of_getElem? (i := 64) rfl), rfl⟩
theorem k_fl_Model_100 : Cond.fieldLink R_Model 100 "DefectDriveModel" "formatted" "Z" ∈ lw_g := List.mem_filter.mpr ⟨mem_t3 (List.mem_of_getElem? (i := 65) rfl), rfl⟩
theorem k_fl_Model_82 : Cond.fieldLink R_Model 82 "DefectDriveModel" "off" "Z" ∈ lw_g := List.mem_filter.mpr ⟨mem_t3 (List.mem_of_getElem? (i := 66) rfl), rfl⟩
theorem k_fl_Model_23 : Cond.fieldLink R_Model 23 "DefectDriveModel" "lasts" "I" ∈ lw_g := List.mem_filter.mpr ⟨mem_t3 (List.mem_of_getElem? (i := 67) rfl), rfl⟩
theorem k_fl_Model_86 : Cond.fieldLink R_Model 86 "DefectDriveModel" "writes" "I" ∈ lw_g := List.mem_filter.mpr ⟨mem_t3 (List.mem_of_getElem? (i := 68) rfl), rfl⟩
theorem k_fl_Model_27 : Cond.fieldLink R_Model 27 "DefectDriveModel" "versions" "[I" ∈ lw_g := List.mem_filter.mpr ⟨mem_t3 (List.mem_of_getElem? (i := 69) rfl), rfl⟩
theorem k_fl_Model_30 : Cond.fieldLink R_Model 30 "DefectDriveModel" "closed" "[Z" ∈ lw_g := List.mem_filter.mpr ⟨mem_t3 (List.mem_of_getElem? (i := 70) rfl), rfl⟩
theorem k_fl_Model_33 : Cond.fieldLink R_Model 33 "DefectDriveModel" "primaries" "[I" ∈ lw_g := List.mem_filter.mpr ⟨mem_t3 (List.mem_of_getElem? (i := 71) rfl), rfl⟩
theorem k_fl_Model_36 : Cond.fieldLink R_Model 36 "DefectDriveModel" "primaryRow" "[I" ∈ lw_g := List.mem_filter.mpr ⟨mem_t3 (List.mem_of_getElem? (i := 72) rfl), rfl⟩
theorem k_fl_Model_39 : Cond.fieldLink R_Model 39 "DefectDriveModel" "pairs" "[I" ∈ lw_g := List.mem_filter.mpr ⟨mem_t3 (List.mem_of_getElem? (i := 73) rfl), rfl⟩
theorem k_fl_Model_42 : Cond.fieldLink R_Model 42 "DefectDriveModel" "firsts" "[I" ∈ lw_g := List.mem_filter.mpr ⟨mem_t3 (List.mem_of_getElem? (i := 74) rfl), rfl⟩
theorem k_fl_Model_45 : Cond.fieldLink R_Model 45 "DefectDriveModel" "spareOf" "[I" ∈ lw_g := List.mem_filter.mpr ⟨mem_t3 (List.mem_of_getElem? (i := 75) rfl), rfl⟩
theorem k_fl_Model_48 : Cond.fieldLink R_Model 48 "DefectDriveModel" "marked" "[Z" ∈ lw_g := List.mem_filter.mpr ⟨mem_t3 (List.mem_of_getElem? (i := 76) rfl), rfl⟩
theorem k_ml_law_76 : Cond.methodLink R_law 76 y_Model_thrown ∈ lw_g := List.mem_filter.mpr ⟨mem_t3 (List.mem_of_getElem? (i := 114) rfl), rfl⟩
theorem k_inst_Model_thrown : Cond.instanceMethod y_Model_thrown ∈ lw_g := List.mem_filter.mpr ⟨mem_t3 (List.mem_of_getElem? (i := 115) rfl), rfl⟩
theorem k_sel_Model_thrown : Cond.selects R_Model y_Model_thrown y_Model_thrown ∈ lw_g := List.mem_filter.mpr ⟨mem_t3 (List.mem_of_getElem? (i := 116) rfl), rfl⟩
theorem k_ml_law_75 : Cond.methodLink R_law 75 y_Model_factory ∈ lw_g := List.mem_filter.mpr ⟨mem_t3 (List.mem_of_getElem? (i := 118) rfl), rfl⟩
theorem k_inst_Model_factory : Cond.instanceMethod y_Model_factory ∈ lw_g := List.mem_filter.mpr ⟨mem_t3 (List.mem_of_getElem? (i := 119) rfl), rfl⟩
theorem k_sel_Model_factory : Cond.selects R_Model y_Model_factory y_Model_factory ∈ lw_g := List.mem_filter.mpr ⟨mem_t3 (List.mem_of_getElem? (i := 120) rfl), rfl⟩
theorem k_ml_Model_97 : Cond.methodLink R_Model 97 y_Model_isSector ∈ lw_g := List.mem_filter.mpr ⟨mem_t3 (List.mem_of_getElem? (i := 122) rfl), rfl⟩
theorem k_stat_Model_isSector : Cond.static y_Model_isSector ∈ lw_g := List.mem_filter.mpr ⟨mem_t3 (List.mem_of_getElem? (i := 123) rfl), rfl⟩
theorem k_ml_Model_54 : Cond.methodLink R_Model 54 y_Model_in ∈ lw_g := List.mem_filter.mpr ⟨mem_t3 (List.mem_of_getElem? (i := 125) rfl), rfl⟩
theorem k_stat_Model_in : Cond.static y_Model_in ∈ lw_g := List.mem_filter.mpr ⟨mem_t3 (List.mem_of_getElem? (i := 126) rfl), rfl⟩
theorem k_ml_law_82 : Cond.methodLink R_law 82 y_Model_format ∈ lw_g := List.mem_filter.mpr ⟨mem_t3 (List.mem_of_getElem? (i := 128) rfl), rfl⟩
theorem k_inst_Model_format : Cond.instanceMethod y_Model_format ∈ lw_g := List.mem_filter.mpr ⟨mem_t3 (List.mem_of_getElem? (i := 129) rfl), rfl⟩
theorem k_sel_Model_format : Cond.selects R_Model y_Model_format y_Model_format ∈ lw_g := List.mem_filter.mpr ⟨mem_t3 (List.mem_of_getElem? (i := 130) rfl), rfl⟩
theorem k_ml_Model_76 : Cond.methodLink R_Model 76 y_Model_pairOfFirst ∈ lw_g := List.mem_filter.mpr ⟨mem_t3 (List.mem_of_getElem? (i := 132) rfl), rfl⟩
theorem k_inst_Model_pairOfFirst : Cond.instanceMethod y_Model_pairOfFirst ∈ lw_g := List.mem_filter.mpr ⟨mem_t3 (List.mem_of_getElem? (i := 134) rfl), rfl⟩
theorem k_ml_Model_89 : Cond.methodLink R_Model 89 y_Model_writesOne ∈ lw_g := List.mem_filter.mpr ⟨mem_t3 (List.mem_of_getElem? (i := 136) rfl), rfl⟩
theorem k_inst_Model_writesOne : Cond.instanceMethod y_Model_writesOne ∈ lw_g := List.mem_filter.mpr ⟨mem_t3 (List.mem_of_getElem? (i := 138) rfl), rfl⟩
theorem k_ml_Model_106 : Cond.methodLink R_Model 106 y_Model_writesLists ∈ lw_g := List.mem_filter.mpr ⟨mem_t3 (List.mem_of_getElem? (i := 140) rfl), rfl⟩
theorem k_inst_Model_writesLists : Cond.instanceMethod y_Model_writesLists ∈ lw_g := List.mem_filter.mpr ⟨mem_t3 (List.mem_of_getElem? (i := 142) rfl), rfl⟩
theorem k_ml_Model_93 : Cond.methodLink R_Model 93 y_Model_copyLists ∈ lw_g := List.mem_filter.mpr ⟨mem_t3 (List.mem_of_getElem? (i := 144) rfl), rfl⟩
theorem k_inst_Model_copyLists : Cond.instanceMethod y_Model_copyLists ∈ lw_g := List.mem_filter.mpr ⟨mem_t3 (List.mem_of_getElem? (i := 146) rfl), rfl⟩
theorem k_ml_Model_68 : Cond.methodLink R_Model 68 y_Model_capacity ∈ lw_g := List.mem_filter.mpr ⟨mem_t3 (List.mem_of_getElem? (i := 148) rfl), rfl⟩
theorem k_inst_Model_capacity : Cond.instanceMethod y_Model_capacity ∈ lw_g := List.mem_filter.mpr ⟨mem_t3 (List.mem_of_getElem? (i := 150) rfl), rfl⟩
theorem k_ml_Model_65 : Cond.methodLink R_Model 65 y_Model_isLogical ∈ lw_g := List.mem_filter.mpr ⟨mem_t3 (List.mem_of_getElem? (i := 152) rfl), rfl⟩
theorem k_inst_Model_isLogical : Cond.instanceMethod y_Model_isLogical ∈ lw_g := List.mem_filter.mpr ⟨mem_t3 (List.mem_of_getElem? (i := 154) rfl), rfl⟩
theorem k_ml_Model_58 : Cond.methodLink R_Model 58 y_Model_isSpare ∈ lw_g := List.mem_filter.mpr ⟨mem_t3 (List.mem_of_getElem? (i := 156) rfl), rfl⟩
theorem k_stat_Model_isSpare : Cond.static y_Model_isSpare ∈ lw_g := List.mem_filter.mpr ⟨mem_t3 (List.mem_of_getElem? (i := 157) rfl), rfl⟩
theorem k_ml_Model_62 : Cond.methodLink R_Model 62 y_Model_isPrimary ∈ lw_g := List.mem_filter.mpr ⟨mem_t3 (List.mem_of_getElem? (i := 159) rfl), rfl⟩
theorem k_inst_Model_isPrimary : Cond.instanceMethod y_Model_isPrimary ∈ lw_g := List.mem_filter.mpr ⟨mem_t3 (List.mem_of_getElem? (i := 161) rfl), rfl⟩
theorem k_ml_law_86 : Cond.methodLink R_law 86 y_Model_write ∈ lw_g := List.mem_filter.mpr ⟨mem_t3 (List.mem_of_getElem? (i := 163) rfl), rfl⟩
theorem k_inst_Model_write : Cond.instanceMethod y_Model_write ∈ lw_g := List.mem_filter.mpr ⟨mem_t3 (List.mem_of_getElem? (i := 164) rfl), rfl⟩
theorem k_sel_Model_write : Cond.selects R_Model y_Model_write y_Model_write ∈ lw_g := List.mem_filter.mpr ⟨mem_t3 (List.mem_of_getElem? (i := 165) rfl), rfl⟩
theorem k_ml_Model_109 : Cond.methodLink R_Model 109 y_Model_hasLogical ∈ lw_g := List.mem_filter.mpr ⟨mem_t3 (List.mem_of_getElem? (i := 167) rfl), rfl⟩
theorem k_inst_Model_hasLogical : Cond.instanceMethod y_Model_hasLogical ∈ lw_g := List.mem_filter.mpr ⟨mem_t3 (List.mem_of_getElem? (i := 169) rfl), rfl⟩
theorem k_ml_Model_112 : Cond.methodLink R_Model 112 y_Model_placeOf ∈ lw_g := List.mem_filter.mpr ⟨mem_t3 (List.mem_of_getElem? (i := 171) rfl), rfl⟩
theorem k_inst_Model_placeOf : Cond.instanceMethod y_Model_placeOf ∈ lw_g := List.mem_filter.mpr ⟨mem_t3 (List.mem_of_getElem? (i := 173) rfl), rfl⟩
theorem k_ml_Model_72 : Cond.methodLink R_Model 72 y_Model_ownOf ∈ lw_g := List.mem_filter.mpr ⟨mem_t3 (List.mem_of_getElem? (i := 175) rfl), rfl⟩
theorem k_inst_Model_ownOf : Cond.instanceMethod y_Model_ownOf ∈ lw_g := List.mem_filter.mpr ⟨mem_t3 (List.mem_of_getElem? (i := 177) rfl), rfl⟩
theorem k_ml_law_90 : Cond.methodLink R_law 90 y_Model_read ∈ lw_g := List.mem_filter.mpr ⟨mem_t3 (List.mem_of_getElem? (i := 179) rfl), rfl⟩
theorem k_inst_Model_read : Cond.instanceMethod y_Model_read ∈ lw_g := List.mem_filter.mpr ⟨mem_t3 (List.mem_of_getElem? (i := 180) rfl), rfl⟩
theorem k_sel_Model_read : Cond.selects R_Model y_Model_read y_Model_read ∈ lw_g := List.mem_filter.mpr ⟨mem_t3 (List.mem_of_getElem? (i := 181) rfl), rfl⟩
theorem k_ml_law_93 : Cond.methodLink R_law 93 y_Model_reassign ∈ lw_g := List.mem_filter.mpr ⟨mem_t3 (List.mem_of_getElem? (i := 183) rfl), rfl⟩
theorem k_inst_Model_reassign : Cond.instanceMethod y_Model_reassign ∈ lw_g := List.mem_filter.mpr ⟨mem_t3 (List.mem_of_getElem? (i := 184) rfl), rfl⟩
theorem k_sel_Model_reassign : Cond.selects R_Model y_Model_reassign y_Model_reassign ∈ lw_g := List.mem_filter.mpr ⟨mem_t3 (List.mem_of_getElem? (i := 185) rfl), rfl⟩
theorem k_ml_Model_118 : Cond.methodLink R_Model 118 y_Model_nearest ∈ lw_g := List.mem_filter.mpr ⟨mem_t3 (List.mem_of_getElem? (i := 187) rfl), rfl⟩
theorem k_inst_Model_nearest : Cond.instanceMethod y_Model_nearest ∈ lw_g := List.mem_filter.mpr ⟨mem_t3 (List.mem_of_getElem? (i := 189) rfl), rfl⟩
theorem k_ml_Model_115 : Cond.methodLink R_Model 115 y_Model_isFreeSpare ∈ lw_g := List.mem_filter.mpr ⟨mem_t3 (List.mem_of_getElem? (i := 191) rfl), rfl⟩
theorem k_inst_Model_isFreeSpare : Cond.instanceMethod y_Model_isFreeSpare ∈ lw_g := List.mem_filter.mpr ⟨mem_t3 (List.mem_of_getElem? (i := 193) rfl), rfl⟩
theorem k_ml_Model_79 : Cond.methodLink R_Model 79 y_Model_pairOfSpare ∈ lw_g := List.mem_filter.mpr ⟨mem_t3 (List.mem_of_getElem? (i := 195) rfl), rfl⟩
theorem k_inst_Model_pairOfSpare : Cond.instanceMethod y_Model_pairOfSpare ∈ lw_g := List.mem_filter.mpr ⟨mem_t3 (List.mem_of_getElem? (i := 197) rfl), rfl⟩
theorem k_ml_law_97 : Cond.methodLink R_law 97 y_Model_spoil ∈ lw_g := List.mem_filter.mpr ⟨mem_t3 (List.mem_of_getElem? (i := 199) rfl), rfl⟩
theorem k_inst_Model_spoil : Cond.instanceMethod y_Model_spoil ∈ lw_g := List.mem_filter.mpr ⟨mem_t3 (List.mem_of_getElem? (i := 200) rfl), rfl⟩
theorem k_sel_Model_spoil : Cond.selects R_Model y_Model_spoil y_Model_spoil ∈ lw_g := List.mem_filter.mpr ⟨mem_t3 (List.mem_of_getElem? (i := 201) rfl), rfl⟩
theorem k_ml_law_100 : Cond.methodLink R_law 100 y_Model_cutAfter ∈ lw_g := List.mem_filter.mpr ⟨mem_t3 (List.mem_of_getElem? (i := 203) rfl), rfl⟩
theorem k_inst_Model_cutAfter : Cond.instanceMethod y_Model_cutAfter ∈ lw_g := List.mem_filter.mpr ⟨mem_t3 (List.mem_of_getElem? (i := 204) rfl), rfl⟩
theorem k_sel_Model_cutAfter : Cond.selects R_Model y_Model_cutAfter y_Model_cutAfter ∈ lw_g := List.mem_filter.mpr ⟨mem_t3 (List.mem_of_getElem? (i := 205) rfl), rfl⟩
theorem k_ml_law_104 : Cond.methodLink R_law 104 y_Model_start ∈ lw_g := List.mem_filter.mpr ⟨mem_t3 (List.mem_of_getElem? (i := 207) rfl), rfl⟩
theorem k_inst_Model_start : Cond.instanceMethod y_Model_start ∈ lw_g := List.mem_filter.mpr ⟨mem_t3 (List.mem_of_getElem? (i := 208) rfl), rfl⟩
theorem k_sel_Model_start : Cond.selects R_Model y_Model_start y_Model_start ∈ lw_g := List.mem_filter.mpr ⟨mem_t3 (List.mem_of_getElem? (i := 209) rfl), rfl⟩
theorem k_ml_law_107 : Cond.methodLink R_law 107 y_Model_physical ∈ lw_g := List.mem_filter.mpr ⟨mem_t3 (List.mem_of_getElem? (i := 211) rfl), rfl⟩
theorem k_inst_Model_physical : Cond.instanceMethod y_Model_physical ∈ lw_g := List.mem_filter.mpr ⟨mem_t3 (List.mem_of_getElem? (i := 212) rfl), rfl⟩
theorem k_sel_Model_physical : Cond.selects R_Model y_Model_physical y_Model_physical ∈ lw_g := List.mem_filter.mpr ⟨mem_t3 (List.mem_of_getElem? (i := 213) rfl), rfl⟩
theorem k_ml_law_110 : Cond.methodLink R_law 110 y_Model_logical ∈ lw_g := List.mem_filter.mpr ⟨mem_t3 (List.mem_of_getElem? (i := 215) rfl), rfl⟩
theorem k_inst_Model_logical : Cond.instanceMethod y_Model_logical ∈ lw_g := List.mem_filter.mpr ⟨mem_t3 (List.mem_of_getElem? (i := 216) rfl), rfl⟩
theorem k_sel_Model_logical : Cond.selects R_Model y_Model_logical y_Model_logical ∈ lw_g := List.mem_filter.mpr ⟨mem_t3 (List.mem_of_getElem? (i := 217) rfl), rfl⟩
theorem k_ml_law_113 : Cond.methodLink R_law 113 y_Model_spares ∈ lw_g := List.mem_filter.mpr ⟨mem_t3 (List.mem_of_getElem? (i := 219) rfl), rfl⟩
theorem k_inst_Model_spares : Cond.instanceMethod y_Model_spares ∈ lw_g := List.mem_filter.mpr ⟨mem_t3 (List.mem_of_getElem? (i := 220) rfl), rfl⟩
theorem k_sel_Model_spares : Cond.selects R_Model y_Model_spares y_Model_spares ∈ lw_g := List.mem_filter.mpr ⟨mem_t3 (List.mem_of_getElem? (i := 221) rfl), rfl⟩
theorem k_ml_law_116 : Cond.methodLink R_law 116 y_Model_grown ∈ lw_g := List.mem_filter.mpr ⟨mem_t3 (List.mem_of_getElem? (i := 223) rfl), rfl⟩
theorem k_inst_Model_grown : Cond.instanceMethod y_Model_grown ∈ lw_g := List.mem_filter.mpr ⟨mem_t3 (List.mem_of_getElem? (i := 224) rfl), rfl⟩
theorem k_sel_Model_grown : Cond.selects R_Model y_Model_grown y_Model_grown ∈ lw_g := List.mem_filter.mpr ⟨mem_t3 (List.mem_of_getElem? (i := 225) rfl), rfl⟩
theorem k_ml_law_119 : Cond.methodLink R_law 119 y_Model_primary ∈ lw_g := List.mem_filter.mpr ⟨mem_t3 (List.mem_of_getElem? (i := 227) rfl), rfl⟩
theorem k_inst_Model_primary : Cond.instanceMethod y_Model_primary ∈ lw_g := List.mem_filter.mpr ⟨mem_t3 (List.mem_of_getElem? (i := 228) rfl), rfl⟩
theorem k_sel_Model_primary : Cond.selects R_Model y_Model_primary y_Model_primary ∈ lw_g := List.mem_filter.mpr ⟨mem_t3 (List.mem_of_getElem? (i := 229) rfl), rfl⟩
theorem k_ml_law_122 : Cond.methodLink R_law 122 y_Model_seeks ∈ lw_g := List.mem_filter.mpr ⟨mem_t3 (List.mem_of_getElem? (i := 231) rfl), rfl⟩
theorem k_inst_Model_seeks : Cond.instanceMethod y_Model_seeks ∈ lw_g := List.mem_filter.mpr ⟨mem_t3 (List.mem_of_getElem? (i := 232) rfl), rfl⟩
theorem k_sel_Model_seeks : Cond.selects R_Model y_Model_seeks y_Model_seeks ∈ lw_g := List.mem_filter.mpr ⟨mem_t3 (List.mem_of_getElem? (i := 233) rfl), rfl⟩
theorem k_ml_law_125 : Cond.methodLink R_law 125 y_Model_state ∈ lw_g := List.mem_filter.mpr ⟨mem_t3 (List.mem_of_getElem? (i := 235) rfl), rfl⟩
theorem k_inst_Model_state : Cond.instanceMethod y_Model_state ∈ lw_g := List.mem_filter.mpr ⟨mem_t3 (List.mem_of_getElem? (i := 236) rfl), rfl⟩
theorem k_sel_Model_state : Cond.selects R_Model y_Model_state y_Model_state ∈ lw_g := List.mem_filter.mpr ⟨mem_t3 (List.mem_of_getElem? (i := 237) rfl), rfl⟩
theorem k_ml_law_129 : Cond.methodLink R_law 129 y_Model_told ∈ lw_g := List.mem_filter.mpr ⟨mem_t3 (List.mem_of_getElem? (i := 239) rfl), rfl⟩
theorem k_inst_Model_told : Cond.instanceMethod y_Model_told ∈ lw_g := List.mem_filter.mpr ⟨mem_t4 (List.mem_of_getElem? (i := 0) rfl), rfl⟩
theorem k_sel_Model_told : Cond.selects R_Model y_Model_told y_Model_told ∈ lw_g := List.mem_filter.mpr ⟨mem_t4 (List.mem_of_getElem? (i := 1) rfl), rfl⟩
theorem k_arr_J : Cond.arrayClass .long ∈ lw_g := List.mem_filter.mpr ⟨mem_t4 (List.mem_of_getElem? (i := 3) rfl), rfl⟩
theorem k_code_DefectDrive_init : Cond.code y_DefectDrive_init b_DefectDrive_init 1 none ∈ lw_g := List.mem_filter.mpr ⟨mem_t1 (List.mem_of_getElem? (i := 22) rfl), rfl⟩
theorem k_code_Power_init : Cond.code y_Power_init b_Power_init 1 none ∈ lw_g := List.mem_filter.mpr ⟨mem_t1 (List.mem_of_getElem? (i := 30) rfl), rfl⟩
theorem k_code_Surface_init : Cond.code y_Surface_init b_Surface_init 1 none ∈ lw_g := List.mem_filter.mpr ⟨mem_t1 (List.mem_of_getElem? (i := 49) rfl), rfl⟩
theorem k_code_SectorMap_init : Cond.code y_SectorMap_init b_SectorMap_init 1 none ∈ lw_g := List.mem_filter.mpr ⟨mem_t1 (List.mem_of_getElem? (i := 68) rfl), rfl⟩
theorem k_code_Arrays_fill : Cond.code y_Arrays_fill b_Arrays_fill 4 none ∈ lw_g := List.mem_filter.mpr ⟨mem_t1 (List.mem_of_getElem? (i := 72) rfl), rfl⟩
theorem k_code_Lists_init : Cond.code y_Lists_init b_Lists_init 1 none ∈ lw_g := List.mem_filter.mpr ⟨mem_t1 (List.mem_of_getElem? (i := 98) rfl), rfl⟩
theorem k_code_DefectDrive_start : Cond.code y_DefectDrive_start b_DefectDrive_start 2 (some .int) ∈ lw_g := List.mem_filter.mpr ⟨mem_t1 (List.mem_of_getElem? (i := 166) rfl), rfl⟩
theorem k_code_DefectDrive_bringIntoForce : Cond.code y_DefectDrive_bringIntoForce b_DefectDrive_bringIntoForce 2 none ∈ lw_g := List.mem_filter.mpr ⟨mem_t1 (List.mem_of_getElem? (i := 170) rfl), rfl⟩
theorem k_code_SectorMap_follow : Cond.code y_SectorMap_follow b_SectorMap_follow 3 none ∈ lw_g := List.mem_filter.mpr ⟨mem_t1 (List.mem_of_getElem? (i := 174) rfl), rfl⟩
theorem k_code_SectorMap_forget : Cond.code y_SectorMap_forget b_SectorMap_forget 2 none ∈ lw_g := List.mem_filter.mpr ⟨mem_t1 (List.mem_of_getElem? (i := 178) rfl), rfl⟩
theorem k_code_SectorMap_numberSectors : Cond.code y_SectorMap_numberSectors b_SectorMap_numberSectors 2 none ∈ lw_g := List.mem_filter.mpr ⟨mem_t1 (List.mem_of_getElem? (i := 182) rfl), rfl⟩
theorem k_code_DefectDrive_isSpare : Cond.code y_DefectDrive_isSpare b_DefectDrive_isSpare 1 (some .boolean) ∈ lw_g := List.mem_filter.mpr ⟨mem_t1 (List.mem_of_getElem? (i := 185) rfl), rfl⟩
theorem k_code_Lists_entries : Cond.code y_Lists_entries b_Lists_entries 1 (some .int) ∈ lw_g := List.mem_filter.mpr ⟨mem_t1 (List.mem_of_getElem? (i := 189) rfl), rfl⟩
theorem k_code_SectorMap_redirect : Cond.code y_SectorMap_redirect b_SectorMap_redirect 4 none ∈ lw_g := List.mem_filter.mpr ⟨mem_t1 (List.mem_of_getElem? (i := 193) rfl), rfl⟩
theorem k_code_DefectDrive_told : Cond.code y_DefectDrive_told b_DefectDrive_told 2 (some .int) ∈ lw_g := List.mem_filter.mpr ⟨mem_t1 (List.mem_of_getElem? (i := 197) rfl), rfl⟩
theorem k_code_law_factory : Cond.codeWith y_law_factory b_law_factory 4 (some .int) [(0, 9, 12, 13), (0, 9, 15, 15), (0, 9, 18, 17)] ∈ lw_g := List.mem_filter.mpr ⟨mem_t1 (List.mem_of_getElem? (i := 200) rfl), rfl⟩
theorem k_code_DefectDrive_factory : Cond.code y_DefectDrive_factory b_DefectDrive_factory 2 (some .int) ∈ lw_g := List.mem_filter.mpr ⟨mem_t1 (List.mem_of_getElem? (i := 207) rfl), rfl⟩
theorem k_code_DefectDrive_isSector : Cond.code y_DefectDrive_isSector b_DefectDrive_isSector 1 (some .boolean) ∈ lw_g := List.mem_filter.mpr ⟨mem_t1 (List.mem_of_getElem? (i := 210) rfl), rfl⟩
theorem k_code_law_format : Cond.codeWith y_law_format b_law_format 3 (some .int) [(0, 8, 11, 17)] ∈ lw_g := List.mem_filter.mpr ⟨mem_t2 (List.mem_of_getElem? (i := 68) rfl), rfl⟩
theorem k_code_DefectDrive_format : Cond.code y_DefectDrive_format b_DefectDrive_format 1 (some .int) ∈ lw_g := List.mem_filter.mpr ⟨mem_t2 (List.mem_of_getElem? (i := 72) rfl), rfl⟩
theorem k_code_DefectDrive_countSlipped : Cond.code y_DefectDrive_countSlipped b_DefectDrive_countSlipped 3 (some .int) ∈ lw_g := List.mem_filter.mpr ⟨mem_t2 (List.mem_of_getElem? (i := 76) rfl), rfl⟩
theorem k_code_DefectDrive_isSlipped : Cond.code y_DefectDrive_isSlipped b_DefectDrive_isSlipped 2 (some .boolean) ∈ lw_g := List.mem_filter.mpr ⟨mem_t2 (List.mem_of_getElem? (i := 80) rfl), rfl⟩
theorem k_code_Lists_pairOf : Cond.code y_Lists_pairOf b_Lists_pairOf 3 (some .int) ∈ lw_g := List.mem_filter.mpr ⟨mem_t2 (List.mem_of_getElem? (i := 84) rfl), rfl⟩
theorem k_code_DefectDrive_wipeGoodSectors : Cond.code y_DefectDrive_wipeGoodSectors b_DefectDrive_wipeGoodSectors 2 (some .boolean) ∈ lw_g := List.mem_filter.mpr ⟨mem_t2 (List.mem_of_getElem? (i := 88) rfl), rfl⟩
theorem k_code_Power_lastsForOneWrite : Cond.code y_Power_lastsForOneWrite b_Power_lastsForOneWrite 1 (some .boolean) ∈ lw_g := List.mem_filter.mpr ⟨mem_t2 (List.mem_of_getElem? (i := 92) rfl), rfl⟩
theorem k_code_Surface_wipe : Cond.code y_Surface_wipe b_Surface_wipe 3 none ∈ lw_g := List.mem_filter.mpr ⟨mem_t2 (List.mem_of_getElem? (i := 96) rfl), rfl⟩
theorem k_code_Surface_put : Cond.code y_Surface_put b_Surface_put 4 none ∈ lw_g := List.mem_filter.mpr ⟨mem_t2 (List.mem_of_getElem? (i := 100) rfl), rfl⟩
theorem k_code_DefectDrive_draftSlipped : Cond.code y_DefectDrive_draftSlipped b_DefectDrive_draftSlipped 2 none ∈ lw_g := List.mem_filter.mpr ⟨mem_t2 (List.mem_of_getElem? (i := 104) rfl), rfl⟩
theorem k_code_Lists_becomeEmpty : Cond.code y_Lists_becomeEmpty b_Lists_becomeEmpty 2 none ∈ lw_g := List.mem_filter.mpr ⟨mem_t2 (List.mem_of_getElem? (i := 108) rfl), rfl⟩
theorem k_code_Lists_addPrimary : Cond.code y_Lists_addPrimary b_Lists_addPrimary 2 none ∈ lw_g := List.mem_filter.mpr ⟨mem_t2 (List.mem_of_getElem? (i := 112) rfl), rfl⟩
theorem k_code_DefectDrive_writeDraft : Cond.code y_DefectDrive_writeDraft b_DefectDrive_writeDraft 3 (some .boolean) ∈ lw_g := List.mem_filter.mpr ⟨mem_t2 (List.mem_of_getElem? (i := 117) rfl), rfl⟩
theorem k_code_Lists_begin : Cond.code y_Lists_begin b_Lists_begin 2 none ∈ lw_g := List.mem_filter.mpr ⟨mem_t2 (List.mem_of_getElem? (i := 121) rfl), rfl⟩
theorem k_code_Lists_takePart : Cond.code y_Lists_takePart b_Lists_takePart 5 none ∈ lw_g := List.mem_filter.mpr ⟨mem_t2 (List.mem_of_getElem? (i := 126) rfl), rfl⟩
theorem k_code_law_write : Cond.codeWith y_law_write b_law_write 6 (some .int) [(0, 12, 15, 13)] ∈ lw_g := List.mem_filter.mpr ⟨mem_t2 (List.mem_of_getElem? (i := 132) rfl), rfl⟩
theorem k_code_DefectDrive_write : Cond.code y_DefectDrive_write b_DefectDrive_write 5 (some .int) ∈ lw_g := List.mem_filter.mpr ⟨mem_t2 (List.mem_of_getElem? (i := 136) rfl), rfl⟩
theorem k_code_SectorMap_holds : Cond.code y_SectorMap_holds b_SectorMap_holds 2 (some .boolean) ∈ lw_g := List.mem_filter.mpr ⟨mem_t2 (List.mem_of_getElem? (i := 140) rfl), rfl⟩
theorem k_code_DefectDrive_isWord : Cond.code y_DefectDrive_isWord b_DefectDrive_isWord 1 (some .boolean) ∈ lw_g := List.mem_filter.mpr ⟨mem_t2 (List.mem_of_getElem? (i := 143) rfl), rfl⟩
theorem k_code_law_read : Cond.codeWith y_law_read b_law_read 5 (some .int) [(0, 10, 13, 13), (0, 10, 17, 31), (0, 10, 21, 17), (0, 10, 25, 33)] ∈ lw_g := List.mem_filter.mpr ⟨mem_t2 (List.mem_of_getElem? (i := 147) rfl), rfl⟩
theorem k_code_DefectDrive_read : Cond.code y_DefectDrive_read b_DefectDrive_read 4 (some .int) ∈ lw_g := List.mem_filter.mpr ⟨mem_t2 (List.mem_of_getElem? (i := 153) rfl), rfl⟩
theorem k_code_Surface_isLost : Cond.code y_Surface_isLost b_Surface_isLost 3 (some .boolean) ∈ lw_g := List.mem_filter.mpr ⟨mem_t2 (List.mem_of_getElem? (i := 172) rfl), rfl⟩
theorem k_code_Surface_wordOf : Cond.code y_Surface_wordOf b_Surface_wordOf 3 (some .int) ∈ lw_g := List.mem_filter.mpr ⟨mem_t2 (List.mem_of_getElem? (i := 191) rfl), rfl⟩
theorem k_code_law_reassign : Cond.codeWith y_law_reassign b_law_reassign 4 (some .int) [(0, 9, 12, 13)] ∈ lw_g := List.mem_filter.mpr ⟨mem_t2 (List.mem_of_getElem? (i := 194) rfl), rfl⟩
theorem k_code_DefectDrive_reassign : Cond.code y_DefectDrive_reassign b_DefectDrive_reassign 6 (some .int) ∈ lw_g := List.mem_filter.mpr ⟨mem_t2 (List.mem_of_getElem? (i := 198) rfl), rfl⟩
theorem k_code_DefectDrive_nearestFreeSpare : Cond.code y_DefectDrive_nearestFreeSpare b_DefectDrive_nearestFreeSpare 6 (some .int) ∈ lw_g := List.mem_filter.mpr ⟨mem_t2 (List.mem_of_getElem? (i := 202) rfl), rfl⟩
theorem k_code_DefectDrive_cylinderOf : Cond.code y_DefectDrive_cylinderOf b_DefectDrive_cylinderOf 1 (some .int) ∈ lw_g := List.mem_filter.mpr ⟨mem_t2 (List.mem_of_getElem? (i := 205) rfl), rfl⟩
theorem k_code_DefectDrive_isFreeSpare : Cond.code y_DefectDrive_isFreeSpare b_DefectDrive_isFreeSpare 2 (some .boolean) ∈ lw_g := List.mem_filter.mpr ⟨mem_t2 (List.mem_of_getElem? (i := 212) rfl), rfl⟩
theorem k_code_Lists_hasRoomForPairOf : Cond.code y_Lists_hasRoomForPairOf b_Lists_hasRoomForPairOf 2 (some .boolean) ∈ lw_g := List.mem_filter.mpr ⟨mem_t2 (List.mem_of_getElem? (i := 217) rfl), rfl⟩
theorem k_code_Surface_move : Cond.code y_Surface_move b_Surface_move 4 none ∈ lw_g := List.mem_filter.mpr ⟨mem_t2 (List.mem_of_getElem? (i := 222) rfl), rfl⟩
theorem k_code_Lists_becomeWithPair : Cond.code y_Lists_becomeWithPair b_Lists_becomeWithPair 5 none ∈ lw_g := List.mem_filter.mpr ⟨mem_t2 (List.mem_of_getElem? (i := 226) rfl), rfl⟩
theorem k_code_law_spoil : Cond.codeWith y_law_spoil b_law_spoil 5 (some .int) [(0, 10, 13, 13), (0, 10, 17, 15)] ∈ lw_g := List.mem_filter.mpr ⟨mem_t2 (List.mem_of_getElem? (i := 232) rfl), rfl⟩
theorem k_code_DefectDrive_spoil : Cond.code y_DefectDrive_spoil b_DefectDrive_spoil 4 (some .int) ∈ lw_g := List.mem_filter.mpr ⟨mem_t2 (List.mem_of_getElem? (i := 236) rfl), rfl⟩
theorem k_code_law_cutAfter : Cond.codeWith y_law_cutAfter b_law_cutAfter 4 (some .int) [(0, 9, 12, 15)] ∈ lw_g := List.mem_filter.mpr ⟨mem_t2 (List.mem_of_getElem? (i := 239) rfl), rfl⟩
theorem k_code_DefectDrive_cutAfter : Cond.code y_DefectDrive_cutAfter b_DefectDrive_cutAfter 2 (some .int) ∈ lw_g := List.mem_filter.mpr ⟨mem_t3 (List.mem_of_getElem? (i := 3) rfl), rfl⟩
theorem k_code_law_physical : Cond.codeWith y_law_physical b_law_physical 4 (some .int) [(0, 9, 12, 13)] ∈ lw_g := List.mem_filter.mpr ⟨mem_t3 (List.mem_of_getElem? (i := 6) rfl), rfl⟩
theorem k_code_DefectDrive_physical : Cond.code y_DefectDrive_physical b_DefectDrive_physical 2 (some .int) ∈ lw_g := List.mem_filter.mpr ⟨mem_t3 (List.mem_of_getElem? (i := 10) rfl), rfl⟩
theorem k_code_law_logical : Cond.codeWith y_law_logical b_law_logical 4 (some .int) [(0, 9, 12, 13)] ∈ lw_g := List.mem_filter.mpr ⟨mem_t3 (List.mem_of_getElem? (i := 13) rfl), rfl⟩
theorem k_code_DefectDrive_logical : Cond.code y_DefectDrive_logical b_DefectDrive_logical 2 (some .int) ∈ lw_g := List.mem_filter.mpr ⟨mem_t3 (List.mem_of_getElem? (i := 17) rfl), rfl⟩
theorem k_code_law_spares : Cond.codeWith y_law_spares b_law_spares 4 (some .int) [(0, 9, 12, 13)] ∈ lw_g := List.mem_filter.mpr ⟨mem_t3 (List.mem_of_getElem? (i := 20) rfl), rfl⟩
theorem k_code_DefectDrive_spares : Cond.code y_DefectDrive_spares b_DefectDrive_spares 6 (some .int) ∈ lw_g := List.mem_filter.mpr ⟨mem_t3 (List.mem_of_getElem? (i := 24) rfl), rfl⟩
theorem k_code_law_grown : Cond.codeWith y_law_grown b_law_grown 5 (some .int) [(0, 10, 13, 13)] ∈ lw_g := List.mem_filter.mpr ⟨mem_t3 (List.mem_of_getElem? (i := 27) rfl), rfl⟩
theorem k_code_DefectDrive_grown : Cond.code y_DefectDrive_grown b_DefectDrive_grown 4 (some .int) ∈ lw_g := List.mem_filter.mpr ⟨mem_t3 (List.mem_of_getElem? (i := 31) rfl), rfl⟩
theorem k_code_law_primary : Cond.codeWith y_law_primary b_law_primary 4 (some .int) [(0, 9, 12, 13)] ∈ lw_g := List.mem_filter.mpr ⟨mem_t3 (List.mem_of_getElem? (i := 34) rfl), rfl⟩
theorem k_code_DefectDrive_primary : Cond.code y_DefectDrive_primary b_DefectDrive_primary 2 (some .int) ∈ lw_g := List.mem_filter.mpr ⟨mem_t3 (List.mem_of_getElem? (i := 38) rfl), rfl⟩
theorem k_code_law_seeks : Cond.codeWith y_law_seeks b_law_seeks 5 (some .int) [(0, 10, 13, 13)] ∈ lw_g := List.mem_filter.mpr ⟨mem_t3 (List.mem_of_getElem? (i := 41) rfl), rfl⟩
theorem k_code_DefectDrive_seeks : Cond.code y_DefectDrive_seeks b_DefectDrive_seeks 5 (some .int) ∈ lw_g := List.mem_filter.mpr ⟨mem_t3 (List.mem_of_getElem? (i := 45) rfl), rfl⟩
theorem k_code_law_state : Cond.codeWith y_law_state b_law_state 4 (some .int) [(0, 9, 12, 13)] ∈ lw_g := List.mem_filter.mpr ⟨mem_t3 (List.mem_of_getElem? (i := 48) rfl), rfl⟩
theorem k_code_DefectDrive_state : Cond.code y_DefectDrive_state b_DefectDrive_state 2 (some .int) ∈ lw_g := List.mem_filter.mpr ⟨mem_t3 (List.mem_of_getElem? (i := 52) rfl), rfl⟩
theorem k_code_Model_init : Cond.code y_Model_init b_Model_init 1 none ∈ lw_g := List.mem_filter.mpr ⟨mem_t3 (List.mem_of_getElem? (i := 57) rfl), rfl⟩
theorem k_code_Model_thrown : Cond.code y_Model_thrown b_Model_thrown 1 (some .int) ∈ lw_g := List.mem_filter.mpr ⟨mem_t3 (List.mem_of_getElem? (i := 117) rfl), rfl⟩
theorem k_code_Model_factory : Cond.code y_Model_factory b_Model_factory 2 (some .int) ∈ lw_g := List.mem_filter.mpr ⟨mem_t3 (List.mem_of_getElem? (i := 121) rfl), rfl⟩
theorem k_code_Model_isSector : Cond.code y_Model_isSector b_Model_isSector 1 (some .boolean) ∈ lw_g := List.mem_filter.mpr ⟨mem_t3 (List.mem_of_getElem? (i := 124) rfl), rfl⟩
theorem k_code_Model_in : Cond.code y_Model_in b_Model_in 3 (some .boolean) ∈ lw_g := List.mem_filter.mpr ⟨mem_t3 (List.mem_of_getElem? (i := 127) rfl), rfl⟩
theorem k_code_Model_format : Cond.code y_Model_format b_Model_format 4 (some .int) ∈ lw_g := List.mem_filter.mpr ⟨mem_t3 (List.mem_of_getElem? (i := 131) rfl), rfl⟩
theorem k_code_Model_pairOfFirst : Cond.code y_Model_pairOfFirst b_Model_pairOfFirst 4 (some .int) ∈ lw_g := List.mem_filter.mpr ⟨mem_t3 (List.mem_of_getElem? (i := 135) rfl), rfl⟩
theorem k_code_Model_writesOne : Cond.code y_Model_writesOne b_Model_writesOne 1 (some .boolean) ∈ lw_g := List.mem_filter.mpr ⟨mem_t3 (List.mem_of_getElem? (i := 139) rfl), rfl⟩
theorem k_code_Model_writesLists : Cond.code y_Model_writesLists b_Model_writesLists 4 (some .boolean) ∈ lw_g := List.mem_filter.mpr ⟨mem_t3 (List.mem_of_getElem? (i := 143) rfl), rfl⟩
theorem k_code_Model_copyLists : Cond.code y_Model_copyLists b_Model_copyLists 4 none ∈ lw_g := List.mem_filter.mpr ⟨mem_t3 (List.mem_of_getElem? (i := 147) rfl), rfl⟩
theorem k_code_Model_capacity : Cond.code y_Model_capacity b_Model_capacity 3 (some .int) ∈ lw_g := List.mem_filter.mpr ⟨mem_t3 (List.mem_of_getElem? (i := 151) rfl), rfl⟩
theorem k_code_Model_isLogical : Cond.code y_Model_isLogical b_Model_isLogical 2 (some .boolean) ∈ lw_g := List.mem_filter.mpr ⟨mem_t3 (List.mem_of_getElem? (i := 155) rfl), rfl⟩
theorem k_code_Model_isSpare : Cond.code y_Model_isSpare b_Model_isSpare 1 (some .boolean) ∈ lw_g := List.mem_filter.mpr ⟨mem_t3 (List.mem_of_getElem? (i := 158) rfl), rfl⟩
theorem k_code_Model_isPrimary : Cond.code y_Model_isPrimary b_Model_isPrimary 4 (some .boolean) ∈ lw_g := List.mem_filter.mpr ⟨mem_t3 (List.mem_of_getElem? (i := 162) rfl), rfl⟩
theorem k_code_Model_write : Cond.code y_Model_write b_Model_write 5 (some .int) ∈ lw_g := List.mem_filter.mpr ⟨mem_t3 (List.mem_of_getElem? (i := 166) rfl), rfl⟩
theorem k_code_Model_hasLogical : Cond.code y_Model_hasLogical b_Model_hasLogical 2 (some .boolean) ∈ lw_g := List.mem_filter.mpr ⟨mem_t3 (List.mem_of_getElem? (i := 170) rfl), rfl⟩
theorem k_code_Model_placeOf : Cond.code y_Model_placeOf b_Model_placeOf 4 (some .int) ∈ lw_g := List.mem_filter.mpr ⟨mem_t3 (List.mem_of_getElem? (i := 174) rfl), rfl⟩
theorem k_code_Model_ownOf : Cond.code y_Model_ownOf b_Model_ownOf 4 (some .int) ∈ lw_g := List.mem_filter.mpr ⟨mem_t3 (List.mem_of_getElem? (i := 178) rfl), rfl⟩
theorem k_code_Model_read : Cond.code y_Model_read b_Model_read 4 (some .int) ∈ lw_g := List.mem_filter.mpr ⟨mem_t3 (List.mem_of_getElem? (i := 182) rfl), rfl⟩
theorem k_code_Model_reassign : Cond.code y_Model_reassign b_Model_reassign 9 (some .int) ∈ lw_g := List.mem_filter.mpr ⟨mem_t3 (List.mem_of_getElem? (i := 186) rfl), rfl⟩
theorem k_code_Model_nearest : Cond.code y_Model_nearest b_Model_nearest 6 (some .int) ∈ lw_g := List.mem_filter.mpr ⟨mem_t3 (List.mem_of_getElem? (i := 190) rfl), rfl⟩
theorem k_code_Model_isFreeSpare : Cond.code y_Model_isFreeSpare b_Model_isFreeSpare 2 (some .boolean) ∈ lw_g := List.mem_filter.mpr ⟨mem_t3 (List.mem_of_getElem? (i := 194) rfl), rfl⟩
theorem k_code_Model_pairOfSpare : Cond.code y_Model_pairOfSpare b_Model_pairOfSpare 4 (some .int) ∈ lw_g := List.mem_filter.mpr ⟨mem_t3 (List.mem_of_getElem? (i := 198) rfl), rfl⟩
theorem k_code_Model_spoil : Cond.code y_Model_spoil b_Model_spoil 4 (some .int) ∈ lw_g := List.mem_filter.mpr ⟨mem_t3 (List.mem_of_getElem? (i := 202) rfl), rfl⟩
theorem k_code_Model_cutAfter : Cond.code y_Model_cutAfter b_Model_cutAfter 2 (some .int) ∈ lw_g := List.mem_filter.mpr ⟨mem_t3 (List.mem_of_getElem? (i := 206) rfl), rfl⟩
theorem k_code_Model_start : Cond.code y_Model_start b_Model_start 2 (some .int) ∈ lw_g := List.mem_filter.mpr ⟨mem_t3 (List.mem_of_getElem? (i := 210) rfl), rfl⟩
theorem k_code_Model_physical : Cond.code y_Model_physical b_Model_physical 2 (some .int) ∈ lw_g := List.mem_filter.mpr ⟨mem_t3 (List.mem_of_getElem? (i := 214) rfl), rfl⟩
theorem k_code_Model_logical : Cond.code y_Model_logical b_Model_logical 5 (some .int) ∈ lw_g := List.mem_filter.mpr ⟨mem_t3 (List.mem_of_getElem? (i := 218) rfl), rfl⟩
theorem k_code_Model_spares : Cond.code y_Model_spares b_Model_spares 4 (some .int) ∈ lw_g := List.mem_filter.mpr ⟨mem_t3 (List.mem_of_getElem? (i := 222) rfl), rfl⟩
theorem k_code_Model_grown : Cond.code y_Model_grown b_Model_grown 3 (some .int) ∈ lw_g := List.mem_filter.mpr ⟨mem_t3 (List.mem_of_getElem? (i := 226) rfl), rfl⟩
theorem k_code_Model_primary : Cond.code y_Model_primary b_Model_primary 2 (some .int) ∈ lw_g := List.mem_filter.mpr ⟨mem_t3 (List.mem_of_getElem? (i := 230) rfl), rfl⟩
theorem k_code_Model_seeks : Cond.code y_Model_seeks b_Model_seeks 5 (some .int) ∈ lw_g := List.mem_filter.mpr ⟨mem_t3 (List.mem_of_getElem? (i := 234) rfl), rfl⟩
theorem k_code_Model_state : Cond.code y_Model_state b_Model_state 2 (some .int) ∈ lw_g := List.mem_filter.mpr ⟨mem_t3 (List.mem_of_getElem? (i := 238) rfl), rfl⟩
theorem k_code_Model_told : Cond.code y_Model_told b_Model_told 2 (some .int) ∈ lw_g := List.mem_filter.mpr ⟨mem_t4 (List.mem_of_getElem? (i := 2) rfl), rfl⟩
def w_DefectDrive_init : List Cond := .code y_DefectDrive_init b_DefectDrive_init 1 none :: lw_g
def w_Power_init : List Cond := .code y_Power_init b_Power_init 1 none :: lw_g
def w_Surface_init : List Cond := .code y_Surface_init b_Surface_init 1 none :: lw_g
def w_SectorMap_init : List Cond := .code y_SectorMap_init b_SectorMap_init 1 none :: lw_g
def w_Arrays_fill : List Cond := .code y_Arrays_fill b_Arrays_fill 4 none :: lw_g
def w_Lists_init : List Cond := .code y_Lists_init b_Lists_init 1 none :: lw_g
def w_DefectDrive_start : List Cond := .code y_DefectDrive_start b_DefectDrive_start 2 (some .int) :: lw_g
def w_DefectDrive_bringIntoForce : List Cond := .code y_DefectDrive_bringIntoForce b_DefectDrive_bringIntoForce 2 none :: lw_g
def w_SectorMap_follow : List Cond := .code y_SectorMap_follow b_SectorMap_follow 3 none :: lw_g
def w_SectorMap_forget : List Cond := .code y_SectorMap_forget b_SectorMap_forget 2 none :: lw_g
def w_SectorMap_numberSectors : List Cond := .code y_SectorMap_numberSectors b_SectorMap_numberSectors 2 none :: lw_g
def w_DefectDrive_isSpare : List Cond := .code y_DefectDrive_isSpare b_DefectDrive_isSpare 1 (some .boolean) :: lw_g
def w_Lists_entries : List Cond := .code y_Lists_entries b_Lists_entries 1 (some .int) :: lw_g
def w_SectorMap_redirect : List Cond := .code y_SectorMap_redirect b_SectorMap_redirect 4 none :: lw_g
def w_DefectDrive_told : List Cond := .code y_DefectDrive_told b_DefectDrive_told 2 (some .int) :: lw_g
def w_law_factory : List Cond := .codeWith y_law_factory b_law_factory 4 (some .int) [(0, 9, 12, 13), (0, 9, 15, 15), (0, 9, 18, 17)] :: lw_g
def w_DefectDrive_factory : List Cond := .code y_DefectDrive_factory b_DefectDrive_factory 2 (some .int) :: lw_g
def w_DefectDrive_isSector : List Cond := .code y_DefectDrive_isSector b_DefectDrive_isSector 1 (some .boolean) :: lw_g
def w_law_format : List Cond := .codeWith y_law_format b_law_format 3 (some .int) [(0, 8, 11, 17)] :: lw_g
def w_DefectDrive_format : List Cond := .code y_DefectDrive_format b_DefectDrive_format 1 (some .int) :: lw_g
def w_DefectDrive_countSlipped : List Cond := .code y_DefectDrive_countSlipped b_DefectDrive_countSlipped 3 (some .int) :: lw_g
def w_DefectDrive_isSlipped : List Cond := .code y_DefectDrive_isSlipped b_DefectDrive_isSlipped 2 (some .boolean) :: lw_g
def w_Lists_pairOf : List Cond := .code y_Lists_pairOf b_Lists_pairOf 3 (some .int) :: lw_g
def w_DefectDrive_wipeGoodSectors : List Cond := .code y_DefectDrive_wipeGoodSectors b_DefectDrive_wipeGoodSectors 2 (some .boolean) :: lw_g
def w_Power_lastsForOneWrite : List Cond := .code y_Power_lastsForOneWrite b_Power_lastsForOneWrite 1 (some .boolean) :: lw_g
def w_Surface_wipe : List Cond := .code y_Surface_wipe b_Surface_wipe 3 none :: lw_g
def w_Surface_put : List Cond := .code y_Surface_put b_Surface_put 4 none :: lw_g
def w_DefectDrive_draftSlipped : List Cond := .code y_DefectDrive_draftSlipped b_DefectDrive_draftSlipped 2 none :: lw_g
def w_Lists_becomeEmpty : List Cond := .code y_Lists_becomeEmpty b_Lists_becomeEmpty 2 none :: lw_g
def w_Lists_addPrimary : List Cond := .code y_Lists_addPrimary b_Lists_addPrimary 2 none :: lw_g
def w_DefectDrive_writeDraft : List Cond := .code y_DefectDrive_writeDraft b_DefectDrive_writeDraft 3 (some .boolean) :: lw_g
def w_Lists_begin : List Cond := .code y_Lists_begin b_Lists_begin 2 none :: lw_g
def w_Lists_takePart : List Cond := .code y_Lists_takePart b_Lists_takePart 5 none :: lw_g
def w_law_write : List Cond := .codeWith y_law_write b_law_write 6 (some .int) [(0, 12, 15, 13)] :: lw_g
def w_DefectDrive_write : List Cond := .code y_DefectDrive_write b_DefectDrive_write 5 (some .int) :: lw_g
def w_SectorMap_holds : List Cond := .code y_SectorMap_holds b_SectorMap_holds 2 (some .boolean) :: lw_g
def w_DefectDrive_isWord : List Cond := .code y_DefectDrive_isWord b_DefectDrive_isWord 1 (some .boolean) :: lw_g
def w_law_read : List Cond := .codeWith y_law_read b_law_read 5 (some .int) [(0, 10, 13, 13), (0, 10, 17, 31), (0, 10, 21, 17), (0, 10, 25, 33)] :: lw_g
def w_DefectDrive_read : List Cond := .code y_DefectDrive_read b_DefectDrive_read 4 (some .int) :: lw_g
def w_Surface_isLost : List Cond := .code y_Surface_isLost b_Surface_isLost 3 (some .boolean) :: lw_g
def w_Surface_wordOf : List Cond := .code y_Surface_wordOf b_Surface_wordOf 3 (some .int) :: lw_g
def w_law_reassign : List Cond := .codeWith y_law_reassign b_law_reassign 4 (some .int) [(0, 9, 12, 13)] :: lw_g
def w_DefectDrive_reassign : List Cond := .code y_DefectDrive_reassign b_DefectDrive_reassign 6 (some .int) :: lw_g
def w_DefectDrive_nearestFreeSpare : List Cond := .code y_DefectDrive_nearestFreeSpare b_DefectDrive_nearestFreeSpare 6 (some .int) :: lw_g
def w_DefectDrive_cylinderOf : List Cond := .code y_DefectDrive_cylinderOf b_DefectDrive_cylinderOf 1 (some .int) :: lw_g
def w_DefectDrive_isFreeSpare : List Cond := .code y_DefectDrive_isFreeSpare b_DefectDrive_isFreeSpare 2 (some .boolean) :: lw_g
def w_Lists_hasRoomForPairOf : List Cond := .code y_Lists_hasRoomForPairOf b_Lists_hasRoomForPairOf 2 (some .boolean) :: lw_g
def w_Surface_move : List Cond := .code y_Surface_move b_Surface_move 4 none :: lw_g
def w_Lists_becomeWithPair : List Cond := .code y_Lists_becomeWithPair b_Lists_becomeWithPair 5 none :: lw_g
def w_law_spoil : List Cond := .codeWith y_law_spoil b_law_spoil 5 (some .int) [(0, 10, 13, 13), (0, 10, 17, 15)] :: lw_g
def w_DefectDrive_spoil : List Cond := .code y_DefectDrive_spoil b_DefectDrive_spoil 4 (some .int) :: lw_g
def w_law_cutAfter : List Cond := .codeWith y_law_cutAfter b_law_cutAfter 4 (some .int) [(0, 9, 12, 15)] :: lw_g
def w_DefectDrive_cutAfter : List Cond := .code y_DefectDrive_cutAfter b_DefectDrive_cutAfter 2 (some .int) :: lw_g
def w_law_physical : List Cond := .codeWith y_law_physical b_law_physical 4 (some .int) [(0, 9, 12, 13)] :: lw_g
def w_DefectDrive_physical : List Cond := .code y_DefectDrive_physical b_DefectDrive_physical 2 (some .int) :: lw_g
def w_law_logical : List Cond := .codeWith y_law_logical b_law_logical 4 (some .int) [(0, 9, 12, 13)] :: lw_g
def w_DefectDrive_logical : List Cond := .code y_DefectDrive_logical b_DefectDrive_logical 2 (some .int) :: lw_g
def w_law_spares : List Cond := .codeWith y_law_spares b_law_spares 4 (some .int) [(0, 9, 12, 13)] :: lw_g
def w_DefectDrive_spares : List Cond := .code y_DefectDrive_spares b_DefectDrive_spares 6 (some .int) :: lw_g
def w_law_grown : List Cond := .codeWith y_law_grown b_law_grown 5 (some .int) [(0, 10, 13, 13)] :: lw_g
def w_DefectDrive_grown : List Cond := .code y_DefectDrive_grown b_DefectDrive_grown 4 (some .int) :: lw_g
def w_law_primary : List Cond := .codeWith y_law_primary b_law_primary 4 (some .int) [(0, 9, 12, 13)] :: lw_g
def w_DefectDrive_primary : List Cond := .code y_DefectDrive_primary b_DefectDrive_primary 2 (some .int) :: lw_g
def w_law_seeks : List Cond := .codeWith y_law_seeks b_law_seeks 5 (some .int) [(0, 10, 13, 13)] :: lw_g
def w_DefectDrive_seeks : List Cond := .code y_DefectDrive_seeks b_DefectDrive_seeks 5 (some .int) :: lw_g
def w_law_state : List Cond := .codeWith y_law_state b_law_state 4 (some .int) [(0, 9, 12, 13)] :: lw_g
def w_DefectDrive_state : List Cond := .code y_DefectDrive_state b_DefectDrive_state 2 (some .int) :: lw_g
def w_Model_init : List Cond := .code y_Model_init b_Model_init 1 none :: lw_g
def w_Model_thrown : List Cond := .code y_Model_thrown b_Model_thrown 1 (some .int) :: lw_g
def w_Model_factory : List Cond := .code y_Model_factory b_Model_factory 2 (some .int) :: lw_g
def w_Model_isSector : List Cond := .code y_Model_isSector b_Model_isSector 1 (some .boolean) :: lw_g
def w_Model_in : List Cond := .code y_Model_in b_Model_in 3 (some .boolean) :: lw_g
def w_Model_format : List Cond := .code y_Model_format b_Model_format 4 (some .int) :: lw_g
def w_Model_pairOfFirst : List Cond := .code y_Model_pairOfFirst b_Model_pairOfFirst 4 (some .int) :: lw_g
def w_Model_writesOne : List Cond := .code y_Model_writesOne b_Model_writesOne 1 (some .boolean) :: lw_g
def w_Model_writesLists : List Cond := .code y_Model_writesLists b_Model_writesLists 4 (some .boolean) :: lw_g
def w_Model_copyLists : List Cond := .code y_Model_copyLists b_Model_copyLists 4 none :: lw_g
def w_Model_capacity : List Cond := .code y_Model_capacity b_Model_capacity 3 (some .int) :: lw_g
def w_Model_isLogical : List Cond := .code y_Model_isLogical b_Model_isLogical 2 (some .boolean) :: lw_g
def w_Model_isSpare : List Cond := .code y_Model_isSpare b_Model_isSpare 1 (some .boolean) :: lw_g
def w_Model_isPrimary : List Cond := .code y_Model_isPrimary b_Model_isPrimary 4 (some .boolean) :: lw_g
def w_Model_write : List Cond := .code y_Model_write b_Model_write 5 (some .int) :: lw_g
def w_Model_hasLogical : List Cond := .code y_Model_hasLogical b_Model_hasLogical 2 (some .boolean) :: lw_g
def w_Model_placeOf : List Cond := .code y_Model_placeOf b_Model_placeOf 4 (some .int) :: lw_g
def w_Model_ownOf : List Cond := .code y_Model_ownOf b_Model_ownOf 4 (some .int) :: lw_g
def w_Model_read : List Cond := .code y_Model_read b_Model_read 4 (some .int) :: lw_g
def w_Model_reassign : List Cond := .code y_Model_reassign b_Model_reassign 9 (some .int) :: lw_g
def w_Model_nearest : List Cond := .code y_Model_nearest b_Model_nearest 6 (some .int) :: lw_g
def w_Model_isFreeSpare : List Cond := .code y_Model_isFreeSpare b_Model_isFreeSpare 2 (some .boolean) :: lw_g
def w_Model_pairOfSpare : List Cond := .code y_Model_pairOfSpare b_Model_pairOfSpare 4 (some .int) :: lw_g
def w_Model_spoil : List Cond := .code y_Model_spoil b_Model_spoil 4 (some .int) :: lw_g
def w_Model_cutAfter : List Cond := .code y_Model_cutAfter b_Model_cutAfter 2 (some .int) :: lw_g
def w_Model_start : List Cond := .code y_Model_start b_Model_start 2 (some .int) :: lw_g
def w_Model_physical : List Cond := .code y_Model_physical b_Model_physical 2 (some .int) :: lw_g
def w_Model_logical : List Cond := .code y_Model_logical b_Model_logical 5 (some .int) :: lw_g
def w_Model_spares : List Cond := .code y_Model_spares b_Model_spares 4 (some .int) :: lw_g
def w_Model_grown : List Cond := .code y_Model_grown b_Model_grown 3 (some .int) :: lw_g
def w_Model_primary : List Cond := .code y_Model_primary b_Model_primary 2 (some .int) :: lw_g
def w_Model_seeks : List Cond := .code y_Model_seeks b_Model_seeks 5 (some .int) :: lw_g
def w_Model_state : List Cond := .code y_Model_state b_Model_state 2 (some .int) :: lw_g
def w_Model_told : List Cond := .code y_Model_told b_Model_told 2 (some .int) :: lw_g
