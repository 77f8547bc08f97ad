-- ===== PART A: goes FIRST, ahead of the names: the tables' words, and 'selects' of the private methods out of them =====
/-- a private method of a class that the tables say can be made, by its rows of tables_1 -/
def lw_okq (q : MethodName × Nat) : Prop := (q.1.cls ≠ "java/lang/invoke/MethodHandle" ∧ q.1.cls ≠ "java/lang/invoke/VarHandle") ∧ Cond.instantiable q.1.cls q.2 ∈ tables_1 ∧ Cond.privateMethod q.1 ∈ tables_1 ∧ Cond.instanceMethod q.1 ∈ tables_1
theorem lw_p0 : lw_okq (⟨"ExpenseClubs", "clubAt", "(I)LExpenseClubs$Club;"⟩, 6) := ⟨⟨by decide +kernel, by decide +kernel⟩, List.mem_of_getElem? (i := 16) (by decide +kernel), List.mem_of_getElem? (i := 190) (by decide +kernel), List.mem_of_getElem? (i := 191) (by decide +kernel)⟩
theorem lw_p1 : lw_okq (⟨"ExpenseClubs", "refusalOfPost", "(LExpenseClubs$Club;)I"⟩, 6) := ⟨⟨by decide +kernel, by decide +kernel⟩, List.mem_of_getElem? (i := 16) (by decide +kernel), List.mem_of_getElem? (i := 253) (by decide +kernel), List.mem_of_getElem? (i := 254) (by decide +kernel)⟩
theorem lw_p2 : lw_okq (⟨"ExpenseClubs$Draft", "dueSum", "(J)J"⟩, 7) := ⟨⟨by decide +kernel, by decide +kernel⟩, List.mem_of_getElem? (i := 28) (by decide +kernel), List.mem_of_getElem? (i := 265) (by decide +kernel), List.mem_of_getElem? (i := 266) (by decide +kernel)⟩
theorem lw_p3 : lw_okq (⟨"ExpenseClubs", "billAt", "(I)LExpenseClubs$Bill;"⟩, 6) := ⟨⟨by decide +kernel, by decide +kernel⟩, List.mem_of_getElem? (i := 16) (by decide +kernel), List.mem_of_getElem? (i := 332) (by decide +kernel), List.mem_of_getElem? (i := 333) (by decide +kernel)⟩
theorem lw_p4 : lw_okq (⟨"ExpenseClubs$Grouping", "gather", "([J)V"⟩, 4) := ⟨⟨by decide +kernel, by decide +kernel⟩, List.mem_of_getElem? (i := 62) (by decide +kernel), List.mem_of_getElem? (i := 362) (by decide +kernel), List.mem_of_getElem? (i := 363) (by decide +kernel)⟩
theorem lw_p5 : lw_okq (⟨"ExpenseClubs$Grouping", "countMost", "()V"⟩, 4) := ⟨⟨by decide +kernel, by decide +kernel⟩, List.mem_of_getElem? (i := 62) (by decide +kernel), List.mem_of_getElem? (i := 366) (by decide +kernel), List.mem_of_getElem? (i := 367) (by decide +kernel)⟩
theorem lw_p6 : lw_okq (⟨"ExpenseClubs$Grouping", "firstGroup", "(I)I"⟩, 4) := ⟨⟨by decide +kernel, by decide +kernel⟩, List.mem_of_getElem? (i := 62) (by decide +kernel), List.mem_of_getElem? (i := 377) (by decide +kernel), List.mem_of_getElem? (i := 378) (by decide +kernel)⟩
theorem lw_p7 : lw_okq (⟨"ExpenseClubs$Grouping", "sumOfSet", "(I)J"⟩, 4) := ⟨⟨by decide +kernel, by decide +kernel⟩, List.mem_of_getElem? (i := 62) (by decide +kernel), List.mem_of_getElem? (i := 381) (by decide +kernel), List.mem_of_getElem? (i := 382) (by decide +kernel)⟩
theorem lw_p8 : lw_okq (⟨"ExpenseClubs$Grouping", "addGroup", "(LExpenseClubs$Settlement;I)V"⟩, 4) := ⟨⟨by decide +kernel, by decide +kernel⟩, List.mem_of_getElem? (i := 62) (by decide +kernel), List.mem_of_getElem? (i := 385) (by decide +kernel), List.mem_of_getElem? (i := 386) (by decide +kernel)⟩
theorem lw_p9 : lw_okq (⟨"java/lang/Throwable", "fillInStackTrace", "(I)Ljava/lang/Throwable;"⟩, 6) := ⟨⟨by decide +kernel, by decide +kernel⟩, List.mem_of_getElem? (i := 467) (by decide +kernel), List.mem_of_getElem? (i := 465) (by decide +kernel), List.mem_of_getElem? (i := 466) (by decide +kernel)⟩
theorem lw_p10 : lw_okq (⟨"ExpenseClubsModel", "isClub", "(I)Z"⟩, 33) := ⟨⟨by decide +kernel, by decide +kernel⟩, List.mem_of_getElem? (i := 513) (by decide +kernel), List.mem_of_getElem? (i := 631) (by decide +kernel), List.mem_of_getElem? (i := 632) (by decide +kernel)⟩
theorem lw_p11 : lw_okq (⟨"ExpenseClubsModel", "isMember", "(II)Z"⟩, 33) := ⟨⟨by decide +kernel, by decide +kernel⟩, List.mem_of_getElem? (i := 513) (by decide +kernel), List.mem_of_getElem? (i := 639) (by decide +kernel), List.mem_of_getElem? (i := 640) (by decide +kernel)⟩
theorem lw_p12 : lw_okq (⟨"ExpenseClubsModel", "stays", "(I)Z"⟩, 33) := ⟨⟨by decide +kernel, by decide +kernel⟩, List.mem_of_getElem? (i := 513) (by decide +kernel), List.mem_of_getElem? (i := 660) (by decide +kernel), List.mem_of_getElem? (i := 661) (by decide +kernel)⟩
theorem lw_p13 : lw_okq (⟨"ExpenseClubsModel", "wrong", "()I"⟩, 33) := ⟨⟨by decide +kernel, by decide +kernel⟩, List.mem_of_getElem? (i := 513) (by decide +kernel), List.mem_of_getElem? (i := 676) (by decide +kernel), List.mem_of_getElem? (i := 677) (by decide +kernel)⟩
theorem lw_p14 : lw_okq (⟨"ExpenseClubsModel", "weighs", "()J"⟩, 33) := ⟨⟨by decide +kernel, by decide +kernel⟩, List.mem_of_getElem? (i := 513) (by decide +kernel), List.mem_of_getElem? (i := 680) (by decide +kernel), List.mem_of_getElem? (i := 681) (by decide +kernel)⟩
theorem lw_p15 : lw_okq (⟨"ExpenseClubsModel", "fits", "(J)Z"⟩, 33) := ⟨⟨by decide +kernel, by decide +kernel⟩, List.mem_of_getElem? (i := 513) (by decide +kernel), List.mem_of_getElem? (i := 687) (by decide +kernel), List.mem_of_getElem? (i := 688) (by decide +kernel)⟩
def lw_privs_1 : List (MethodName × Nat) := [(⟨"ExpenseClubs", "clubAt", "(I)LExpenseClubs$Club;"⟩, 6), (⟨"ExpenseClubs", "refusalOfPost", "(LExpenseClubs$Club;)I"⟩, 6), (⟨"ExpenseClubs$Draft", "dueSum", "(J)J"⟩, 7), (⟨"ExpenseClubs", "billAt", "(I)LExpenseClubs$Bill;"⟩, 6), (⟨"ExpenseClubs$Grouping", "gather", "([J)V"⟩, 4), (⟨"ExpenseClubs$Grouping", "countMost", "()V"⟩, 4), (⟨"ExpenseClubs$Grouping", "firstGroup", "(I)I"⟩, 4), (⟨"ExpenseClubs$Grouping", "sumOfSet", "(I)J"⟩, 4), (⟨"ExpenseClubs$Grouping", "addGroup", "(LExpenseClubs$Settlement;I)V"⟩, 4), (⟨"java/lang/Throwable", "fillInStackTrace", "(I)Ljava/lang/Throwable;"⟩, 6), (⟨"ExpenseClubsModel", "isClub", "(I)Z"⟩, 33), (⟨"ExpenseClubsModel", "isMember", "(II)Z"⟩, 33), (⟨"ExpenseClubsModel", "stays", "(I)Z"⟩, 33), (⟨"ExpenseClubsModel", "wrong", "()I"⟩, 33), (⟨"ExpenseClubsModel", "weighs", "()J"⟩, 33), (⟨"ExpenseClubsModel", "fits", "(J)Z"⟩, 33)]
theorem lw_r1 : ∀ q ∈ lw_privs_1, lw_okq q := List.forall_mem_cons.mpr ⟨lw_p0, List.forall_mem_cons.mpr ⟨lw_p1, List.forall_mem_cons.mpr ⟨lw_p2, List.forall_mem_cons.mpr ⟨lw_p3, List.forall_mem_cons.mpr ⟨lw_p4, List.forall_mem_cons.mpr ⟨lw_p5, List.forall_mem_cons.mpr ⟨lw_p6, List.forall_mem_cons.mpr ⟨lw_p7, List.forall_mem_cons.mpr ⟨lw_p8, List.forall_mem_cons.mpr ⟨lw_p9, List.forall_mem_cons.mpr ⟨lw_p10, List.forall_mem_cons.mpr ⟨lw_p11, List.forall_mem_cons.mpr ⟨lw_p12, List.forall_mem_cons.mpr ⟨lw_p13, List.forall_mem_cons.mpr ⟨lw_p14, List.forall_mem_cons.mpr ⟨lw_p15, fun _ h => absurd h List.not_mem_nil⟩⟩⟩⟩⟩⟩⟩⟩⟩⟩⟩⟩⟩⟩⟩⟩
theorem lw_p16 : lw_okq (⟨"ExpenseClubsModel", "pay", "(IJ)V"⟩, 33) := ⟨⟨by decide +kernel, by decide +kernel⟩, List.mem_of_getElem? (i := 513) (by decide +kernel), List.mem_of_getElem? (i := 694) (by decide +kernel), List.mem_of_getElem? (i := 695) (by decide +kernel)⟩
theorem lw_p17 : lw_okq (⟨"ExpenseClubsModel", "share", "(IJJ)V"⟩, 33) := ⟨⟨by decide +kernel, by decide +kernel⟩, List.mem_of_getElem? (i := 513) (by decide +kernel), List.mem_of_getElem? (i := 702) (by decide +kernel), List.mem_of_getElem? (i := 703) (by decide +kernel)⟩
theorem lw_p18 : lw_okq (⟨"ExpenseClubsModel", "weighAll", "(I)V"⟩, 33) := ⟨⟨by decide +kernel, by decide +kernel⟩, List.mem_of_getElem? (i := 513) (by decide +kernel), List.mem_of_getElem? (i := 729) (by decide +kernel), List.mem_of_getElem? (i := 730) (by decide +kernel)⟩
theorem lw_p19 : lw_okq (⟨"ExpenseClubsModel", "divides", "()V"⟩, 33) := ⟨⟨by decide +kernel, by decide +kernel⟩, List.mem_of_getElem? (i := 513) (by decide +kernel), List.mem_of_getElem? (i := 736) (by decide +kernel), List.mem_of_getElem? (i := 737) (by decide +kernel)⟩
theorem lw_p20 : lw_okq (⟨"ExpenseClubsModel", "least", "(I)I"⟩, 33) := ⟨⟨by decide +kernel, by decide +kernel⟩, List.mem_of_getElem? (i := 513) (by decide +kernel), List.mem_of_getElem? (i := 740) (by decide +kernel), List.mem_of_getElem? (i := 741) (by decide +kernel)⟩
theorem lw_p21 : lw_okq (⟨"ExpenseClubsModel", "moves", "(II)V"⟩, 33) := ⟨⟨by decide +kernel, by decide +kernel⟩, List.mem_of_getElem? (i := 513) (by decide +kernel), List.mem_of_getElem? (i := 744) (by decide +kernel), List.mem_of_getElem? (i := 745) (by decide +kernel)⟩
theorem lw_p22 : lw_okq (⟨"ExpenseClubsModel", "isTransfer", "(II)Z"⟩, 33) := ⟨⟨by decide +kernel, by decide +kernel⟩, List.mem_of_getElem? (i := 513) (by decide +kernel), List.mem_of_getElem? (i := 752) (by decide +kernel), List.mem_of_getElem? (i := 753) (by decide +kernel)⟩
theorem lw_p23 : lw_okq (⟨"ExpenseClubsModel", "unticked", "(I)I"⟩, 33) := ⟨⟨by decide +kernel, by decide +kernel⟩, List.mem_of_getElem? (i := 513) (by decide +kernel), List.mem_of_getElem? (i := 764) (by decide +kernel), List.mem_of_getElem? (i := 765) (by decide +kernel)⟩
def lw_privs_2 : List (MethodName × Nat) := [(⟨"ExpenseClubsModel", "pay", "(IJ)V"⟩, 33), (⟨"ExpenseClubsModel", "share", "(IJJ)V"⟩, 33), (⟨"ExpenseClubsModel", "weighAll", "(I)V"⟩, 33), (⟨"ExpenseClubsModel", "divides", "()V"⟩, 33), (⟨"ExpenseClubsModel", "least", "(I)I"⟩, 33), (⟨"ExpenseClubsModel", "moves", "(II)V"⟩, 33), (⟨"ExpenseClubsModel", "isTransfer", "(II)Z"⟩, 33), (⟨"ExpenseClubsModel", "unticked", "(I)I"⟩, 33)]
theorem lw_r2 : ∀ q ∈ lw_privs_2, lw_okq q := List.forall_mem_cons.mpr ⟨lw_p16, List.forall_mem_cons.mpr ⟨lw_p17, List.forall_mem_cons.mpr ⟨lw_p18, List.forall_mem_cons.mpr ⟨lw_p19, List.forall_mem_cons.mpr ⟨lw_p20, List.forall_mem_cons.mpr ⟨lw_p21, List.forall_mem_cons.mpr ⟨lw_p22, List.forall_mem_cons.mpr ⟨lw_p23, fun _ h => absurd h List.not_mem_nil⟩⟩⟩⟩⟩⟩⟩⟩
def lw_privs : List (MethodName × Nat) := lw_privs_1 ++ (lw_privs_2)
def lw_tbl : List Cond := k2_sels lw_privs ++ tables_1
theorem lw_privs_ok : ∀ q ∈ lw_privs, lw_okq q := by
  show ∀ q ∈ lw_privs_1 ++ (lw_privs_2), lw_okq q
  exact List.forall_mem_append.mpr ⟨lw_r1, lw_r2⟩
/-! the words that a call may carry: those of the tables that stay true while the tables grow warmer -/
def gT : List Cond := lw_tbl.filter goodWord
theorem gmem {w : Cond} (h : w ∈ lw_tbl) (hg : goodWord w = true) : w ∈ gT := List.mem_filter.mpr ⟨h, hg⟩
theorem gT_good : ∀ w ∈ gT, w ∈ gT ∧ ((w.onTables && w.keeps) = true ∨ ∃ ty, w = .arrayClass ty) := fun w h => ⟨h, good_of_word (List.mem_filter.mp h).2⟩
theorem gT_of {w : Cond} (h : w ∈ gT) : w ∈ lw_tbl := (List.mem_filter.mp h).1
theorem goodIn_w (ws : List Cond) (ps : List Nat) (hp : ws = ps.filterMap (fun i => lw_tbl[i]?)) (h : ws.all goodWord = true) : ∀ w ∈ ws, w ∈ gT := by
  intro w hw
  have h1 := List.all_eq_true.mp h w hw
  rw [hp] at hw
  obtain ⟨i, -, hi⟩ := List.mem_filterMap.mp hw
  exact gmem (List.mem_of_getElem? hi) h1
def R_B : String := "ExpenseClubs$Bill"
def T_B : u_T := fun k => match k with
  | 0 => ("ExpenseClubs$Bill", "owner", "LExpenseClubs$Club;", true)
  | 1 => ("ExpenseClubs$Bill", "clubCents", "J", true)
  | 2 => ("ExpenseClubs$Bill", "paid", "[J", true)
  | 3 => ("ExpenseClubs$Bill", "shares", "[J", true)
  | 4 => ("ExpenseClubs$Bill", "drifts", "[J", true)
  | _ => ("ExpenseClubs$Bill", "struck", "Z", false)
def t_B : Nat → FieldType := fun k => match k with
  | 0 => .object "ExpenseClubs$Club"
  | 1 => .long
  | 2 => .array .long
  | 3 => .array .long
  | 4 => .array .long
  | _ => .boolean
theorem n_B : ∀ a, a < 6 → ∀ b, b < 6 → a ≠ b → (T_B a).2.1 ≠ (T_B b).2.1 := by decide +kernel
theorem t_B_ok : ∀ k, k < 6 → parseFieldDescriptor (T_B k).2.2.1 = some (t_B k) := by decide +kernel
set_option maxRecDepth 100000 in
theorem i_B : ∀ w ∈ u_ws "ExpenseClubs$Bill" T_B 6, w ∈ gT := (goodIn_w _ [324, 326, 328, 330, 332, 334] (by decide +kernel) (by decide +kernel))

def R_C : String := "ExpenseClubs$Club"
def T_C : u_T := fun k => match k with
  | 0 => ("ExpenseClubs$Club", "balances", "[J", true)
  | 1 => ("ExpenseClubs$Club", "drifts", "[J", true)
  | 2 => ("ExpenseClubs$Club", "settlement", "LExpenseClubs$Settlement;", true)
  | 3 => ("ExpenseClubs$Club", "memberCount", "I", false)
  | 4 => ("ExpenseClubs$Club", "goneSet", "I", false)
  | _ => ("ExpenseClubs$Club", "mark", "I", false)
def t_C : Nat → FieldType := fun k => match k with
  | 0 => .array .long
  | 1 => .array .long
  | 2 => .object "ExpenseClubs$Settlement"
  | 3 => .int
  | 4 => .int
  | _ => .int
theorem n_C : ∀ a, a < 6 → ∀ b, b < 6 → a ≠ b → (T_C a).2.1 ≠ (T_C b).2.1 := by decide +kernel
theorem t_C_ok : ∀ k, k < 6 → parseFieldDescriptor (T_C k).2.2.1 = some (t_C k) := by decide +kernel
set_option maxRecDepth 100000 in
theorem i_C : ∀ w ∈ u_ws "ExpenseClubs$Club" T_C 6, w ∈ gT := (goodIn_w _ [196, 198, 200, 202, 204, 206] (by decide +kernel) (by decide +kernel))

def R_D : String := "ExpenseClubs$Draft"
def T_D : u_T := fun k => match k with
  | 0 => ("ExpenseClubs$Draft", "payers", "[J", true)
  | 1 => ("ExpenseClubs$Draft", "weights", "[J", true)
  | 2 => ("ExpenseClubs$Draft", "club", "LExpenseClubs$Club;", false)
  | 3 => ("ExpenseClubs$Draft", "way", "I", false)
  | 4 => ("ExpenseClubs$Draft", "cents", "I", false)
  | 5 => ("ExpenseClubs$Draft", "rate", "I", false)
  | _ => ("ExpenseClubs$Draft", "lineCount", "I", false)
def t_D : Nat → FieldType := fun k => match k with
  | 0 => .array .long
  | 1 => .array .long
  | 2 => .object "ExpenseClubs$Club"
  | 3 => .int
  | 4 => .int
  | 5 => .int
  | _ => .int
theorem n_D : ∀ a, a < 7 → ∀ b, b < 7 → a ≠ b → (T_D a).2.1 ≠ (T_D b).2.1 := by decide +kernel
theorem t_D_ok : ∀ k, k < 7 → parseFieldDescriptor (T_D k).2.2.1 = some (t_D k) := by decide +kernel
set_option maxRecDepth 100000 in
theorem i_D : ∀ w ∈ u_ws "ExpenseClubs$Draft" T_D 7, w ∈ gT := (goodIn_w _ [69, 71, 73, 75, 77, 79, 81] (by decide +kernel) (by decide +kernel))

def R_G : String := "ExpenseClubs$Grouping"
def T_G : u_T := fun k => match k with
  | 0 => ("ExpenseClubs$Grouping", "members", "[I", true)
  | 1 => ("ExpenseClubs$Grouping", "amounts", "[J", true)
  | 2 => ("ExpenseClubs$Grouping", "most", "[I", true)
  | _ => ("ExpenseClubs$Grouping", "size", "I", false)
def t_G : Nat → FieldType := fun k => match k with
  | 0 => .array .int
  | 1 => .array .long
  | 2 => .array .int
  | _ => .int
theorem n_G : ∀ a, a < 4 → ∀ b, b < 4 → a ≠ b → (T_G a).2.1 ≠ (T_G b).2.1 := by decide +kernel
theorem t_G_ok : ∀ k, k < 4 → parseFieldDescriptor (T_G k).2.2.1 = some (t_G k) := by decide +kernel
set_option maxRecDepth 100000 in
theorem i_G : ∀ w ∈ u_ws "ExpenseClubs$Grouping" T_G 4, w ∈ gT := (goodIn_w _ [95, 97, 99, 101] (by decide +kernel) (by decide +kernel))

def R_S : String := "ExpenseClubs$Settlement"
def T_S : u_T := fun k => match k with
  | 0 => ("ExpenseClubs$Settlement", "groups", "[I", true)
  | 1 => ("ExpenseClubs$Settlement", "senders", "[I", true)
  | 2 => ("ExpenseClubs$Settlement", "getters", "[I", true)
  | 3 => ("ExpenseClubs$Settlement", "amounts", "[J", true)
  | 4 => ("ExpenseClubs$Settlement", "ticked", "[Z", true)
  | 5 => ("ExpenseClubs$Settlement", "open", "Z", false)
  | 6 => ("ExpenseClubs$Settlement", "groupCount", "I", false)
  | 7 => ("ExpenseClubs$Settlement", "transferCount", "I", false)
  | _ => ("ExpenseClubs$Settlement", "waiting", "I", false)
def t_S : Nat → FieldType := fun k => match k with
  | 0 => .array .int
  | 1 => .array .int
  | 2 => .array .int
  | 3 => .array .long
  | 4 => .array .boolean
  | 5 => .boolean
  | 6 => .int
  | 7 => .int
  | _ => .int
theorem n_S : ∀ a, a < 9 → ∀ b, b < 9 → a ≠ b → (T_S a).2.1 ≠ (T_S b).2.1 := by decide +kernel
theorem t_S_ok : ∀ k, k < 9 → parseFieldDescriptor (T_S k).2.2.1 = some (t_S k) := by decide +kernel
set_option maxRecDepth 100000 in
theorem i_S : ∀ w ∈ u_ws "ExpenseClubs$Settlement" T_S 9, w ∈ gT := (goodIn_w _ [164, 166, 168, 170, 172, 174, 176, 178, 180] (by decide +kernel) (by decide +kernel))

def R_X : String := "ExpenseClubs"
def T_X : u_T := fun k => match k with
  | 0 => ("ExpenseClubs", "clubs", "[LExpenseClubs$Club;", true)
  | 1 => ("ExpenseClubs", "bills", "[LExpenseClubs$Bill;", true)
  | 2 => ("ExpenseClubs", "draft", "LExpenseClubs$Draft;", true)
  | 3 => ("ExpenseClubs", "grouping", "LExpenseClubs$Grouping;", true)
  | 4 => ("ExpenseClubs", "clubCount", "I", false)
  | _ => ("ExpenseClubs", "billCount", "I", false)
def t_X : Nat → FieldType := fun k => match k with
  | 0 => .array (.object "ExpenseClubs$Club")
  | 1 => .array (.object "ExpenseClubs$Bill")
  | 2 => .object "ExpenseClubs$Draft"
  | 3 => .object "ExpenseClubs$Grouping"
  | 4 => .int
  | _ => .int
theorem n_X : ∀ a, a < 6 → ∀ b, b < 6 → a ≠ b → (T_X a).2.1 ≠ (T_X b).2.1 := by decide +kernel
theorem t_X_ok : ∀ k, k < 6 → parseFieldDescriptor (T_X k).2.2.1 = some (t_X k) := by decide +kernel
set_option maxRecDepth 100000 in
theorem i_X : ∀ w ∈ u_ws "ExpenseClubs" T_X 6, w ∈ gT := (goodIn_w _ [111, 113, 115, 117, 119, 121] (by decide +kernel) (by decide +kernel))

def R_M : String := "ExpenseClubsModel"
def T_M : u_T := fun k => match k with
  | 0 => ("ExpenseClubsModel", "thrown", "I", false)
  | 1 => ("ExpenseClubsModel", "clubs", "I", false)
  | 2 => ("ExpenseClubsModel", "members", "[I", true)
  | 3 => ("ExpenseClubsModel", "marks", "[I", true)
  | 4 => ("ExpenseClubsModel", "left", "[Z", true)
  | 5 => ("ExpenseClubsModel", "draft", "I", false)
  | 6 => ("ExpenseClubsModel", "way", "I", false)
  | 7 => ("ExpenseClubsModel", "cents", "I", false)
  | 8 => ("ExpenseClubsModel", "rate", "I", false)
  | 9 => ("ExpenseClubsModel", "pays", "[I", true)
  | 10 => ("ExpenseClubsModel", "weights", "[I", true)
  | 11 => ("ExpenseClubsModel", "lines", "I", false)
  | 12 => ("ExpenseClubsModel", "lineCents", "[I", true)
  | 13 => ("ExpenseClubsModel", "lineSets", "[I", true)
  | 14 => ("ExpenseClubsModel", "heavy", "[J", true)
  | 15 => ("ExpenseClubsModel", "bills", "I", false)
  | 16 => ("ExpenseClubsModel", "clubOf", "[I", true)
  | 17 => ("ExpenseClubsModel", "totals", "[J", true)
  | 18 => ("ExpenseClubsModel", "struck", "[Z", true)
  | 19 => ("ExpenseClubsModel", "shares", "[J", true)
  | 20 => ("ExpenseClubsModel", "paid", "[J", true)
  | 21 => ("ExpenseClubsModel", "drifts", "[J", true)
  | 22 => ("ExpenseClubsModel", "sent", "[J", true)
  | 23 => ("ExpenseClubsModel", "open", "[Z", true)
  | 24 => ("ExpenseClubsModel", "groups", "[I", true)
  | 25 => ("ExpenseClubsModel", "group", "[I", true)
  | 26 => ("ExpenseClubsModel", "many", "[I", true)
  | 27 => ("ExpenseClubsModel", "sends", "[I", true)
  | 28 => ("ExpenseClubsModel", "gets", "[I", true)
  | 29 => ("ExpenseClubsModel", "sums", "[J", true)
  | 30 => ("ExpenseClubsModel", "ticked", "[Z", true)
  | 31 => ("ExpenseClubsModel", "weigh", "[J", true)
  | _ => ("ExpenseClubsModel", "most", "[I", true)
def t_M : Nat → FieldType := fun k => match k with
  | 0 => .int
  | 1 => .int
  | 2 => .array .int
  | 3 => .array .int
  | 4 => .array .boolean
  | 5 => .int
  | 6 => .int
  | 7 => .int
  | 8 => .int
  | 9 => .array .int
  | 10 => .array .int
  | 11 => .int
  | 12 => .array .int
  | 13 => .array .int
  | 14 => .array .long
  | 15 => .int
  | 16 => .array .int
  | 17 => .array .long
  | 18 => .array .boolean
  | 19 => .array .long
  | 20 => .array .long
  | 21 => .array .long
  | 22 => .array .long
  | 23 => .array .boolean
  | 24 => .array .int
  | 25 => .array .int
  | 26 => .array .int
  | 27 => .array .int
  | 28 => .array .int
  | 29 => .array .long
  | 30 => .array .boolean
  | 31 => .array .long
  | _ => .array .int
theorem n_M : ∀ a, a < 33 → ∀ b, b < 33 → a ≠ b → (T_M a).2.1 ≠ (T_M b).2.1 := by decide +kernel
theorem t_M_ok : ∀ k, k < 33 → parseFieldDescriptor (T_M k).2.2.1 = some (t_M k) := by decide +kernel
set_option maxRecDepth 100000 in
theorem i_M : ∀ w ∈ u_ws "ExpenseClubsModel" T_M 33, w ∈ gT := (goodIn_w _ [575, 577, 579, 581, 583, 585, 587, 589, 591, 593, 595, 597, 599, 601, 603, 605, 607, 609, 611, 613, 615, 617, 619, 621, 623, 625, 627, 629, 631, 633, 635, 637, 639] (by decide +kernel) (by decide +kernel))

abbrev gCl : List vw_C := [("ExpenseClubs$Bill", T_B, 6), ("ExpenseClubs$Club", T_C, 6), ("ExpenseClubs$Draft", T_D, 7), ("ExpenseClubs$Grouping", T_G, 4), ("ExpenseClubs$Settlement", T_S, 9), ("ExpenseClubs", T_X, 6), ("ExpenseClubsModel", T_M, 33)]
abbrev gE : Type := va_G × List vw_C × List (ClassId × FieldType)
abbrev gX : Type := va_G × (Nat → ClassId)
abbrev EE (X : gX) : gE := (X.1, gCl, [(X.2 0, .int), (X.2 1, .long), (X.2 2, .boolean), (X.2 3, .object "ExpenseClubs$Club"), (X.2 4, .object "ExpenseClubs$Bill")])
abbrev c_X_init : ByteArray := prog_1_method_1_code
def y_X_init : MethodName := ⟨"ExpenseClubs", "<init>", "()V"⟩
abbrev c_O_init : ByteArray := object_method_1_code
def y_O_init : MethodName := ⟨"java/lang/Object", "<init>", "()V"⟩
abbrev c_D_init : ByteArray := prog_4_method_1_code
def y_D_init : MethodName := ⟨"ExpenseClubs$Draft", "<init>", "()V"⟩
abbrev c_G_init : ByteArray := prog_5_method_1_code
def y_G_init : MethodName := ⟨"ExpenseClubs$Grouping", "<init>", "()V"⟩
abbrev c_X_club : ByteArray := prog_1_method_2_code
def y_X_club : MethodName := ⟨"ExpenseClubs", "club", "()I"⟩
abbrev c_C_init : ByteArray := prog_3_method_1_code
def y_C_init : MethodName := ⟨"ExpenseClubs$Club", "<init>", "()V"⟩
abbrev c_S_init : ByteArray := prog_6_method_1_code
def y_S_init : MethodName := ⟨"ExpenseClubs$Settlement", "<init>", "()V"⟩
abbrev c_X_member : ByteArray := prog_1_method_3_code
def y_X_member : MethodName := ⟨"ExpenseClubs", "member", "(I)I"⟩
abbrev c_X_clubAt : ByteArray := prog_1_method_22_code
def y_X_clubAt : MethodName := ⟨"ExpenseClubs", "clubAt", "(I)LExpenseClubs$Club;"⟩
abbrev c_X_leave : ByteArray := prog_1_method_4_code
def y_X_leave : MethodName := ⟨"ExpenseClubs", "leave", "(II)Z"⟩
abbrev c_C_isPresent : ByteArray := prog_3_method_3_code
def y_C_isPresent : MethodName := ⟨"ExpenseClubs$Club", "isPresent", "(I)Z"⟩
abbrev c_C_isMember : ByteArray := prog_3_method_2_code
def y_C_isMember : MethodName := ⟨"ExpenseClubs$Club", "isMember", "(I)Z"⟩
abbrev c_C_isGone : ByteArray := prog_3_method_4_code
def y_C_isGone : MethodName := ⟨"ExpenseClubs$Club", "isGone", "(I)Z"⟩
abbrev c_X_bill : ByteArray := prog_1_method_5_code
def y_X_bill : MethodName := ⟨"ExpenseClubs", "bill", "(IIII)Z"⟩
abbrev c_D_begin : ByteArray := prog_4_method_2_code
def y_D_begin : MethodName := ⟨"ExpenseClubs$Draft", "begin", "(LExpenseClubs$Club;III)V"⟩
abbrev c_X_payer : ByteArray := prog_1_method_6_code
def y_X_payer : MethodName := ⟨"ExpenseClubs", "payer", "(II)Z"⟩
abbrev c_X_weight : ByteArray := prog_1_method_7_code
def y_X_weight : MethodName := ⟨"ExpenseClubs", "weight", "(II)Z"⟩
abbrev c_X_mostWeight : ByteArray := prog_1_method_25_code
def y_X_mostWeight : MethodName := ⟨"ExpenseClubs", "mostWeight", "(I)I"⟩
abbrev c_X_line : ByteArray := prog_1_method_8_code
def y_X_line : MethodName := ⟨"ExpenseClubs", "line", "(II)Z"⟩
abbrev c_C_presentSet : ByteArray := prog_3_method_5_code
def y_C_presentSet : MethodName := ⟨"ExpenseClubs$Club", "presentSet", "()I"⟩
abbrev c_D_addLine : ByteArray := prog_4_method_3_code
def y_D_addLine : MethodName := ⟨"ExpenseClubs$Draft", "addLine", "(II)V"⟩
abbrev c_I_bitCount : ByteArray := prog_12_method_49_code
def y_I_bitCount : MethodName := ⟨"java/lang/Integer", "bitCount", "(I)I"⟩
abbrev c_X_post : ByteArray := prog_1_method_9_code
def y_X_post : MethodName := ⟨"ExpenseClubs", "post", "()I"⟩
abbrev c_X_refusalOfPost : ByteArray := prog_1_method_24_code
def y_X_refusalOfPost : MethodName := ⟨"ExpenseClubs", "refusalOfPost", "(LExpenseClubs$Club;)I"⟩
abbrev c_D_refusalFor : ByteArray := prog_4_method_4_code
def y_D_refusalFor : MethodName := ⟨"ExpenseClubs$Draft", "refusalFor", "(LExpenseClubs$Club;)I"⟩
abbrev c_X_sumOf : ByteArray := prog_1_method_26_code
def y_X_sumOf : MethodName := ⟨"ExpenseClubs", "sumOf", "([J)J"⟩
abbrev c_D_dueSum : ByteArray := prog_4_method_5_code
def y_D_dueSum : MethodName := ⟨"ExpenseClubs$Draft", "dueSum", "(J)J"⟩
abbrev c_D_toBill : ByteArray := prog_4_method_6_code
def y_D_toBill : MethodName := ⟨"ExpenseClubs$Draft", "toBill", "(LExpenseClubs$Club;)LExpenseClubs$Bill;"⟩
abbrev c_B_init : ByteArray := prog_2_method_1_code
def y_B_init : MethodName := ⟨"ExpenseClubs$Bill", "<init>", "(LExpenseClubs$Club;J)V"⟩
abbrev c_X_cut : ByteArray := prog_1_method_28_code
def y_X_cut : MethodName := ⟨"ExpenseClubs", "cut", "(J[JI[J)I"⟩
abbrev c_X_portion : ByteArray := prog_1_method_27_code
def y_X_portion : MethodName := ⟨"ExpenseClubs", "portion", "(JJJ)J"⟩
abbrev c_C_book : ByteArray := prog_3_method_6_code
def y_C_book : MethodName := ⟨"ExpenseClubs$Club", "book", "(LExpenseClubs$Bill;I)V"⟩
abbrev c_X_strike : ByteArray := prog_1_method_10_code
def y_X_strike : MethodName := ⟨"ExpenseClubs", "strike", "(I)Z"⟩
abbrev c_X_billAt : ByteArray := prog_1_method_23_code
def y_X_billAt : MethodName := ⟨"ExpenseClubs", "billAt", "(I)LExpenseClubs$Bill;"⟩
abbrev c_X_about : ByteArray := prog_1_method_11_code
def y_X_about : MethodName := ⟨"ExpenseClubs", "about", "(III)J"⟩
abbrev c_X_total : ByteArray := prog_1_method_12_code
def y_X_total : MethodName := ⟨"ExpenseClubs", "total", "(I)J"⟩
abbrev c_X_balance : ByteArray := prog_1_method_13_code
def y_X_balance : MethodName := ⟨"ExpenseClubs", "balance", "(II)J"⟩
abbrev c_X_drift : ByteArray := prog_1_method_14_code
def y_X_drift : MethodName := ⟨"ExpenseClubs", "drift", "(II)J"⟩
abbrev c_X_settle : ByteArray := prog_1_method_15_code
def y_X_settle : MethodName := ⟨"ExpenseClubs", "settle", "(I)I"⟩
abbrev c_G_fill : ByteArray := prog_5_method_2_code
def y_G_fill : MethodName := ⟨"ExpenseClubs$Grouping", "fill", "(LExpenseClubs$Settlement;[J)V"⟩
abbrev c_G_gather : ByteArray := prog_5_method_3_code
def y_G_gather : MethodName := ⟨"ExpenseClubs$Grouping", "gather", "([J)V"⟩
abbrev c_G_countMost : ByteArray := prog_5_method_4_code
def y_G_countMost : MethodName := ⟨"ExpenseClubs$Grouping", "countMost", "()V"⟩
abbrev c_Ma_max : ByteArray := prog_13_method_65_code
def y_Ma_max : MethodName := ⟨"java/lang/Math", "max", "(II)I"⟩
abbrev c_S_begin : ByteArray := prog_6_method_2_code
def y_S_begin : MethodName := ⟨"ExpenseClubs$Settlement", "begin", "()V"⟩
abbrev c_G_firstGroup : ByteArray := prog_5_method_5_code
def y_G_firstGroup : MethodName := ⟨"ExpenseClubs$Grouping", "firstGroup", "(I)I"⟩
abbrev c_G_sumOfSet : ByteArray := prog_5_method_6_code
def y_G_sumOfSet : MethodName := ⟨"ExpenseClubs$Grouping", "sumOfSet", "(I)J"⟩
abbrev c_G_addGroup : ByteArray := prog_5_method_7_code
def y_G_addGroup : MethodName := ⟨"ExpenseClubs$Grouping", "addGroup", "(LExpenseClubs$Settlement;I)V"⟩
abbrev c_S_addTransfer : ByteArray := prog_6_method_4_code
def y_S_addTransfer : MethodName := ⟨"ExpenseClubs$Settlement", "addTransfer", "(IIJ)V"⟩
abbrev c_X_tick : ByteArray := prog_1_method_17_code
def y_X_tick : MethodName := ⟨"ExpenseClubs", "tick", "(II)Z"⟩
abbrev c_S_hasTransfer : ByteArray := prog_6_method_3_code
def y_S_hasTransfer : MethodName := ⟨"ExpenseClubs$Settlement", "hasTransfer", "(I)Z"⟩
abbrev c_C_makeTransfer : ByteArray := prog_3_method_7_code
def y_C_makeTransfer : MethodName := ⟨"ExpenseClubs$Club", "makeTransfer", "(I)V"⟩
abbrev c_X_giveUp : ByteArray := prog_1_method_18_code
def y_X_giveUp : MethodName := ⟨"ExpenseClubs", "giveUp", "(I)I"⟩
abbrev c_X_close : ByteArray := prog_1_method_19_code
def y_X_close : MethodName := ⟨"ExpenseClubs", "close", "(I)Z"⟩
abbrev c_X_count : ByteArray := prog_1_method_20_code
def y_X_count : MethodName := ⟨"ExpenseClubs", "count", "(II)I"⟩
abbrev c_X_groupOf : ByteArray := prog_1_method_21_code
def y_X_groupOf : MethodName := ⟨"ExpenseClubs", "groupOf", "(II)I"⟩
abbrev c_X_transfer : ByteArray := prog_1_method_16_code
def y_X_transfer : MethodName := ⟨"ExpenseClubs", "transfer", "(III)J"⟩
abbrev c_M_init : ByteArray := prog_8_method_1_code
def y_M_init : MethodName := ⟨"ExpenseClubsModel", "<init>", "()V"⟩
abbrev c_M_thrown : ByteArray := prog_8_method_2_code
def y_M_thrown : MethodName := ⟨"ExpenseClubsModel", "thrown", "()I"⟩
abbrev c_M_club : ByteArray := prog_8_method_6_code
def y_M_club : MethodName := ⟨"ExpenseClubsModel", "club", "()I"⟩
abbrev c_M_member : ByteArray := prog_8_method_7_code
def y_M_member : MethodName := ⟨"ExpenseClubsModel", "member", "(I)I"⟩
abbrev c_M_isClub : ByteArray := prog_8_method_3_code
def y_M_isClub : MethodName := ⟨"ExpenseClubsModel", "isClub", "(I)Z"⟩
abbrev c_M_leave : ByteArray := prog_8_method_8_code
def y_M_leave : MethodName := ⟨"ExpenseClubsModel", "leave", "(II)Z"⟩
abbrev c_M_isMember : ByteArray := prog_8_method_4_code
def y_M_isMember : MethodName := ⟨"ExpenseClubsModel", "isMember", "(II)Z"⟩
abbrev c_M_balance : ByteArray := prog_8_method_25_code
def y_M_balance : MethodName := ⟨"ExpenseClubsModel", "balance", "(II)J"⟩
abbrev c_M_bill : ByteArray := prog_8_method_10_code
def y_M_bill : MethodName := ⟨"ExpenseClubsModel", "bill", "(IIII)Z"⟩
abbrev c_M_within : ByteArray := prog_8_method_9_code
def y_M_within : MethodName := ⟨"ExpenseClubsModel", "within", "(III)Z"⟩
abbrev c_M_payer : ByteArray := prog_8_method_12_code
def y_M_payer : MethodName := ⟨"ExpenseClubsModel", "payer", "(II)Z"⟩
abbrev c_M_stays : ByteArray := prog_8_method_11_code
def y_M_stays : MethodName := ⟨"ExpenseClubsModel", "stays", "(I)Z"⟩
abbrev c_M_weight : ByteArray := prog_8_method_13_code
def y_M_weight : MethodName := ⟨"ExpenseClubsModel", "weight", "(II)Z"⟩
abbrev c_M_line : ByteArray := prog_8_method_14_code
def y_M_line : MethodName := ⟨"ExpenseClubsModel", "line", "(II)Z"⟩
abbrev c_M_post : ByteArray := prog_8_method_19_code
def y_M_post : MethodName := ⟨"ExpenseClubsModel", "post", "()I"⟩
abbrev c_M_wrong : ByteArray := prog_8_method_18_code
def y_M_wrong : MethodName := ⟨"ExpenseClubsModel", "wrong", "()I"⟩
abbrev c_M_weighs : ByteArray := prog_8_method_16_code
def y_M_weighs : MethodName := ⟨"ExpenseClubsModel", "weighs", "()J"⟩
abbrev c_M_size : ByteArray := prog_8_method_15_code
def y_M_size : MethodName := ⟨"ExpenseClubsModel", "size", "(I)I"⟩
abbrev c_M_fits : ByteArray := prog_8_method_17_code
def y_M_fits : MethodName := ⟨"ExpenseClubsModel", "fits", "(J)Z"⟩
abbrev c_M_pay : ByteArray := prog_8_method_20_code
def y_M_pay : MethodName := ⟨"ExpenseClubsModel", "pay", "(IJ)V"⟩
abbrev c_M_part : ByteArray := prog_8_method_5_code
def y_M_part : MethodName := ⟨"ExpenseClubsModel", "part", "(JJJ)J"⟩
abbrev c_M_share : ByteArray := prog_8_method_21_code
def y_M_share : MethodName := ⟨"ExpenseClubsModel", "share", "(IJJ)V"⟩
abbrev c_M_strike : ByteArray := prog_8_method_22_code
def y_M_strike : MethodName := ⟨"ExpenseClubsModel", "strike", "(I)Z"⟩
abbrev c_M_about : ByteArray := prog_8_method_23_code
def y_M_about : MethodName := ⟨"ExpenseClubsModel", "about", "(III)J"⟩
abbrev c_M_total : ByteArray := prog_8_method_24_code
def y_M_total : MethodName := ⟨"ExpenseClubsModel", "total", "(I)J"⟩
abbrev c_M_drift : ByteArray := prog_8_method_26_code
def y_M_drift : MethodName := ⟨"ExpenseClubsModel", "drift", "(II)J"⟩
abbrev c_M_settle : ByteArray := prog_8_method_32_code
def y_M_settle : MethodName := ⟨"ExpenseClubsModel", "settle", "(I)I"⟩
abbrev c_M_weighAll : ByteArray := prog_8_method_29_code
def y_M_weighAll : MethodName := ⟨"ExpenseClubsModel", "weighAll", "(I)V"⟩
abbrev c_M_lowest : ByteArray := prog_8_method_27_code
def y_M_lowest : MethodName := ⟨"ExpenseClubsModel", "lowest", "(I)I"⟩
abbrev c_M_divides : ByteArray := prog_8_method_28_code
def y_M_divides : MethodName := ⟨"ExpenseClubsModel", "divides", "()V"⟩
abbrev c_M_least : ByteArray := prog_8_method_30_code
def y_M_least : MethodName := ⟨"ExpenseClubsModel", "least", "(I)I"⟩
abbrev c_M_moves : ByteArray := prog_8_method_31_code
def y_M_moves : MethodName := ⟨"ExpenseClubsModel", "moves", "(II)V"⟩
abbrev c_M_transfer : ByteArray := prog_8_method_34_code
def y_M_transfer : MethodName := ⟨"ExpenseClubsModel", "transfer", "(III)J"⟩
abbrev c_M_isTransfer : ByteArray := prog_8_method_33_code
def y_M_isTransfer : MethodName := ⟨"ExpenseClubsModel", "isTransfer", "(II)Z"⟩
abbrev c_M_tick : ByteArray := prog_8_method_35_code
def y_M_tick : MethodName := ⟨"ExpenseClubsModel", "tick", "(II)Z"⟩
abbrev c_M_giveUp : ByteArray := prog_8_method_37_code
def y_M_giveUp : MethodName := ⟨"ExpenseClubsModel", "giveUp", "(I)I"⟩
abbrev c_M_unticked : ByteArray := prog_8_method_36_code
def y_M_unticked : MethodName := ⟨"ExpenseClubsModel", "unticked", "(I)I"⟩
abbrev c_M_close : ByteArray := prog_8_method_38_code
def y_M_close : MethodName := ⟨"ExpenseClubsModel", "close", "(I)Z"⟩
abbrev c_M_count : ByteArray := prog_8_method_39_code
def y_M_count : MethodName := ⟨"ExpenseClubsModel", "count", "(II)I"⟩
abbrev c_M_groupOf : ByteArray := prog_8_method_40_code
def y_M_groupOf : MethodName := ⟨"ExpenseClubsModel", "groupOf", "(II)I"⟩
