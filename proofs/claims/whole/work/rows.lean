section
-- ===== PART A: goes FIRST, ahead of the names: the tables' words, and 'selects' of the private methods out of them =====
/-- a private method of a class that the tables say can be made, by its rows of tables_1 -/
def lw_okq (q : MethodName × Nat) : Prop := (q.1.cls ≠ "java/lang/invoke/MethodHandle" ∧ q.1.cls ≠ "java/lang/invoke/VarHandle") ∧ Cond.instantiable q.1.cls q.2 ∈ tables_1 ∧ Cond.privateMethod q.1 ∈ tables_1 ∧ Cond.instanceMethod q.1 ∈ tables_1
theorem lw_p0 : lw_okq (⟨"ExpenseClubs", "clubAt", "(I)LExpenseClubs$Club;"⟩, 6) := ⟨⟨by decide +kernel, by decide +kernel⟩, List.mem_of_getElem? (i := 16) (by decide +kernel), List.mem_of_getElem? (i := 190) (by decide +kernel), List.mem_of_getElem? (i := 191) (by decide +kernel)⟩
theorem lw_p1 : lw_okq (⟨"ExpenseClubs", "refusalOfPost", "(LExpenseClubs$Club;)I"⟩, 6) := ⟨⟨by decide +kernel, by decide +kernel⟩, List.mem_of_getElem? (i := 16) (by decide +kernel), List.mem_of_getElem? (i := 253) (by decide +kernel), List.mem_of_getElem? (i := 254) (by decide +kernel)⟩
theorem lw_p2 : lw_okq (⟨"ExpenseClubs$Draft", "dueSum", "(J)J"⟩, 7) := ⟨⟨by decide +kernel, by decide +kernel⟩, List.mem_of_getElem? (i := 28) (by decide +kernel), List.mem_of_getElem? (i := 265) (by decide +kernel), List.mem_of_getElem? (i := 266) (by decide +kernel)⟩
theorem lw_p3 : lw_okq (⟨"ExpenseClubs", "billAt", "(I)LExpenseClubs$Bill;"⟩, 6) := ⟨⟨by decide +kernel, by decide +kernel⟩, List.mem_of_getElem? (i := 16) (by decide +kernel), List.mem_of_getElem? (i := 332) (by decide +kernel), List.mem_of_getElem? (i := 333) (by decide +kernel)⟩
theorem lw_p4 : lw_okq (⟨"ExpenseClubs$Grouping", "gather", "([J)V"⟩, 4) := ⟨⟨by decide +kernel, by decide +kernel⟩, List.mem_of_getElem? (i := 62) (by decide +kernel), List.mem_of_getElem? (i := 362) (by decide +kernel), List.mem_of_getElem? (i := 363) (by decide +kernel)⟩
theorem lw_p5 : lw_okq (⟨"ExpenseClubs$Grouping", "countMost", "()V"⟩, 4) := ⟨⟨by decide +kernel, by decide +kernel⟩, List.mem_of_getElem? (i := 62) (by decide +kernel), List.mem_of_getElem? (i := 366) (by decide +kernel), List.mem_of_getElem? (i := 367) (by decide +kernel)⟩
theorem lw_p6 : lw_okq (⟨"ExpenseClubs$Grouping", "firstGroup", "(I)I"⟩, 4) := ⟨⟨by decide +kernel, by decide +kernel⟩, List.mem_of_getElem? (i := 62) (by decide +kernel), List.mem_of_getElem? (i := 377) (by decide +kernel), List.mem_of_getElem? (i := 378) (by decide +kernel)⟩
theorem lw_p7 : lw_okq (⟨"ExpenseClubs$Grouping", "sumOfSet", "(I)J"⟩, 4) := ⟨⟨by decide +kernel, by decide +kernel⟩, List.mem_of_getElem? (i := 62) (by decide +kernel), List.mem_of_getElem? (i := 381) (by decide +kernel), List.mem_of_getElem? (i := 382) (by decide +kernel)⟩
theorem lw_p8 : lw_okq (⟨"ExpenseClubs$Grouping", "addGroup", "(LExpenseClubs$Settlement;I)V"⟩, 4) := ⟨⟨by decide +kernel, by decide +kernel⟩, List.mem_of_getElem? (i := 62) (by decide +kernel), List.mem_of_getElem? (i := 385) (by decide +kernel), List.mem_of_getElem? (i := 386) (by decide +kernel)⟩
theorem lw_p9 : lw_okq (⟨"java/lang/Throwable", "fillInStackTrace", "(I)Ljava/lang/Throwable;"⟩, 6) := ⟨⟨by decide +kernel, by decide +kernel⟩, List.mem_of_getElem? (i := 467) (by decide +kernel), List.mem_of_getElem? (i := 465) (by decide +kernel), List.mem_of_getElem? (i := 466) (by decide +kernel)⟩
theorem lw_p10 : lw_okq (⟨"ExpenseClubsModel", "isClub", "(I)Z"⟩, 33) := ⟨⟨by decide +kernel, by decide +kernel⟩, List.mem_of_getElem? (i := 513) (by decide +kernel), List.mem_of_getElem? (i := 631) (by decide +kernel), List.mem_of_getElem? (i := 632) (by decide +kernel)⟩
theorem lw_p11 : lw_okq (⟨"ExpenseClubsModel", "isMember", "(II)Z"⟩, 33) := ⟨⟨by decide +kernel, by decide +kernel⟩, List.mem_of_getElem? (i := 513) (by decide +kernel), List.mem_of_getElem? (i := 639) (by decide +kernel), List.mem_of_getElem? (i := 640) (by decide +kernel)⟩
theorem lw_p12 : lw_okq (⟨"ExpenseClubsModel", "stays", "(I)Z"⟩, 33) := ⟨⟨by decide +kernel, by decide +kernel⟩, List.mem_of_getElem? (i := 513) (by decide +kernel), List.mem_of_getElem? (i := 660) (by decide +kernel), List.mem_of_getElem? (i := 661) (by decide +kernel)⟩
theorem lw_p13 : lw_okq (⟨"ExpenseClubsModel", "wrong", "()I"⟩, 33) := ⟨⟨by decide +kernel, by decide +kernel⟩, List.mem_of_getElem? (i := 513) (by decide +kernel), List.mem_of_getElem? (i := 676) (by decide +kernel), List.mem_of_getElem? (i := 677) (by decide +kernel)⟩
theorem lw_p14 : lw_okq (⟨"ExpenseClubsModel", "weighs", "()J"⟩, 33) := ⟨⟨by decide +kernel, by decide +kernel⟩, List.mem_of_getElem? (i := 513) (by decide +kernel), List.mem_of_getElem? (i := 680) (by decide +kernel), List.mem_of_getElem? (i := 681) (by decide +kernel)⟩
theorem lw_p15 : lw_okq (⟨"ExpenseClubsModel", "fits", "(J)Z"⟩, 33) := ⟨⟨by decide +kernel, by decide +kernel⟩, List.mem_of_getElem? (i := 513) (by decide +kernel), List.mem_of_getElem? (i := 687) (by decide +kernel), List.mem_of_getElem? (i := 688) (by decide +kernel)⟩
def lw_privs_1 : List (MethodName × Nat) := [(⟨"ExpenseClubs", "clubAt", "(I)LExpenseClubs$Club;"⟩, 6), (⟨"ExpenseClubs", "refusalOfPost", "(LExpenseClubs$Club;)I"⟩, 6), (⟨"ExpenseClubs$Draft", "dueSum", "(J)J"⟩, 7), (⟨"ExpenseClubs", "billAt", "(I)LExpenseClubs$Bill;"⟩, 6), (⟨"ExpenseClubs$Grouping", "gather", "([J)V"⟩, 4), (⟨"ExpenseClubs$Grouping", "countMost", "()V"⟩, 4), (⟨"ExpenseClubs$Grouping", "firstGroup", "(I)I"⟩, 4), (⟨"ExpenseClubs$Grouping", "sumOfSet", "(I)J"⟩, 4), (⟨"ExpenseClubs$Grouping", "addGroup", "(LExpenseClubs$Settlement;I)V"⟩, 4), (⟨"java/lang/Throwable", "fillInStackTrace", "(I)Ljava/lang/Throwable;"⟩, 6), (⟨"ExpenseClubsModel", "isClub", "(I)Z"⟩, 33), (⟨"ExpenseClubsModel", "isMember", "(II)Z"⟩, 33), (⟨"ExpenseClubsModel", "stays", "(I)Z"⟩, 33), (⟨"ExpenseClubsModel", "wrong", "()I"⟩, 33), (⟨"ExpenseClubsModel", "weighs", "()J"⟩, 33), (⟨"ExpenseClubsModel", "fits", "(J)Z"⟩, 33)]
theorem lw_r1 : ∀ q ∈ lw_privs_1, lw_okq q := List.forall_mem_cons.mpr ⟨lw_p0, List.forall_mem_cons.mpr ⟨lw_p1, List.forall_mem_cons.mpr ⟨lw_p2, List.forall_mem_cons.mpr ⟨lw_p3, List.forall_mem_cons.mpr ⟨lw_p4, List.forall_mem_cons.mpr ⟨lw_p5, List.forall_mem_cons.mpr ⟨lw_p6, List.forall_mem_cons.mpr ⟨lw_p7, List.forall_mem_cons.mpr ⟨lw_p8, List.forall_mem_cons.mpr ⟨lw_p9, List.forall_mem_cons.mpr ⟨lw_p10, List.forall_mem_cons.mpr ⟨lw_p11, List.forall_mem_cons.mpr ⟨lw_p12, List.forall_mem_cons.mpr ⟨lw_p13, List.forall_mem_cons.mpr ⟨lw_p14, List.forall_mem_cons.mpr ⟨lw_p15, fun _ h => absurd h List.not_mem_nil⟩⟩⟩⟩⟩⟩⟩⟩⟩⟩⟩⟩⟩⟩⟩⟩
theorem lw_p16 : lw_okq (⟨"ExpenseClubsModel", "pay", "(IJ)V"⟩, 33) := ⟨⟨by decide +kernel, by decide +kernel⟩, List.mem_of_getElem? (i := 513) (by decide +kernel), List.mem_of_getElem? (i := 694) (by decide +kernel), List.mem_of_getElem? (i := 695) (by decide +kernel)⟩
theorem lw_p17 : lw_okq (⟨"ExpenseClubsModel", "share", "(IJJ)V"⟩, 33) := ⟨⟨by decide +kernel, by decide +kernel⟩, List.mem_of_getElem? (i := 513) (by decide +kernel), List.mem_of_getElem? (i := 702) (by decide +kernel), List.mem_of_getElem? (i := 703) (by decide +kernel)⟩
theorem lw_p18 : lw_okq (⟨"ExpenseClubsModel", "weighAll", "(I)V"⟩, 33) := ⟨⟨by decide +kernel, by decide +kernel⟩, List.mem_of_getElem? (i := 513) (by decide +kernel), List.mem_of_getElem? (i := 729) (by decide +kernel), List.mem_of_getElem? (i := 730) (by decide +kernel)⟩
theorem lw_p19 : lw_okq (⟨"ExpenseClubsModel", "divides", "()V"⟩, 33) := ⟨⟨by decide +kernel, by decide +kernel⟩, List.mem_of_getElem? (i := 513) (by decide +kernel), List.mem_of_getElem? (i := 736) (by decide +kernel), List.mem_of_getElem? (i := 737) (by decide +kernel)⟩
theorem lw_p20 : lw_okq (⟨"ExpenseClubsModel", "least", "(I)I"⟩, 33) := ⟨⟨by decide +kernel, by decide +kernel⟩, List.mem_of_getElem? (i := 513) (by decide +kernel), List.mem_of_getElem? (i := 740) (by decide +kernel), List.mem_of_getElem? (i := 741) (by decide +kernel)⟩
theorem lw_p21 : lw_okq (⟨"ExpenseClubsModel", "moves", "(II)V"⟩, 33) := ⟨⟨by decide +kernel, by decide +kernel⟩, List.mem_of_getElem? (i := 513) (by decide +kernel), List.mem_of_getElem? (i := 744) (by decide +kernel), List.mem_of_getElem? (i := 745) (by decide +kernel)⟩
theorem lw_p22 : lw_okq (⟨"ExpenseClubsModel", "isTransfer", "(II)Z"⟩, 33) := ⟨⟨by decide +kernel, by decide +kernel⟩, List.mem_of_getElem? (i := 513) (by decide +kernel), List.mem_of_getElem? (i := 752) (by decide +kernel), List.mem_of_getElem? (i := 753) (by decide +kernel)⟩
theorem lw_p23 : lw_okq (⟨"ExpenseClubsModel", "unticked", "(I)I"⟩, 33) := ⟨⟨by decide +kernel, by decide +kernel⟩, List.mem_of_getElem? (i := 513) (by decide +kernel), List.mem_of_getElem? (i := 764) (by decide +kernel), List.mem_of_getElem? (i := 765) (by decide +kernel)⟩
def lw_privs_2 : List (MethodName × Nat) := [(⟨"ExpenseClubsModel", "pay", "(IJ)V"⟩, 33), (⟨"ExpenseClubsModel", "share", "(IJJ)V"⟩, 33), (⟨"ExpenseClubsModel", "weighAll", "(I)V"⟩, 33), (⟨"ExpenseClubsModel", "divides", "()V"⟩, 33), (⟨"ExpenseClubsModel", "least", "(I)I"⟩, 33), (⟨"ExpenseClubsModel", "moves", "(II)V"⟩, 33), (⟨"ExpenseClubsModel", "isTransfer", "(II)Z"⟩, 33), (⟨"ExpenseClubsModel", "unticked", "(I)I"⟩, 33)]
theorem lw_r2 : ∀ q ∈ lw_privs_2, lw_okq q := List.forall_mem_cons.mpr ⟨lw_p16, List.forall_mem_cons.mpr ⟨lw_p17, List.forall_mem_cons.mpr ⟨lw_p18, List.forall_mem_cons.mpr ⟨lw_p19, List.forall_mem_cons.mpr ⟨lw_p20, List.forall_mem_cons.mpr ⟨lw_p21, List.forall_mem_cons.mpr ⟨lw_p22, List.forall_mem_cons.mpr ⟨lw_p23, fun _ h => absurd h List.not_mem_nil⟩⟩⟩⟩⟩⟩⟩⟩
def lw_privs : List (MethodName × Nat) := lw_privs_1 ++ (lw_privs_2)
def lw_tbl : List Cond := k2_sels lw_privs ++ tables_1
theorem lw_privs_ok : ∀ q ∈ lw_privs, lw_okq q := by
  show ∀ q ∈ lw_privs_1 ++ (lw_privs_2), lw_okq q
  exact List.forall_mem_append.mpr ⟨lw_r1, lw_r2⟩
/-! the words that a call may carry: those of the tables that stay true while the tables grow warmer -/
def gT : List Cond := lw_tbl.filter goodWord
theorem gmem {w : Cond} (h : w ∈ lw_tbl) (hg : goodWord w = true) : w ∈ gT := List.mem_filter.mpr ⟨h, hg⟩
theorem gT_good : ∀ w ∈ gT, w ∈ gT ∧ ((w.onTables && w.keeps) = true ∨ ∃ ty, w = .arrayClass ty) := fun w h => ⟨h, good_of_word (List.mem_filter.mp h).2⟩
theorem gT_of {w : Cond} (h : w ∈ gT) : w ∈ lw_tbl := (List.mem_filter.mp h).1
theorem goodIn_w (ws : List Cond) (ps : List Nat) (hp : ws = ps.filterMap (fun i => lw_tbl[i]?)) (h : ws.all goodWord = true) : ∀ w ∈ ws, w ∈ gT := by
  intro w hw
  have h1 := List.all_eq_true.mp h w hw
  rw [hp] at hw
  obtain ⟨i, -, hi⟩ := List.mem_filterMap.mp hw
  exact gmem (List.mem_of_getElem? hi) h1
def R_B : String := "ExpenseClubs$Bill"
def T_B : u_T := fun k => match k with
  | 0 => ("ExpenseClubs$Bill", "owner", "LExpenseClubs$Club;", true)
  | 1 => ("ExpenseClubs$Bill", "clubCents", "J", true)
  | 2 => ("ExpenseClubs$Bill", "paid", "[J", true)
  | 3 => ("ExpenseClubs$Bill", "shares", "[J", true)
  | 4 => ("ExpenseClubs$Bill", "drifts", "[J", true)
  | _ => ("ExpenseClubs$Bill", "struck", "Z", false)
def t_B : Nat → FieldType := fun k => match k with
  | 0 => .object "ExpenseClubs$Club"
  | 1 => .long
  | 2 => .array .long
  | 3 => .array .long
  | 4 => .array .long
  | _ => .boolean
theorem n_B : ∀ a, a < 6 → ∀ b, b < 6 → a ≠ b → (T_B a).2.1 ≠ (T_B b).2.1 := by decide +kernel
theorem t_B_ok : ∀ k, k < 6 → parseFieldDescriptor (T_B k).2.2.1 = some (t_B k) := by decide +kernel
set_option maxRecDepth 100000 in
theorem i_B : ∀ w ∈ u_ws "ExpenseClubs$Bill" T_B 6, w ∈ gT := (goodIn_w _ [324, 326, 328, 330, 332, 334] (by decide +kernel) (by decide +kernel))

def R_C : String := "ExpenseClubs$Club"
def T_C : u_T := fun k => match k with
  | 0 => ("ExpenseClubs$Club", "balances", "[J", true)
  | 1 => ("ExpenseClubs$Club", "drifts", "[J", true)
  | 2 => ("ExpenseClubs$Club", "settlement", "LExpenseClubs$Settlement;", true)
  | 3 => ("ExpenseClubs$Club", "memberCount", "I", false)
  | 4 => ("ExpenseClubs$Club", "goneSet", "I", false)
  | _ => ("ExpenseClubs$Club", "mark", "I", false)
def t_C : Nat → FieldType := fun k => match k with
  | 0 => .array .long
  | 1 => .array .long
  | 2 => .object "ExpenseClubs$Settlement"
  | 3 => .int
  | 4 => .int
  | _ => .int
theorem n_C : ∀ a, a < 6 → ∀ b, b < 6 → a ≠ b → (T_C a).2.1 ≠ (T_C b).2.1 := by decide +kernel
theorem t_C_ok : ∀ k, k < 6 → parseFieldDescriptor (T_C k).2.2.1 = some (t_C k) := by decide +kernel
set_option maxRecDepth 100000 in
theorem i_C : ∀ w ∈ u_ws "ExpenseClubs$Club" T_C 6, w ∈ gT := (goodIn_w _ [196, 198, 200, 202, 204, 206] (by decide +kernel) (by decide +kernel))

def R_D : String := "ExpenseClubs$Draft"
def T_D : u_T := fun k => match k with
  | 0 => ("ExpenseClubs$Draft", "payers", "[J", true)
  | 1 => ("ExpenseClubs$Draft", "weights", "[J", true)
  | 2 => ("ExpenseClubs$Draft", "club", "LExpenseClubs$Club;", false)
  | 3 => ("ExpenseClubs$Draft", "way", "I", false)
  | 4 => ("ExpenseClubs$Draft", "cents", "I", false)
  | 5 => ("ExpenseClubs$Draft", "rate", "I", false)
  | _ => ("ExpenseClubs$Draft", "lineCount", "I", false)
def t_D : Nat → FieldType := fun k => match k with
  | 0 => .array .long
  | 1 => .array .long
  | 2 => .object "ExpenseClubs$Club"
  | 3 => .int
  | 4 => .int
  | 5 => .int
  | _ => .int
theorem n_D : ∀ a, a < 7 → ∀ b, b < 7 → a ≠ b → (T_D a).2.1 ≠ (T_D b).2.1 := by decide +kernel
theorem t_D_ok : ∀ k, k < 7 → parseFieldDescriptor (T_D k).2.2.1 = some (t_D k) := by decide +kernel
set_option maxRecDepth 100000 in
theorem i_D : ∀ w ∈ u_ws "ExpenseClubs$Draft" T_D 7, w ∈ gT := (goodIn_w _ [69, 71, 73, 75, 77, 79, 81] (by decide +kernel) (by decide +kernel))

def R_G : String := "ExpenseClubs$Grouping"
def T_G : u_T := fun k => match k with
  | 0 => ("ExpenseClubs$Grouping", "members", "[I", true)
  | 1 => ("ExpenseClubs$Grouping", "amounts", "[J", true)
  | 2 => ("ExpenseClubs$Grouping", "most", "[I", true)
  | _ => ("ExpenseClubs$Grouping", "size", "I", false)
def t_G : Nat → FieldType := fun k => match k with
  | 0 => .array .int
  | 1 => .array .long
  | 2 => .array .int
  | _ => .int
theorem n_G : ∀ a, a < 4 → ∀ b, b < 4 → a ≠ b → (T_G a).2.1 ≠ (T_G b).2.1 := by decide +kernel
theorem t_G_ok : ∀ k, k < 4 → parseFieldDescriptor (T_G k).2.2.1 = some (t_G k) := by decide +kernel
set_option maxRecDepth 100000 in
theorem i_G : ∀ w ∈ u_ws "ExpenseClubs$Grouping" T_G 4, w ∈ gT := (goodIn_w _ [95, 97, 99, 101] (by decide +kernel) (by decide +kernel))

def R_S : String := "ExpenseClubs$Settlement"
def T_S : u_T := fun k => match k with
  | 0 => ("ExpenseClubs$Settlement", "groups", "[I", true)
  | 1 => ("ExpenseClubs$Settlement", "senders", "[I", true)
  | 2 => ("ExpenseClubs$Settlement", "getters", "[I", true)
  | 3 => ("ExpenseClubs$Settlement", "amounts", "[J", true)
  | 4 => ("ExpenseClubs$Settlement", "ticked", "[Z", true)
  | 5 => ("ExpenseClubs$Settlement", "open", "Z", false)
  | 6 => ("ExpenseClubs$Settlement", "groupCount", "I", false)
  | 7 => ("ExpenseClubs$Settlement", "transferCount", "I", false)
  | _ => ("ExpenseClubs$Settlement", "waiting", "I", false)
def t_S : Nat → FieldType := fun k => match k with
  | 0 => .array .int
  | 1 => .array .int
  | 2 => .array .int
  | 3 => .array .long
  | 4 => .array .boolean
  | 5 => .boolean
  | 6 => .int
  | 7 => .int
  | _ => .int
theorem n_S : ∀ a, a < 9 → ∀ b, b < 9 → a ≠ b → (T_S a).2.1 ≠ (T_S b).2.1 := by decide +kernel
theorem t_S_ok : ∀ k, k < 9 → parseFieldDescriptor (T_S k).2.2.1 = some (t_S k) := by decide +kernel
set_option maxRecDepth 100000 in
theorem i_S : ∀ w ∈ u_ws "ExpenseClubs$Settlement" T_S 9, w ∈ gT := (goodIn_w _ [164, 166, 168, 170, 172, 174, 176, 178, 180] (by decide +kernel) (by decide +kernel))

def R_X : String := "ExpenseClubs"
def T_X : u_T := fun k => match k with
  | 0 => ("ExpenseClubs", "clubs", "[LExpenseClubs$Club;", true)
  | 1 => ("ExpenseClubs", "bills", "[LExpenseClubs$Bill;", true)
  | 2 => ("ExpenseClubs", "draft", "LExpenseClubs$Draft;", true)
  | 3 => ("ExpenseClubs", "grouping", "LExpenseClubs$Grouping;", true)
  | 4 => ("ExpenseClubs", "clubCount", "I", false)
  | _ => ("ExpenseClubs", "billCount", "I", false)
def t_X : Nat → FieldType := fun k => match k with
  | 0 => .array (.object "ExpenseClubs$Club")
  | 1 => .array (.object "ExpenseClubs$Bill")
  | 2 => .object "ExpenseClubs$Draft"
  | 3 => .object "ExpenseClubs$Grouping"
  | 4 => .int
  | _ => .int
theorem n_X : ∀ a, a < 6 → ∀ b, b < 6 → a ≠ b → (T_X a).2.1 ≠ (T_X b).2.1 := by decide +kernel
theorem t_X_ok : ∀ k, k < 6 → parseFieldDescriptor (T_X k).2.2.1 = some (t_X k) := by decide +kernel
set_option maxRecDepth 100000 in
theorem i_X : ∀ w ∈ u_ws "ExpenseClubs" T_X 6, w ∈ gT := (goodIn_w _ [111, 113, 115, 117, 119, 121] (by decide +kernel) (by decide +kernel))

def R_M : String := "ExpenseClubsModel"
def T_M : u_T := fun k => match k with
  | 0 => ("ExpenseClubsModel", "thrown", "I", false)
  | 1 => ("ExpenseClubsModel", "clubs", "I", false)
  | 2 => ("ExpenseClubsModel", "members", "[I", true)
  | 3 => ("ExpenseClubsModel", "marks", "[I", true)
  | 4 => ("ExpenseClubsModel", "left", "[Z", true)
  | 5 => ("ExpenseClubsModel", "draft", "I", false)
  | 6 => ("ExpenseClubsModel", "way", "I", false)
  | 7 => ("ExpenseClubsModel", "cents", "I", false)
  | 8 => ("ExpenseClubsModel", "rate", "I", false)
  | 9 => ("ExpenseClubsModel", "pays", "[I", true)
  | 10 => ("ExpenseClubsModel", "weights", "[I", true)
  | 11 => ("ExpenseClubsModel", "lines", "I", false)
  | 12 => ("ExpenseClubsModel", "lineCents", "[I", true)
  | 13 => ("ExpenseClubsModel", "lineSets", "[I", true)
  | 14 => ("ExpenseClubsModel", "heavy", "[J", true)
  | 15 => ("ExpenseClubsModel", "bills", "I", false)
  | 16 => ("ExpenseClubsModel", "clubOf", "[I", true)
  | 17 => ("ExpenseClubsModel", "totals", "[J", true)
  | 18 => ("ExpenseClubsModel", "struck", "[Z", true)
  | 19 => ("ExpenseClubsModel", "shares", "[J", true)
  | 20 => ("ExpenseClubsModel", "paid", "[J", true)
  | 21 => ("ExpenseClubsModel", "drifts", "[J", true)
  | 22 => ("ExpenseClubsModel", "sent", "[J", true)
  | 23 => ("ExpenseClubsModel", "open", "[Z", true)
  | 24 => ("ExpenseClubsModel", "groups", "[I", true)
  | 25 => ("ExpenseClubsModel", "group", "[I", true)
  | 26 => ("ExpenseClubsModel", "many", "[I", true)
  | 27 => ("ExpenseClubsModel", "sends", "[I", true)
  | 28 => ("ExpenseClubsModel", "gets", "[I", true)
  | 29 => ("ExpenseClubsModel", "sums", "[J", true)
  | 30 => ("ExpenseClubsModel", "ticked", "[Z", true)
  | 31 => ("ExpenseClubsModel", "weigh", "[J", true)
  | _ => ("ExpenseClubsModel", "most", "[I", true)
def t_M : Nat → FieldType := fun k => match k with
  | 0 => .int
  | 1 => .int
  | 2 => .array .int
  | 3 => .array .int
  | 4 => .array .boolean
  | 5 => .int
  | 6 => .int
  | 7 => .int
  | 8 => .int
  | 9 => .array .int
  | 10 => .array .int
  | 11 => .int
  | 12 => .array .int
  | 13 => .array .int
  | 14 => .array .long
  | 15 => .int
  | 16 => .array .int
  | 17 => .array .long
  | 18 => .array .boolean
  | 19 => .array .long
  | 20 => .array .long
  | 21 => .array .long
  | 22 => .array .long
  | 23 => .array .boolean
  | 24 => .array .int
  | 25 => .array .int
  | 26 => .array .int
  | 27 => .array .int
  | 28 => .array .int
  | 29 => .array .long
  | 30 => .array .boolean
  | 31 => .array .long
  | _ => .array .int
theorem n_M : ∀ a, a < 33 → ∀ b, b < 33 → a ≠ b → (T_M a).2.1 ≠ (T_M b).2.1 := by decide +kernel
theorem t_M_ok : ∀ k, k < 33 → parseFieldDescriptor (T_M k).2.2.1 = some (t_M k) := by decide +kernel
set_option maxRecDepth 100000 in
theorem i_M : ∀ w ∈ u_ws "ExpenseClubsModel" T_M 33, w ∈ gT := (goodIn_w _ [575, 577, 579, 581, 583, 585, 587, 589, 591, 593, 595, 597, 599, 601, 603, 605, 607, 609, 611, 613, 615, 617, 619, 621, 623, 625, 627, 629, 631, 633, 635, 637, 639] (by decide +kernel) (by decide +kernel))

abbrev gCl : List vw_C := [("ExpenseClubs$Bill", T_B, 6), ("ExpenseClubs$Club", T_C, 6), ("ExpenseClubs$Draft", T_D, 7), ("ExpenseClubs$Grouping", T_G, 4), ("ExpenseClubs$Settlement", T_S, 9), ("ExpenseClubs", T_X, 6), ("ExpenseClubsModel", T_M, 33)]
abbrev gE : Type := va_G × List vw_C × List (ClassId × FieldType)
abbrev gX : Type := va_G × (Nat → ClassId)
abbrev EE (X : gX) : gE := (X.1, gCl, [(X.2 0, .int), (X.2 1, .long), (X.2 2, .boolean), (X.2 3, .object "ExpenseClubs$Club"), (X.2 4, .object "ExpenseClubs$Bill")])
abbrev c_X_init : ByteArray := prog_1_method_1_code
def y_X_init : MethodName := ⟨"ExpenseClubs", "<init>", "()V"⟩
abbrev c_O_init : ByteArray := object_method_1_code
def y_O_init : MethodName := ⟨"java/lang/Object", "<init>", "()V"⟩
abbrev c_D_init : ByteArray := prog_4_method_1_code
def y_D_init : MethodName := ⟨"ExpenseClubs$Draft", "<init>", "()V"⟩
abbrev c_G_init : ByteArray := prog_5_method_1_code
def y_G_init : MethodName := ⟨"ExpenseClubs$Grouping", "<init>", "()V"⟩
abbrev c_X_club : ByteArray := prog_1_method_2_code
def y_X_club : MethodName := ⟨"ExpenseClubs", "club", "()I"⟩
abbrev c_C_init : ByteArray := prog_3_method_1_code
def y_C_init : MethodName := ⟨"ExpenseClubs$Club", "<init>", "()V"⟩
abbrev c_S_init : ByteArray := prog_6_method_1_code
def y_S_init : MethodName := ⟨"ExpenseClubs$Settlement", "<init>", "()V"⟩
abbrev c_X_member : ByteArray := prog_1_method_3_code
def y_X_member : MethodName := ⟨"ExpenseClubs", "member", "(I)I"⟩
abbrev c_X_clubAt : ByteArray := prog_1_method_22_code
def y_X_clubAt : MethodName := ⟨"ExpenseClubs", "clubAt", "(I)LExpenseClubs$Club;"⟩
abbrev c_X_leave : ByteArray := prog_1_method_4_code
def y_X_leave : MethodName := ⟨"ExpenseClubs", "leave", "(II)Z"⟩
abbrev c_C_isPresent : ByteArray := prog_3_method_3_code
def y_C_isPresent : MethodName := ⟨"ExpenseClubs$Club", "isPresent", "(I)Z"⟩
abbrev c_C_isMember : ByteArray := prog_3_method_2_code
def y_C_isMember : MethodName := ⟨"ExpenseClubs$Club", "isMember", "(I)Z"⟩
abbrev c_C_isGone : ByteArray := prog_3_method_4_code
def y_C_isGone : MethodName := ⟨"ExpenseClubs$Club", "isGone", "(I)Z"⟩
abbrev c_X_bill : ByteArray := prog_1_method_5_code
def y_X_bill : MethodName := ⟨"ExpenseClubs", "bill", "(IIII)Z"⟩
abbrev c_D_begin : ByteArray := prog_4_method_2_code
def y_D_begin : MethodName := ⟨"ExpenseClubs$Draft", "begin", "(LExpenseClubs$Club;III)V"⟩
abbrev c_X_payer : ByteArray := prog_1_method_6_code
def y_X_payer : MethodName := ⟨"ExpenseClubs", "payer", "(II)Z"⟩
abbrev c_X_weight : ByteArray := prog_1_method_7_code
def y_X_weight : MethodName := ⟨"ExpenseClubs", "weight", "(II)Z"⟩
abbrev c_X_mostWeight : ByteArray := prog_1_method_25_code
def y_X_mostWeight : MethodName := ⟨"ExpenseClubs", "mostWeight", "(I)I"⟩
abbrev c_X_line : ByteArray := prog_1_method_8_code
def y_X_line : MethodName := ⟨"ExpenseClubs", "line", "(II)Z"⟩
abbrev c_C_presentSet : ByteArray := prog_3_method_5_code
def y_C_presentSet : MethodName := ⟨"ExpenseClubs$Club", "presentSet", "()I"⟩
abbrev c_D_addLine : ByteArray := prog_4_method_3_code
def y_D_addLine : MethodName := ⟨"ExpenseClubs$Draft", "addLine", "(II)V"⟩
abbrev c_I_bitCount : ByteArray := prog_12_method_49_code
def y_I_bitCount : MethodName := ⟨"java/lang/Integer", "bitCount", "(I)I"⟩
abbrev c_X_post : ByteArray := prog_1_method_9_code
def y_X_post : MethodName := ⟨"ExpenseClubs", "post", "()I"⟩
abbrev c_X_refusalOfPost : ByteArray := prog_1_method_24_code
def y_X_refusalOfPost : MethodName := ⟨"ExpenseClubs", "refusalOfPost", "(LExpenseClubs$Club;)I"⟩
abbrev c_D_refusalFor : ByteArray := prog_4_method_4_code
def y_D_refusalFor : MethodName := ⟨"ExpenseClubs$Draft", "refusalFor", "(LExpenseClubs$Club;)I"⟩
abbrev c_X_sumOf : ByteArray := prog_1_method_26_code
def y_X_sumOf : MethodName := ⟨"ExpenseClubs", "sumOf", "([J)J"⟩
abbrev c_D_dueSum : ByteArray := prog_4_method_5_code
def y_D_dueSum : MethodName := ⟨"ExpenseClubs$Draft", "dueSum", "(J)J"⟩
abbrev c_D_toBill : ByteArray := prog_4_method_6_code
def y_D_toBill : MethodName := ⟨"ExpenseClubs$Draft", "toBill", "(LExpenseClubs$Club;)LExpenseClubs$Bill;"⟩
abbrev c_B_init : ByteArray := prog_2_method_1_code
def y_B_init : MethodName := ⟨"ExpenseClubs$Bill", "<init>", "(LExpenseClubs$Club;J)V"⟩
abbrev c_X_cut : ByteArray := prog_1_method_28_code
def y_X_cut : MethodName := ⟨"ExpenseClubs", "cut", "(J[JI[J)I"⟩
abbrev c_X_portion : ByteArray := prog_1_method_27_code
def y_X_portion : MethodName := ⟨"ExpenseClubs", "portion", "(JJJ)J"⟩
abbrev c_C_book : ByteArray := prog_3_method_6_code
def y_C_book : MethodName := ⟨"ExpenseClubs$Club", "book", "(LExpenseClubs$Bill;I)V"⟩
abbrev c_X_strike : ByteArray := prog_1_method_10_code
def y_X_strike : MethodName := ⟨"ExpenseClubs", "strike", "(I)Z"⟩
abbrev c_X_billAt : ByteArray := prog_1_method_23_code
def y_X_billAt : MethodName := ⟨"ExpenseClubs", "billAt", "(I)LExpenseClubs$Bill;"⟩
abbrev c_X_about : ByteArray := prog_1_method_11_code
def y_X_about : MethodName := ⟨"ExpenseClubs", "about", "(III)J"⟩
abbrev c_X_total : ByteArray := prog_1_method_12_code
def y_X_total : MethodName := ⟨"ExpenseClubs", "total", "(I)J"⟩
abbrev c_X_balance : ByteArray := prog_1_method_13_code
def y_X_balance : MethodName := ⟨"ExpenseClubs", "balance", "(II)J"⟩
abbrev c_X_drift : ByteArray := prog_1_method_14_code
def y_X_drift : MethodName := ⟨"ExpenseClubs", "drift", "(II)J"⟩
abbrev c_X_settle : ByteArray := prog_1_method_15_code
def y_X_settle : MethodName := ⟨"ExpenseClubs", "settle", "(I)I"⟩
abbrev c_G_fill : ByteArray := prog_5_method_2_code
def y_G_fill : MethodName := ⟨"ExpenseClubs$Grouping", "fill", "(LExpenseClubs$Settlement;[J)V"⟩
abbrev c_G_gather : ByteArray := prog_5_method_3_code
def y_G_gather : MethodName := ⟨"ExpenseClubs$Grouping", "gather", "([J)V"⟩
abbrev c_G_countMost : ByteArray := prog_5_method_4_code
def y_G_countMost : MethodName := ⟨"ExpenseClubs$Grouping", "countMost", "()V"⟩
abbrev c_Ma_max : ByteArray := prog_13_method_65_code
def y_Ma_max : MethodName := ⟨"java/lang/Math", "max", "(II)I"⟩
abbrev c_S_begin : ByteArray := prog_6_method_2_code
def y_S_begin : MethodName := ⟨"ExpenseClubs$Settlement", "begin", "()V"⟩
abbrev c_G_firstGroup : ByteArray := prog_5_method_5_code
def y_G_firstGroup : MethodName := ⟨"ExpenseClubs$Grouping", "firstGroup", "(I)I"⟩
abbrev c_G_sumOfSet : ByteArray := prog_5_method_6_code
def y_G_sumOfSet : MethodName := ⟨"ExpenseClubs$Grouping", "sumOfSet", "(I)J"⟩
abbrev c_G_addGroup : ByteArray := prog_5_method_7_code
def y_G_addGroup : MethodName := ⟨"ExpenseClubs$Grouping", "addGroup", "(LExpenseClubs$Settlement;I)V"⟩
abbrev c_S_addTransfer : ByteArray := prog_6_method_4_code
def y_S_addTransfer : MethodName := ⟨"ExpenseClubs$Settlement", "addTransfer", "(IIJ)V"⟩
abbrev c_X_tick : ByteArray := prog_1_method_17_code
def y_X_tick : MethodName := ⟨"ExpenseClubs", "tick", "(II)Z"⟩
abbrev c_S_hasTransfer : ByteArray := prog_6_method_3_code
def y_S_hasTransfer : MethodName := ⟨"ExpenseClubs$Settlement", "hasTransfer", "(I)Z"⟩
abbrev c_C_makeTransfer : ByteArray := prog_3_method_7_code
def y_C_makeTransfer : MethodName := ⟨"ExpenseClubs$Club", "makeTransfer", "(I)V"⟩
abbrev c_X_giveUp : ByteArray := prog_1_method_18_code
def y_X_giveUp : MethodName := ⟨"ExpenseClubs", "giveUp", "(I)I"⟩
abbrev c_X_close : ByteArray := prog_1_method_19_code
def y_X_close : MethodName := ⟨"ExpenseClubs", "close", "(I)Z"⟩
abbrev c_X_count : ByteArray := prog_1_method_20_code
def y_X_count : MethodName := ⟨"ExpenseClubs", "count", "(II)I"⟩
abbrev c_X_groupOf : ByteArray := prog_1_method_21_code
def y_X_groupOf : MethodName := ⟨"ExpenseClubs", "groupOf", "(II)I"⟩
abbrev c_X_transfer : ByteArray := prog_1_method_16_code
def y_X_transfer : MethodName := ⟨"ExpenseClubs", "transfer", "(III)J"⟩
abbrev c_M_init : ByteArray := prog_8_method_1_code
def y_M_init : MethodName := ⟨"ExpenseClubsModel", "<init>", "()V"⟩
abbrev c_M_thrown : ByteArray := prog_8_method_2_code
def y_M_thrown : MethodName := ⟨"ExpenseClubsModel", "thrown", "()I"⟩
abbrev c_M_club : ByteArray := prog_8_method_6_code
def y_M_club : MethodName := ⟨"ExpenseClubsModel", "club", "()I"⟩
abbrev c_M_member : ByteArray := prog_8_method_7_code
def y_M_member : MethodName := ⟨"ExpenseClubsModel", "member", "(I)I"⟩
abbrev c_M_isClub : ByteArray := prog_8_method_3_code
def y_M_isClub : MethodName := ⟨"ExpenseClubsModel", "isClub", "(I)Z"⟩
abbrev c_M_leave : ByteArray := prog_8_method_8_code
def y_M_leave : MethodName := ⟨"ExpenseClubsModel", "leave", "(II)Z"⟩
abbrev c_M_isMember : ByteArray := prog_8_method_4_code
def y_M_isMember : MethodName := ⟨"ExpenseClubsModel", "isMember", "(II)Z"⟩
abbrev c_M_balance : ByteArray := prog_8_method_25_code
def y_M_balance : MethodName := ⟨"ExpenseClubsModel", "balance", "(II)J"⟩
abbrev c_M_bill : ByteArray := prog_8_method_10_code
def y_M_bill : MethodName := ⟨"ExpenseClubsModel", "bill", "(IIII)Z"⟩
abbrev c_M_within : ByteArray := prog_8_method_9_code
def y_M_within : MethodName := ⟨"ExpenseClubsModel", "within", "(III)Z"⟩
abbrev c_M_payer : ByteArray := prog_8_method_12_code
def y_M_payer : MethodName := ⟨"ExpenseClubsModel", "payer", "(II)Z"⟩
abbrev c_M_stays : ByteArray := prog_8_method_11_code
def y_M_stays : MethodName := ⟨"ExpenseClubsModel", "stays", "(I)Z"⟩
abbrev c_M_weight : ByteArray := prog_8_method_13_code
def y_M_weight : MethodName := ⟨"ExpenseClubsModel", "weight", "(II)Z"⟩
abbrev c_M_line : ByteArray := prog_8_method_14_code
def y_M_line : MethodName := ⟨"ExpenseClubsModel", "line", "(II)Z"⟩
abbrev c_M_post : ByteArray := prog_8_method_19_code
def y_M_post : MethodName := ⟨"ExpenseClubsModel", "post", "()I"⟩
abbrev c_M_wrong : ByteArray := prog_8_method_18_code
def y_M_wrong : MethodName := ⟨"ExpenseClubsModel", "wrong", "()I"⟩
abbrev c_M_weighs : ByteArray := prog_8_method_16_code
def y_M_weighs : MethodName := ⟨"ExpenseClubsModel", "weighs", "()J"⟩
abbrev c_M_size : ByteArray := prog_8_method_15_code
def y_M_size : MethodName := ⟨"ExpenseClubsModel", "size", "(I)I"⟩
abbrev c_M_fits : ByteArray := prog_8_method_17_code
def y_M_fits : MethodName := ⟨"ExpenseClubsModel", "fits", "(J)Z"⟩
abbrev c_M_pay : ByteArray := prog_8_method_20_code
def y_M_pay : MethodName := ⟨"ExpenseClubsModel", "pay", "(IJ)V"⟩
abbrev c_M_part : ByteArray := prog_8_method_5_code
def y_M_part : MethodName := ⟨"ExpenseClubsModel", "part", "(JJJ)J"⟩
abbrev c_M_share : ByteArray := prog_8_method_21_code
def y_M_share : MethodName := ⟨"ExpenseClubsModel", "share", "(IJJ)V"⟩
abbrev c_M_strike : ByteArray := prog_8_method_22_code
def y_M_strike : MethodName := ⟨"ExpenseClubsModel", "strike", "(I)Z"⟩
abbrev c_M_about : ByteArray := prog_8_method_23_code
def y_M_about : MethodName := ⟨"ExpenseClubsModel", "about", "(III)J"⟩
abbrev c_M_total : ByteArray := prog_8_method_24_code
def y_M_total : MethodName := ⟨"ExpenseClubsModel", "total", "(I)J"⟩
abbrev c_M_drift : ByteArray := prog_8_method_26_code
def y_M_drift : MethodName := ⟨"ExpenseClubsModel", "drift", "(II)J"⟩
abbrev c_M_settle : ByteArray := prog_8_method_32_code
def y_M_settle : MethodName := ⟨"ExpenseClubsModel", "settle", "(I)I"⟩
abbrev c_M_weighAll : ByteArray := prog_8_method_29_code
def y_M_weighAll : MethodName := ⟨"ExpenseClubsModel", "weighAll", "(I)V"⟩
abbrev c_M_lowest : ByteArray := prog_8_method_27_code
def y_M_lowest : MethodName := ⟨"ExpenseClubsModel", "lowest", "(I)I"⟩
abbrev c_M_divides : ByteArray := prog_8_method_28_code
def y_M_divides : MethodName := ⟨"ExpenseClubsModel", "divides", "()V"⟩
abbrev c_M_least : ByteArray := prog_8_method_30_code
def y_M_least : MethodName := ⟨"ExpenseClubsModel", "least", "(I)I"⟩
abbrev c_M_moves : ByteArray := prog_8_method_31_code
def y_M_moves : MethodName := ⟨"ExpenseClubsModel", "moves", "(II)V"⟩
abbrev c_M_transfer : ByteArray := prog_8_method_34_code
def y_M_transfer : MethodName := ⟨"ExpenseClubsModel", "transfer", "(III)J"⟩
abbrev c_M_isTransfer : ByteArray := prog_8_method_33_code
def y_M_isTransfer : MethodName := ⟨"ExpenseClubsModel", "isTransfer", "(II)Z"⟩
abbrev c_M_tick : ByteArray := prog_8_method_35_code
def y_M_tick : MethodName := ⟨"ExpenseClubsModel", "tick", "(II)Z"⟩
abbrev c_M_giveUp : ByteArray := prog_8_method_37_code
def y_M_giveUp : MethodName := ⟨"ExpenseClubsModel", "giveUp", "(I)I"⟩
abbrev c_M_unticked : ByteArray := prog_8_method_36_code
def y_M_unticked : MethodName := ⟨"ExpenseClubsModel", "unticked", "(I)I"⟩
abbrev c_M_close : ByteArray := prog_8_method_38_code
def y_M_close : MethodName := ⟨"ExpenseClubsModel", "close", "(I)Z"⟩
abbrev c_M_count : ByteArray := prog_8_method_39_code
def y_M_count : MethodName := ⟨"ExpenseClubsModel", "count", "(II)I"⟩
abbrev c_M_groupOf : ByteArray := prog_8_method_40_code
def y_M_groupOf : MethodName := ⟨"ExpenseClubsModel", "groupOf", "(II)I"⟩
end
section
set_option maxRecDepth 100000 in
theorem wd_0 : (Jvm.Cond.initialized "ExpenseClubsLaw") ∈ lw_tbl := List.mem_of_getElem? (i := 24) rfl
set_option maxRecDepth 100000 in
theorem wd_1 : (Jvm.Cond.initialized "ExpenseClubs") ∈ lw_tbl := List.mem_of_getElem? (i := 25) rfl
set_option maxRecDepth 100000 in
theorem wd_2 : (Jvm.Cond.initialized "ExpenseClubs$Draft") ∈ lw_tbl := List.mem_of_getElem? (i := 26) rfl
set_option maxRecDepth 100000 in
theorem wd_3 : (Jvm.Cond.initialized "ExpenseClubs$Grouping") ∈ lw_tbl := List.mem_of_getElem? (i := 27) rfl
set_option maxRecDepth 100000 in
theorem wd_4 : (Jvm.Cond.initialized "ExpenseClubsModel") ∈ lw_tbl := List.mem_of_getElem? (i := 28) rfl
set_option maxRecDepth 100000 in
theorem wd_5 : (Jvm.Cond.initialized "ExpenseClubs$Club") ∈ lw_tbl := List.mem_of_getElem? (i := 29) rfl
set_option maxRecDepth 100000 in
theorem wd_6 : (Jvm.Cond.initialized "ExpenseClubs$Settlement") ∈ lw_tbl := List.mem_of_getElem? (i := 30) rfl
set_option maxRecDepth 100000 in
theorem wd_7 : (Jvm.Cond.initialized "java/lang/Integer") ∈ lw_tbl := List.mem_of_getElem? (i := 31) rfl
set_option maxRecDepth 100000 in
theorem wd_8 : (Jvm.Cond.initialized "ExpenseClubs$Bill") ∈ lw_tbl := List.mem_of_getElem? (i := 32) rfl
set_option maxRecDepth 100000 in
theorem wd_9 : (Jvm.Cond.initialized "java/lang/Math") ∈ lw_tbl := List.mem_of_getElem? (i := 33) rfl
set_option maxRecDepth 100000 in
theorem wd_10 : (Jvm.Cond.initialized "java/lang/Throwable") ∈ lw_tbl := List.mem_of_getElem? (i := 34) rfl
set_option maxRecDepth 100000 in
theorem wd_11 : (Jvm.Cond.initialized "java/lang/Exception") ∈ lw_tbl := List.mem_of_getElem? (i := 35) rfl
set_option maxRecDepth 100000 in
theorem wd_12 : (Jvm.Cond.initialized "java/lang/RuntimeException") ∈ lw_tbl := List.mem_of_getElem? (i := 36) rfl
set_option maxRecDepth 100000 in
theorem wd_13 : (Jvm.Cond.initialized "java/lang/IndexOutOfBoundsException") ∈ lw_tbl := List.mem_of_getElem? (i := 37) rfl
set_option maxRecDepth 100000 in
theorem wd_14 : (Jvm.Cond.initialized "java/lang/IllegalArgumentException") ∈ lw_tbl := List.mem_of_getElem? (i := 38) rfl
set_option maxRecDepth 100000 in
theorem wd_15 : (Jvm.Cond.classLink "ExpenseClubsLaw" (8 : Nat) "ExpenseClubs") ∈ lw_tbl := List.mem_of_getElem? (i := 39) rfl
set_option maxRecDepth 100000 in
theorem wd_16 : (Jvm.Cond.instantiable "ExpenseClubs" (6 : Nat)) ∈ lw_tbl := List.mem_of_getElem? (i := 40) rfl
set_option maxRecDepth 100000 in
theorem wd_17 : (Jvm.Cond.methodLink "ExpenseClubsLaw" (17 : Nat) ({ cls := "ExpenseClubs", name := "<init>", desc := "()V" } : Jvm.MethodName)) ∈ lw_tbl := List.mem_of_getElem? (i := 41) rfl
set_option maxRecDepth 100000 in
theorem wd_18 : (Jvm.Cond.instanceMethod ({ cls := "ExpenseClubs", name := "<init>", desc := "()V" } : Jvm.MethodName)) ∈ lw_tbl := List.mem_of_getElem? (i := 42) rfl
set_option maxRecDepth 100000 in
theorem wd_19 : (Jvm.Cond.code ({ cls := "ExpenseClubs", name := "<init>", desc := "()V" } : Jvm.MethodName) prog_1_method_1_code (1 : Nat) (Option.none : Option Jvm.ClassFile.FieldType)) ∈ lw_tbl := List.mem_of_getElem? (i := 43) rfl
set_option maxRecDepth 100000 in
theorem wd_20 : (Jvm.Cond.methodLink "ExpenseClubs" (3 : Nat) ({ cls := "java/lang/Object", name := "<init>", desc := "()V" } : Jvm.MethodName)) ∈ lw_tbl := List.mem_of_getElem? (i := 44) rfl
set_option maxRecDepth 100000 in
theorem wd_21 : (Jvm.Cond.instanceMethod ({ cls := "java/lang/Object", name := "<init>", desc := "()V" } : Jvm.MethodName)) ∈ lw_tbl := List.mem_of_getElem? (i := 45) rfl
set_option maxRecDepth 100000 in
theorem wd_22 : (Jvm.Cond.code ({ cls := "java/lang/Object", name := "<init>", desc := "()V" } : Jvm.MethodName) object_method_1_code (1 : Nat) (Option.none : Option Jvm.ClassFile.FieldType)) ∈ lw_tbl := List.mem_of_getElem? (i := 46) rfl
set_option maxRecDepth 100000 in
theorem wd_23 : (Jvm.Cond.classLink "ExpenseClubs" (9 : Nat) "ExpenseClubs$Club") ∈ lw_tbl := List.mem_of_getElem? (i := 47) rfl
set_option maxRecDepth 100000 in
theorem wd_24 : (Jvm.Cond.arrayOver (Jvm.ClassFile.FieldType.object "ExpenseClubs$Club")) ∈ lw_tbl := List.mem_of_getElem? (i := 48) rfl
set_option maxRecDepth 100000 in
theorem wd_25 : (Jvm.Cond.classLink "ExpenseClubs" (15 : Nat) "ExpenseClubs$Bill") ∈ lw_tbl := List.mem_of_getElem? (i := 49) rfl
set_option maxRecDepth 100000 in
theorem wd_26 : (Jvm.Cond.arrayOver (Jvm.ClassFile.FieldType.object "ExpenseClubs$Bill")) ∈ lw_tbl := List.mem_of_getElem? (i := 50) rfl
set_option maxRecDepth 100000 in
theorem wd_27 : (Jvm.Cond.classLink "ExpenseClubs" (21 : Nat) "ExpenseClubs$Draft") ∈ lw_tbl := List.mem_of_getElem? (i := 51) rfl
set_option maxRecDepth 100000 in
theorem wd_28 : (Jvm.Cond.instantiable "ExpenseClubs$Draft" (7 : Nat)) ∈ lw_tbl := List.mem_of_getElem? (i := 52) rfl
set_option maxRecDepth 100000 in
theorem wd_29 : (Jvm.Cond.methodLinkNest "ExpenseClubs" (23 : Nat) ({ cls := "ExpenseClubs$Draft", name := "<init>", desc := "()V" } : Jvm.MethodName) "ExpenseClubs") ∈ lw_tbl := List.mem_of_getElem? (i := 53) rfl
set_option maxRecDepth 100000 in
theorem wd_30 : (Jvm.Cond.instanceMethod ({ cls := "ExpenseClubs$Draft", name := "<init>", desc := "()V" } : Jvm.MethodName)) ∈ lw_tbl := List.mem_of_getElem? (i := 54) rfl
set_option maxRecDepth 100000 in
theorem wd_31 : (Jvm.Cond.code ({ cls := "ExpenseClubs$Draft", name := "<init>", desc := "()V" } : Jvm.MethodName) prog_4_method_1_code (1 : Nat) (Option.none : Option Jvm.ClassFile.FieldType)) ∈ lw_tbl := List.mem_of_getElem? (i := 55) rfl
set_option maxRecDepth 100000 in
theorem wd_32 : (Jvm.Cond.methodLink "ExpenseClubs$Draft" (3 : Nat) ({ cls := "java/lang/Object", name := "<init>", desc := "()V" } : Jvm.MethodName)) ∈ lw_tbl := List.mem_of_getElem? (i := 56) rfl
set_option maxRecDepth 100000 in
theorem wd_33 : (Jvm.Cond.fieldLink "ExpenseClubs$Draft" (9 : Nat) "ExpenseClubs$Draft" "payers" "[J") ∈ lw_tbl := List.mem_of_getElem? (i := 57) rfl
set_option maxRecDepth 100000 in
theorem wd_34 : (Jvm.Cond.fieldLink "ExpenseClubs" (78 : Nat) "ExpenseClubs$Draft" "payers" "[J") ∈ lw_tbl := List.mem_of_getElem? (i := 58) rfl
set_option maxRecDepth 100000 in
theorem wd_35 : (Jvm.Cond.fieldLink "ExpenseClubs$Draft" (15 : Nat) "ExpenseClubs$Draft" "weights" "[J") ∈ lw_tbl := List.mem_of_getElem? (i := 59) rfl
set_option maxRecDepth 100000 in
theorem wd_36 : (Jvm.Cond.fieldLink "ExpenseClubs" (88 : Nat) "ExpenseClubs$Draft" "weights" "[J") ∈ lw_tbl := List.mem_of_getElem? (i := 60) rfl
set_option maxRecDepth 100000 in
theorem wd_37 : (Jvm.Cond.fieldLink "ExpenseClubs$Draft" (18 : Nat) "ExpenseClubs$Draft" "club" "LExpenseClubs$Club;") ∈ lw_tbl := List.mem_of_getElem? (i := 61) rfl
set_option maxRecDepth 100000 in
theorem wd_38 : (Jvm.Cond.fieldLink "ExpenseClubs" (74 : Nat) "ExpenseClubs$Draft" "club" "LExpenseClubs$Club;") ∈ lw_tbl := List.mem_of_getElem? (i := 62) rfl
set_option maxRecDepth 100000 in
theorem wd_39 : (Jvm.Cond.fieldLink "ExpenseClubs$Draft" (22 : Nat) "ExpenseClubs$Draft" "way" "I") ∈ lw_tbl := List.mem_of_getElem? (i := 63) rfl
set_option maxRecDepth 100000 in
theorem wd_40 : (Jvm.Cond.fieldLink "ExpenseClubs" (81 : Nat) "ExpenseClubs$Draft" "way" "I") ∈ lw_tbl := List.mem_of_getElem? (i := 64) rfl
set_option maxRecDepth 100000 in
theorem wd_41 : (Jvm.Cond.fieldLink "ExpenseClubs$Draft" (26 : Nat) "ExpenseClubs$Draft" "cents" "I") ∈ lw_tbl := List.mem_of_getElem? (i := 65) rfl
set_option maxRecDepth 100000 in
theorem wd_42 : (Jvm.Cond.fieldLink "ExpenseClubs$Draft" (29 : Nat) "ExpenseClubs$Draft" "rate" "I") ∈ lw_tbl := List.mem_of_getElem? (i := 66) rfl
set_option maxRecDepth 100000 in
theorem wd_43 : (Jvm.Cond.fieldLink "ExpenseClubs$Draft" (32 : Nat) "ExpenseClubs$Draft" "lineCount" "I") ∈ lw_tbl := List.mem_of_getElem? (i := 67) rfl
set_option maxRecDepth 100000 in
theorem wd_44 : (Jvm.Cond.fieldLink "ExpenseClubs" (95 : Nat) "ExpenseClubs$Draft" "lineCount" "I") ∈ lw_tbl := List.mem_of_getElem? (i := 68) rfl
set_option maxRecDepth 100000 in
theorem wd_45 : (Jvm.Cond.laysFinal "ExpenseClubs$Draft" "ExpenseClubs$Draft" "payers" "[J") ∈ lw_tbl := List.mem_of_getElem? (i := 69) rfl
set_option maxRecDepth 100000 in
theorem wd_46 : (Jvm.Cond.soleField "ExpenseClubs$Draft" "payers") ∈ lw_tbl := List.mem_of_getElem? (i := 70) rfl
set_option maxRecDepth 100000 in
theorem wd_47 : (Jvm.Cond.laysFinal "ExpenseClubs$Draft" "ExpenseClubs$Draft" "weights" "[J") ∈ lw_tbl := List.mem_of_getElem? (i := 71) rfl
set_option maxRecDepth 100000 in
theorem wd_48 : (Jvm.Cond.soleField "ExpenseClubs$Draft" "weights") ∈ lw_tbl := List.mem_of_getElem? (i := 72) rfl
set_option maxRecDepth 100000 in
theorem wd_49 : (Jvm.Cond.lays "ExpenseClubs$Draft" "ExpenseClubs$Draft" "club" "LExpenseClubs$Club;") ∈ lw_tbl := List.mem_of_getElem? (i := 73) rfl
set_option maxRecDepth 100000 in
theorem wd_50 : (Jvm.Cond.soleField "ExpenseClubs$Draft" "club") ∈ lw_tbl := List.mem_of_getElem? (i := 74) rfl
set_option maxRecDepth 100000 in
theorem wd_51 : (Jvm.Cond.lays "ExpenseClubs$Draft" "ExpenseClubs$Draft" "way" "I") ∈ lw_tbl := List.mem_of_getElem? (i := 75) rfl
set_option maxRecDepth 100000 in
theorem wd_52 : (Jvm.Cond.soleField "ExpenseClubs$Draft" "way") ∈ lw_tbl := List.mem_of_getElem? (i := 76) rfl
set_option maxRecDepth 100000 in
theorem wd_53 : (Jvm.Cond.lays "ExpenseClubs$Draft" "ExpenseClubs$Draft" "cents" "I") ∈ lw_tbl := List.mem_of_getElem? (i := 77) rfl
set_option maxRecDepth 100000 in
theorem wd_54 : (Jvm.Cond.soleField "ExpenseClubs$Draft" "cents") ∈ lw_tbl := List.mem_of_getElem? (i := 78) rfl
set_option maxRecDepth 100000 in
theorem wd_55 : (Jvm.Cond.lays "ExpenseClubs$Draft" "ExpenseClubs$Draft" "rate" "I") ∈ lw_tbl := List.mem_of_getElem? (i := 79) rfl
set_option maxRecDepth 100000 in
theorem wd_56 : (Jvm.Cond.soleField "ExpenseClubs$Draft" "rate") ∈ lw_tbl := List.mem_of_getElem? (i := 80) rfl
set_option maxRecDepth 100000 in
theorem wd_57 : (Jvm.Cond.lays "ExpenseClubs$Draft" "ExpenseClubs$Draft" "lineCount" "I") ∈ lw_tbl := List.mem_of_getElem? (i := 81) rfl
set_option maxRecDepth 100000 in
theorem wd_58 : (Jvm.Cond.soleField "ExpenseClubs$Draft" "lineCount") ∈ lw_tbl := List.mem_of_getElem? (i := 82) rfl
set_option maxRecDepth 100000 in
theorem wd_59 : (Jvm.Cond.superclass "ExpenseClubs$Draft" "java/lang/Object") ∈ lw_tbl := List.mem_of_getElem? (i := 83) rfl
set_option maxRecDepth 100000 in
theorem wd_60 : (Jvm.Cond.arrayClass Jvm.ClassFile.FieldType.long) ∈ lw_tbl := List.mem_of_getElem? (i := 84) rfl
set_option maxRecDepth 100000 in
theorem wd_61 : (Jvm.Cond.classLink "ExpenseClubs" (28 : Nat) "ExpenseClubs$Grouping") ∈ lw_tbl := List.mem_of_getElem? (i := 85) rfl
set_option maxRecDepth 100000 in
theorem wd_62 : (Jvm.Cond.instantiable "ExpenseClubs$Grouping" (4 : Nat)) ∈ lw_tbl := List.mem_of_getElem? (i := 86) rfl
set_option maxRecDepth 100000 in
theorem wd_63 : (Jvm.Cond.methodLinkNest "ExpenseClubs" (30 : Nat) ({ cls := "ExpenseClubs$Grouping", name := "<init>", desc := "()V" } : Jvm.MethodName) "ExpenseClubs") ∈ lw_tbl := List.mem_of_getElem? (i := 87) rfl
set_option maxRecDepth 100000 in
theorem wd_64 : (Jvm.Cond.instanceMethod ({ cls := "ExpenseClubs$Grouping", name := "<init>", desc := "()V" } : Jvm.MethodName)) ∈ lw_tbl := List.mem_of_getElem? (i := 88) rfl
set_option maxRecDepth 100000 in
theorem wd_65 : (Jvm.Cond.code ({ cls := "ExpenseClubs$Grouping", name := "<init>", desc := "()V" } : Jvm.MethodName) prog_5_method_1_code (1 : Nat) (Option.none : Option Jvm.ClassFile.FieldType)) ∈ lw_tbl := List.mem_of_getElem? (i := 89) rfl
set_option maxRecDepth 100000 in
theorem wd_66 : (Jvm.Cond.methodLink "ExpenseClubs$Grouping" (3 : Nat) ({ cls := "java/lang/Object", name := "<init>", desc := "()V" } : Jvm.MethodName)) ∈ lw_tbl := List.mem_of_getElem? (i := 90) rfl
set_option maxRecDepth 100000 in
theorem wd_67 : (Jvm.Cond.fieldLink "ExpenseClubs$Grouping" (9 : Nat) "ExpenseClubs$Grouping" "members" "[I") ∈ lw_tbl := List.mem_of_getElem? (i := 91) rfl
set_option maxRecDepth 100000 in
theorem wd_68 : (Jvm.Cond.fieldLink "ExpenseClubs$Grouping" (15 : Nat) "ExpenseClubs$Grouping" "amounts" "[J") ∈ lw_tbl := List.mem_of_getElem? (i := 92) rfl
set_option maxRecDepth 100000 in
theorem wd_69 : (Jvm.Cond.fieldLink "ExpenseClubs$Grouping" (19 : Nat) "ExpenseClubs$Grouping" "most" "[I") ∈ lw_tbl := List.mem_of_getElem? (i := 93) rfl
set_option maxRecDepth 100000 in
theorem wd_70 : (Jvm.Cond.fieldLink "ExpenseClubs$Grouping" (34 : Nat) "ExpenseClubs$Grouping" "size" "I") ∈ lw_tbl := List.mem_of_getElem? (i := 94) rfl
set_option maxRecDepth 100000 in
theorem wd_71 : (Jvm.Cond.laysFinal "ExpenseClubs$Grouping" "ExpenseClubs$Grouping" "members" "[I") ∈ lw_tbl := List.mem_of_getElem? (i := 95) rfl
set_option maxRecDepth 100000 in
theorem wd_72 : (Jvm.Cond.soleField "ExpenseClubs$Grouping" "members") ∈ lw_tbl := List.mem_of_getElem? (i := 96) rfl
set_option maxRecDepth 100000 in
theorem wd_73 : (Jvm.Cond.laysFinal "ExpenseClubs$Grouping" "ExpenseClubs$Grouping" "amounts" "[J") ∈ lw_tbl := List.mem_of_getElem? (i := 97) rfl
set_option maxRecDepth 100000 in
theorem wd_74 : (Jvm.Cond.soleField "ExpenseClubs$Grouping" "amounts") ∈ lw_tbl := List.mem_of_getElem? (i := 98) rfl
set_option maxRecDepth 100000 in
theorem wd_75 : (Jvm.Cond.laysFinal "ExpenseClubs$Grouping" "ExpenseClubs$Grouping" "most" "[I") ∈ lw_tbl := List.mem_of_getElem? (i := 99) rfl
set_option maxRecDepth 100000 in
theorem wd_76 : (Jvm.Cond.soleField "ExpenseClubs$Grouping" "most") ∈ lw_tbl := List.mem_of_getElem? (i := 100) rfl
set_option maxRecDepth 100000 in
theorem wd_77 : (Jvm.Cond.lays "ExpenseClubs$Grouping" "ExpenseClubs$Grouping" "size" "I") ∈ lw_tbl := List.mem_of_getElem? (i := 101) rfl
set_option maxRecDepth 100000 in
theorem wd_78 : (Jvm.Cond.soleField "ExpenseClubs$Grouping" "size") ∈ lw_tbl := List.mem_of_getElem? (i := 102) rfl
set_option maxRecDepth 100000 in
theorem wd_79 : (Jvm.Cond.superclass "ExpenseClubs$Grouping" "java/lang/Object") ∈ lw_tbl := List.mem_of_getElem? (i := 103) rfl
set_option maxRecDepth 100000 in
theorem wd_80 : (Jvm.Cond.arrayClass Jvm.ClassFile.FieldType.int) ∈ lw_tbl := List.mem_of_getElem? (i := 104) rfl
set_option maxRecDepth 100000 in
theorem wd_81 : (Jvm.Cond.fieldLink "ExpenseClubs" (11 : Nat) "ExpenseClubs" "clubs" "[LExpenseClubs$Club;") ∈ lw_tbl := List.mem_of_getElem? (i := 105) rfl
set_option maxRecDepth 100000 in
theorem wd_82 : (Jvm.Cond.fieldLink "ExpenseClubs" (17 : Nat) "ExpenseClubs" "bills" "[LExpenseClubs$Bill;") ∈ lw_tbl := List.mem_of_getElem? (i := 106) rfl
set_option maxRecDepth 100000 in
theorem wd_83 : (Jvm.Cond.fieldLink "ExpenseClubs" (24 : Nat) "ExpenseClubs" "draft" "LExpenseClubs$Draft;") ∈ lw_tbl := List.mem_of_getElem? (i := 107) rfl
set_option maxRecDepth 100000 in
theorem wd_84 : (Jvm.Cond.fieldLink "ExpenseClubs" (31 : Nat) "ExpenseClubs" "grouping" "LExpenseClubs$Grouping;") ∈ lw_tbl := List.mem_of_getElem? (i := 108) rfl
set_option maxRecDepth 100000 in
theorem wd_85 : (Jvm.Cond.fieldLink "ExpenseClubs" (35 : Nat) "ExpenseClubs" "clubCount" "I") ∈ lw_tbl := List.mem_of_getElem? (i := 109) rfl
set_option maxRecDepth 100000 in
theorem wd_86 : (Jvm.Cond.fieldLink "ExpenseClubs" (114 : Nat) "ExpenseClubs" "billCount" "I") ∈ lw_tbl := List.mem_of_getElem? (i := 110) rfl
set_option maxRecDepth 100000 in
theorem wd_87 : (Jvm.Cond.laysFinal "ExpenseClubs" "ExpenseClubs" "clubs" "[LExpenseClubs$Club;") ∈ lw_tbl := List.mem_of_getElem? (i := 111) rfl
set_option maxRecDepth 100000 in
theorem wd_88 : (Jvm.Cond.soleField "ExpenseClubs" "clubs") ∈ lw_tbl := List.mem_of_getElem? (i := 112) rfl
set_option maxRecDepth 100000 in
theorem wd_89 : (Jvm.Cond.laysFinal "ExpenseClubs" "ExpenseClubs" "bills" "[LExpenseClubs$Bill;") ∈ lw_tbl := List.mem_of_getElem? (i := 113) rfl
set_option maxRecDepth 100000 in
theorem wd_90 : (Jvm.Cond.soleField "ExpenseClubs" "bills") ∈ lw_tbl := List.mem_of_getElem? (i := 114) rfl
set_option maxRecDepth 100000 in
theorem wd_91 : (Jvm.Cond.laysFinal "ExpenseClubs" "ExpenseClubs" "draft" "LExpenseClubs$Draft;") ∈ lw_tbl := List.mem_of_getElem? (i := 115) rfl
set_option maxRecDepth 100000 in
theorem wd_92 : (Jvm.Cond.soleField "ExpenseClubs" "draft") ∈ lw_tbl := List.mem_of_getElem? (i := 116) rfl
set_option maxRecDepth 100000 in
theorem wd_93 : (Jvm.Cond.laysFinal "ExpenseClubs" "ExpenseClubs" "grouping" "LExpenseClubs$Grouping;") ∈ lw_tbl := List.mem_of_getElem? (i := 117) rfl
set_option maxRecDepth 100000 in
theorem wd_94 : (Jvm.Cond.soleField "ExpenseClubs" "grouping") ∈ lw_tbl := List.mem_of_getElem? (i := 118) rfl
set_option maxRecDepth 100000 in
theorem wd_95 : (Jvm.Cond.lays "ExpenseClubs" "ExpenseClubs" "clubCount" "I") ∈ lw_tbl := List.mem_of_getElem? (i := 119) rfl
set_option maxRecDepth 100000 in
theorem wd_96 : (Jvm.Cond.soleField "ExpenseClubs" "clubCount") ∈ lw_tbl := List.mem_of_getElem? (i := 120) rfl
set_option maxRecDepth 100000 in
theorem wd_97 : (Jvm.Cond.lays "ExpenseClubs" "ExpenseClubs" "billCount" "I") ∈ lw_tbl := List.mem_of_getElem? (i := 121) rfl
set_option maxRecDepth 100000 in
theorem wd_98 : (Jvm.Cond.soleField "ExpenseClubs" "billCount") ∈ lw_tbl := List.mem_of_getElem? (i := 122) rfl
set_option maxRecDepth 100000 in
theorem wd_99 : (Jvm.Cond.superclass "ExpenseClubs" "java/lang/Object") ∈ lw_tbl := List.mem_of_getElem? (i := 123) rfl
set_option maxRecDepth 100000 in
theorem wd_100 : (Jvm.Cond.methodLink "ExpenseClubsLaw" (21 : Nat) ({ cls := "ExpenseClubs", name := "club", desc := "()I" } : Jvm.MethodName)) ∈ lw_tbl := List.mem_of_getElem? (i := 124) rfl
set_option maxRecDepth 100000 in
theorem wd_101 : (Jvm.Cond.instanceMethod ({ cls := "ExpenseClubs", name := "club", desc := "()I" } : Jvm.MethodName)) ∈ lw_tbl := List.mem_of_getElem? (i := 125) rfl
set_option maxRecDepth 100000 in
theorem wd_102 : (Jvm.Cond.selects "ExpenseClubs" ({ cls := "ExpenseClubs", name := "club", desc := "()I" } : Jvm.MethodName) ({ cls := "ExpenseClubs", name := "club", desc := "()I" } : Jvm.MethodName)) ∈ lw_tbl := List.mem_of_getElem? (i := 126) rfl
set_option maxRecDepth 100000 in
theorem wd_103 : (Jvm.Cond.code ({ cls := "ExpenseClubs", name := "club", desc := "()I" } : Jvm.MethodName) prog_1_method_2_code (1 : Nat) (Option.some Jvm.ClassFile.FieldType.int)) ∈ lw_tbl := List.mem_of_getElem? (i := 127) rfl
set_option maxRecDepth 100000 in
theorem wd_104 : (Jvm.Cond.instantiable "ExpenseClubs$Club" (6 : Nat)) ∈ lw_tbl := List.mem_of_getElem? (i := 128) rfl
set_option maxRecDepth 100000 in
theorem wd_105 : (Jvm.Cond.methodLinkNest "ExpenseClubs" (39 : Nat) ({ cls := "ExpenseClubs$Club", name := "<init>", desc := "()V" } : Jvm.MethodName) "ExpenseClubs") ∈ lw_tbl := List.mem_of_getElem? (i := 129) rfl
set_option maxRecDepth 100000 in
theorem wd_106 : (Jvm.Cond.instanceMethod ({ cls := "ExpenseClubs$Club", name := "<init>", desc := "()V" } : Jvm.MethodName)) ∈ lw_tbl := List.mem_of_getElem? (i := 130) rfl
set_option maxRecDepth 100000 in
theorem wd_107 : (Jvm.Cond.code ({ cls := "ExpenseClubs$Club", name := "<init>", desc := "()V" } : Jvm.MethodName) prog_3_method_1_code (1 : Nat) (Option.none : Option Jvm.ClassFile.FieldType)) ∈ lw_tbl := List.mem_of_getElem? (i := 131) rfl
set_option maxRecDepth 100000 in
theorem wd_108 : (Jvm.Cond.methodLink "ExpenseClubs$Club" (3 : Nat) ({ cls := "java/lang/Object", name := "<init>", desc := "()V" } : Jvm.MethodName)) ∈ lw_tbl := List.mem_of_getElem? (i := 132) rfl
set_option maxRecDepth 100000 in
theorem wd_109 : (Jvm.Cond.classLink "ExpenseClubs$Club" (18 : Nat) "ExpenseClubs$Settlement") ∈ lw_tbl := List.mem_of_getElem? (i := 133) rfl
set_option maxRecDepth 100000 in
theorem wd_110 : (Jvm.Cond.instantiable "ExpenseClubs$Settlement" (9 : Nat)) ∈ lw_tbl := List.mem_of_getElem? (i := 134) rfl
set_option maxRecDepth 100000 in
theorem wd_111 : (Jvm.Cond.methodLinkNest "ExpenseClubs$Club" (20 : Nat) ({ cls := "ExpenseClubs$Settlement", name := "<init>", desc := "()V" } : Jvm.MethodName) "ExpenseClubs") ∈ lw_tbl := List.mem_of_getElem? (i := 135) rfl
set_option maxRecDepth 100000 in
theorem wd_112 : (Jvm.Cond.instanceMethod ({ cls := "ExpenseClubs$Settlement", name := "<init>", desc := "()V" } : Jvm.MethodName)) ∈ lw_tbl := List.mem_of_getElem? (i := 136) rfl
set_option maxRecDepth 100000 in
theorem wd_113 : (Jvm.Cond.code ({ cls := "ExpenseClubs$Settlement", name := "<init>", desc := "()V" } : Jvm.MethodName) prog_6_method_1_code (1 : Nat) (Option.none : Option Jvm.ClassFile.FieldType)) ∈ lw_tbl := List.mem_of_getElem? (i := 137) rfl
set_option maxRecDepth 100000 in
theorem wd_114 : (Jvm.Cond.methodLink "ExpenseClubs$Settlement" (3 : Nat) ({ cls := "java/lang/Object", name := "<init>", desc := "()V" } : Jvm.MethodName)) ∈ lw_tbl := List.mem_of_getElem? (i := 138) rfl
set_option maxRecDepth 100000 in
theorem wd_115 : (Jvm.Cond.fieldLink "ExpenseClubs$Settlement" (9 : Nat) "ExpenseClubs$Settlement" "groups" "[I") ∈ lw_tbl := List.mem_of_getElem? (i := 139) rfl
set_option maxRecDepth 100000 in
theorem wd_116 : (Jvm.Cond.fieldLink "ExpenseClubs$Grouping" (60 : Nat) "ExpenseClubs$Settlement" "groups" "[I") ∈ lw_tbl := List.mem_of_getElem? (i := 140) rfl
set_option maxRecDepth 100000 in
theorem wd_117 : (Jvm.Cond.fieldLink "ExpenseClubs" (195 : Nat) "ExpenseClubs$Settlement" "groups" "[I") ∈ lw_tbl := List.mem_of_getElem? (i := 141) rfl
set_option maxRecDepth 100000 in
theorem wd_118 : (Jvm.Cond.fieldLink "ExpenseClubs$Settlement" (15 : Nat) "ExpenseClubs$Settlement" "senders" "[I") ∈ lw_tbl := List.mem_of_getElem? (i := 142) rfl
set_option maxRecDepth 100000 in
theorem wd_119 : (Jvm.Cond.fieldLink "ExpenseClubs$Club" (55 : Nat) "ExpenseClubs$Settlement" "senders" "[I") ∈ lw_tbl := List.mem_of_getElem? (i := 143) rfl
set_option maxRecDepth 100000 in
theorem wd_120 : (Jvm.Cond.fieldLink "ExpenseClubs" (163 : Nat) "ExpenseClubs$Settlement" "senders" "[I") ∈ lw_tbl := List.mem_of_getElem? (i := 144) rfl
set_option maxRecDepth 100000 in
theorem wd_121 : (Jvm.Cond.fieldLink "ExpenseClubs$Settlement" (18 : Nat) "ExpenseClubs$Settlement" "getters" "[I") ∈ lw_tbl := List.mem_of_getElem? (i := 145) rfl
set_option maxRecDepth 100000 in
theorem wd_122 : (Jvm.Cond.fieldLink "ExpenseClubs$Club" (62 : Nat) "ExpenseClubs$Settlement" "getters" "[I") ∈ lw_tbl := List.mem_of_getElem? (i := 146) rfl
set_option maxRecDepth 100000 in
theorem wd_123 : (Jvm.Cond.fieldLink "ExpenseClubs" (167 : Nat) "ExpenseClubs$Settlement" "getters" "[I") ∈ lw_tbl := List.mem_of_getElem? (i := 147) rfl
set_option maxRecDepth 100000 in
theorem wd_124 : (Jvm.Cond.fieldLink "ExpenseClubs$Settlement" (21 : Nat) "ExpenseClubs$Settlement" "amounts" "[J") ∈ lw_tbl := List.mem_of_getElem? (i := 148) rfl
set_option maxRecDepth 100000 in
theorem wd_125 : (Jvm.Cond.fieldLink "ExpenseClubs$Club" (59 : Nat) "ExpenseClubs$Settlement" "amounts" "[J") ∈ lw_tbl := List.mem_of_getElem? (i := 149) rfl
set_option maxRecDepth 100000 in
theorem wd_126 : (Jvm.Cond.fieldLink "ExpenseClubs" (170 : Nat) "ExpenseClubs$Settlement" "amounts" "[J") ∈ lw_tbl := List.mem_of_getElem? (i := 150) rfl
set_option maxRecDepth 100000 in
theorem wd_127 : (Jvm.Cond.fieldLink "ExpenseClubs$Settlement" (25 : Nat) "ExpenseClubs$Settlement" "ticked" "[Z") ∈ lw_tbl := List.mem_of_getElem? (i := 151) rfl
set_option maxRecDepth 100000 in
theorem wd_128 : (Jvm.Cond.fieldLink "ExpenseClubs$Club" (48 : Nat) "ExpenseClubs$Settlement" "ticked" "[Z") ∈ lw_tbl := List.mem_of_getElem? (i := 152) rfl
set_option maxRecDepth 100000 in
theorem wd_129 : (Jvm.Cond.fieldLink "ExpenseClubs" (173 : Nat) "ExpenseClubs$Settlement" "ticked" "[Z") ∈ lw_tbl := List.mem_of_getElem? (i := 153) rfl
set_option maxRecDepth 100000 in
theorem wd_130 : (Jvm.Cond.fieldLink "ExpenseClubs$Settlement" (29 : Nat) "ExpenseClubs$Settlement" "open" "Z") ∈ lw_tbl := List.mem_of_getElem? (i := 154) rfl
set_option maxRecDepth 100000 in
theorem wd_131 : (Jvm.Cond.fieldLink "ExpenseClubs" (59 : Nat) "ExpenseClubs$Settlement" "open" "Z") ∈ lw_tbl := List.mem_of_getElem? (i := 155) rfl
set_option maxRecDepth 100000 in
theorem wd_132 : (Jvm.Cond.fieldLink "ExpenseClubs$Settlement" (33 : Nat) "ExpenseClubs$Settlement" "groupCount" "I") ∈ lw_tbl := List.mem_of_getElem? (i := 156) rfl
set_option maxRecDepth 100000 in
theorem wd_133 : (Jvm.Cond.fieldLink "ExpenseClubs$Grouping" (63 : Nat) "ExpenseClubs$Settlement" "groupCount" "I") ∈ lw_tbl := List.mem_of_getElem? (i := 157) rfl
set_option maxRecDepth 100000 in
theorem wd_134 : (Jvm.Cond.fieldLink "ExpenseClubs" (189 : Nat) "ExpenseClubs$Settlement" "groupCount" "I") ∈ lw_tbl := List.mem_of_getElem? (i := 158) rfl
set_option maxRecDepth 100000 in
theorem wd_135 : (Jvm.Cond.fieldLink "ExpenseClubs$Settlement" (37 : Nat) "ExpenseClubs$Settlement" "transferCount" "I") ∈ lw_tbl := List.mem_of_getElem? (i := 159) rfl
set_option maxRecDepth 100000 in
theorem wd_136 : (Jvm.Cond.fieldLink "ExpenseClubs" (150 : Nat) "ExpenseClubs$Settlement" "transferCount" "I") ∈ lw_tbl := List.mem_of_getElem? (i := 160) rfl
set_option maxRecDepth 100000 in
theorem wd_137 : (Jvm.Cond.fieldLink "ExpenseClubs$Settlement" (40 : Nat) "ExpenseClubs$Settlement" "waiting" "I") ∈ lw_tbl := List.mem_of_getElem? (i := 161) rfl
set_option maxRecDepth 100000 in
theorem wd_138 : (Jvm.Cond.fieldLink "ExpenseClubs$Club" (52 : Nat) "ExpenseClubs$Settlement" "waiting" "I") ∈ lw_tbl := List.mem_of_getElem? (i := 162) rfl
set_option maxRecDepth 100000 in
theorem wd_139 : (Jvm.Cond.fieldLink "ExpenseClubs" (186 : Nat) "ExpenseClubs$Settlement" "waiting" "I") ∈ lw_tbl := List.mem_of_getElem? (i := 163) rfl
set_option maxRecDepth 100000 in
theorem wd_140 : (Jvm.Cond.laysFinal "ExpenseClubs$Settlement" "ExpenseClubs$Settlement" "groups" "[I") ∈ lw_tbl := List.mem_of_getElem? (i := 164) rfl
set_option maxRecDepth 100000 in
theorem wd_141 : (Jvm.Cond.soleField "ExpenseClubs$Settlement" "groups") ∈ lw_tbl := List.mem_of_getElem? (i := 165) rfl
set_option maxRecDepth 100000 in
theorem wd_142 : (Jvm.Cond.laysFinal "ExpenseClubs$Settlement" "ExpenseClubs$Settlement" "senders" "[I") ∈ lw_tbl := List.mem_of_getElem? (i := 166) rfl
set_option maxRecDepth 100000 in
theorem wd_143 : (Jvm.Cond.soleField "ExpenseClubs$Settlement" "senders") ∈ lw_tbl := List.mem_of_getElem? (i := 167) rfl
set_option maxRecDepth 100000 in
theorem wd_144 : (Jvm.Cond.laysFinal "ExpenseClubs$Settlement" "ExpenseClubs$Settlement" "getters" "[I") ∈ lw_tbl := List.mem_of_getElem? (i := 168) rfl
set_option maxRecDepth 100000 in
theorem wd_145 : (Jvm.Cond.soleField "ExpenseClubs$Settlement" "getters") ∈ lw_tbl := List.mem_of_getElem? (i := 169) rfl
set_option maxRecDepth 100000 in
theorem wd_146 : (Jvm.Cond.laysFinal "ExpenseClubs$Settlement" "ExpenseClubs$Settlement" "amounts" "[J") ∈ lw_tbl := List.mem_of_getElem? (i := 170) rfl
set_option maxRecDepth 100000 in
theorem wd_147 : (Jvm.Cond.soleField "ExpenseClubs$Settlement" "amounts") ∈ lw_tbl := List.mem_of_getElem? (i := 171) rfl
set_option maxRecDepth 100000 in
theorem wd_148 : (Jvm.Cond.laysFinal "ExpenseClubs$Settlement" "ExpenseClubs$Settlement" "ticked" "[Z") ∈ lw_tbl := List.mem_of_getElem? (i := 172) rfl
set_option maxRecDepth 100000 in
theorem wd_149 : (Jvm.Cond.soleField "ExpenseClubs$Settlement" "ticked") ∈ lw_tbl := List.mem_of_getElem? (i := 173) rfl
set_option maxRecDepth 100000 in
theorem wd_150 : (Jvm.Cond.lays "ExpenseClubs$Settlement" "ExpenseClubs$Settlement" "open" "Z") ∈ lw_tbl := List.mem_of_getElem? (i := 174) rfl
set_option maxRecDepth 100000 in
theorem wd_151 : (Jvm.Cond.soleField "ExpenseClubs$Settlement" "open") ∈ lw_tbl := List.mem_of_getElem? (i := 175) rfl
set_option maxRecDepth 100000 in
theorem wd_152 : (Jvm.Cond.lays "ExpenseClubs$Settlement" "ExpenseClubs$Settlement" "groupCount" "I") ∈ lw_tbl := List.mem_of_getElem? (i := 176) rfl
set_option maxRecDepth 100000 in
theorem wd_153 : (Jvm.Cond.soleField "ExpenseClubs$Settlement" "groupCount") ∈ lw_tbl := List.mem_of_getElem? (i := 177) rfl
set_option maxRecDepth 100000 in
theorem wd_154 : (Jvm.Cond.lays "ExpenseClubs$Settlement" "ExpenseClubs$Settlement" "transferCount" "I") ∈ lw_tbl := List.mem_of_getElem? (i := 178) rfl
set_option maxRecDepth 100000 in
theorem wd_155 : (Jvm.Cond.soleField "ExpenseClubs$Settlement" "transferCount") ∈ lw_tbl := List.mem_of_getElem? (i := 179) rfl
set_option maxRecDepth 100000 in
theorem wd_156 : (Jvm.Cond.lays "ExpenseClubs$Settlement" "ExpenseClubs$Settlement" "waiting" "I") ∈ lw_tbl := List.mem_of_getElem? (i := 180) rfl
set_option maxRecDepth 100000 in
theorem wd_157 : (Jvm.Cond.soleField "ExpenseClubs$Settlement" "waiting") ∈ lw_tbl := List.mem_of_getElem? (i := 181) rfl
set_option maxRecDepth 100000 in
theorem wd_158 : (Jvm.Cond.superclass "ExpenseClubs$Settlement" "java/lang/Object") ∈ lw_tbl := List.mem_of_getElem? (i := 182) rfl
set_option maxRecDepth 100000 in
theorem wd_159 : (Jvm.Cond.arrayClass Jvm.ClassFile.FieldType.boolean) ∈ lw_tbl := List.mem_of_getElem? (i := 183) rfl
set_option maxRecDepth 100000 in
theorem wd_160 : (Jvm.Cond.fieldLink "ExpenseClubs$Club" (9 : Nat) "ExpenseClubs$Club" "balances" "[J") ∈ lw_tbl := List.mem_of_getElem? (i := 184) rfl
set_option maxRecDepth 100000 in
theorem wd_161 : (Jvm.Cond.fieldLink "ExpenseClubs" (51 : Nat) "ExpenseClubs$Club" "balances" "[J") ∈ lw_tbl := List.mem_of_getElem? (i := 185) rfl
set_option maxRecDepth 100000 in
theorem wd_162 : (Jvm.Cond.fieldLink "ExpenseClubs$Club" (15 : Nat) "ExpenseClubs$Club" "drifts" "[J") ∈ lw_tbl := List.mem_of_getElem? (i := 186) rfl
set_option maxRecDepth 100000 in
theorem wd_163 : (Jvm.Cond.fieldLink "ExpenseClubs" (145 : Nat) "ExpenseClubs$Club" "drifts" "[J") ∈ lw_tbl := List.mem_of_getElem? (i := 187) rfl
set_option maxRecDepth 100000 in
theorem wd_164 : (Jvm.Cond.fieldLink "ExpenseClubs$Club" (21 : Nat) "ExpenseClubs$Club" "settlement" "LExpenseClubs$Settlement;") ∈ lw_tbl := List.mem_of_getElem? (i := 188) rfl
set_option maxRecDepth 100000 in
theorem wd_165 : (Jvm.Cond.fieldLink "ExpenseClubs" (55 : Nat) "ExpenseClubs$Club" "settlement" "LExpenseClubs$Settlement;") ∈ lw_tbl := List.mem_of_getElem? (i := 189) rfl
set_option maxRecDepth 100000 in
theorem wd_166 : (Jvm.Cond.fieldLink "ExpenseClubs$Club" (25 : Nat) "ExpenseClubs$Club" "memberCount" "I") ∈ lw_tbl := List.mem_of_getElem? (i := 190) rfl
set_option maxRecDepth 100000 in
theorem wd_167 : (Jvm.Cond.fieldLink "ExpenseClubs" (44 : Nat) "ExpenseClubs$Club" "memberCount" "I") ∈ lw_tbl := List.mem_of_getElem? (i := 191) rfl
set_option maxRecDepth 100000 in
theorem wd_168 : (Jvm.Cond.fieldLink "ExpenseClubs$Club" (36 : Nat) "ExpenseClubs$Club" "goneSet" "I") ∈ lw_tbl := List.mem_of_getElem? (i := 192) rfl
set_option maxRecDepth 100000 in
theorem wd_169 : (Jvm.Cond.fieldLink "ExpenseClubs" (65 : Nat) "ExpenseClubs$Club" "goneSet" "I") ∈ lw_tbl := List.mem_of_getElem? (i := 193) rfl
set_option maxRecDepth 100000 in
theorem wd_170 : (Jvm.Cond.fieldLink "ExpenseClubs$Draft" (79 : Nat) "ExpenseClubs$Club" "mark" "I") ∈ lw_tbl := List.mem_of_getElem? (i := 194) rfl
set_option maxRecDepth 100000 in
theorem wd_171 : (Jvm.Cond.fieldLink "ExpenseClubs" (192 : Nat) "ExpenseClubs$Club" "mark" "I") ∈ lw_tbl := List.mem_of_getElem? (i := 195) rfl
set_option maxRecDepth 100000 in
theorem wd_172 : (Jvm.Cond.laysFinal "ExpenseClubs$Club" "ExpenseClubs$Club" "balances" "[J") ∈ lw_tbl := List.mem_of_getElem? (i := 196) rfl
set_option maxRecDepth 100000 in
theorem wd_173 : (Jvm.Cond.soleField "ExpenseClubs$Club" "balances") ∈ lw_tbl := List.mem_of_getElem? (i := 197) rfl
set_option maxRecDepth 100000 in
theorem wd_174 : (Jvm.Cond.laysFinal "ExpenseClubs$Club" "ExpenseClubs$Club" "drifts" "[J") ∈ lw_tbl := List.mem_of_getElem? (i := 198) rfl
set_option maxRecDepth 100000 in
theorem wd_175 : (Jvm.Cond.soleField "ExpenseClubs$Club" "drifts") ∈ lw_tbl := List.mem_of_getElem? (i := 199) rfl
set_option maxRecDepth 100000 in
theorem wd_176 : (Jvm.Cond.laysFinal "ExpenseClubs$Club" "ExpenseClubs$Club" "settlement" "LExpenseClubs$Settlement;") ∈ lw_tbl := List.mem_of_getElem? (i := 200) rfl
set_option maxRecDepth 100000 in
theorem wd_177 : (Jvm.Cond.soleField "ExpenseClubs$Club" "settlement") ∈ lw_tbl := List.mem_of_getElem? (i := 201) rfl
set_option maxRecDepth 100000 in
theorem wd_178 : (Jvm.Cond.lays "ExpenseClubs$Club" "ExpenseClubs$Club" "memberCount" "I") ∈ lw_tbl := List.mem_of_getElem? (i := 202) rfl
set_option maxRecDepth 100000 in
theorem wd_179 : (Jvm.Cond.soleField "ExpenseClubs$Club" "memberCount") ∈ lw_tbl := List.mem_of_getElem? (i := 203) rfl
set_option maxRecDepth 100000 in
theorem wd_180 : (Jvm.Cond.lays "ExpenseClubs$Club" "ExpenseClubs$Club" "goneSet" "I") ∈ lw_tbl := List.mem_of_getElem? (i := 204) rfl
set_option maxRecDepth 100000 in
theorem wd_181 : (Jvm.Cond.soleField "ExpenseClubs$Club" "goneSet") ∈ lw_tbl := List.mem_of_getElem? (i := 205) rfl
set_option maxRecDepth 100000 in
theorem wd_182 : (Jvm.Cond.lays "ExpenseClubs$Club" "ExpenseClubs$Club" "mark" "I") ∈ lw_tbl := List.mem_of_getElem? (i := 206) rfl
set_option maxRecDepth 100000 in
theorem wd_183 : (Jvm.Cond.soleField "ExpenseClubs$Club" "mark") ∈ lw_tbl := List.mem_of_getElem? (i := 207) rfl
set_option maxRecDepth 100000 in
theorem wd_184 : (Jvm.Cond.superclass "ExpenseClubs$Club" "java/lang/Object") ∈ lw_tbl := List.mem_of_getElem? (i := 208) rfl
set_option maxRecDepth 100000 in
theorem wd_185 : (Jvm.Cond.methodLink "ExpenseClubsLaw" (26 : Nat) ({ cls := "ExpenseClubs", name := "member", desc := "(I)I" } : Jvm.MethodName)) ∈ lw_tbl := List.mem_of_getElem? (i := 209) rfl
set_option maxRecDepth 100000 in
theorem wd_186 : (Jvm.Cond.instanceMethod ({ cls := "ExpenseClubs", name := "member", desc := "(I)I" } : Jvm.MethodName)) ∈ lw_tbl := List.mem_of_getElem? (i := 210) rfl
set_option maxRecDepth 100000 in
theorem wd_187 : (Jvm.Cond.selects "ExpenseClubs" ({ cls := "ExpenseClubs", name := "member", desc := "(I)I" } : Jvm.MethodName) ({ cls := "ExpenseClubs", name := "member", desc := "(I)I" } : Jvm.MethodName)) ∈ lw_tbl := List.mem_of_getElem? (i := 211) rfl
set_option maxRecDepth 100000 in
theorem wd_188 : (Jvm.Cond.code ({ cls := "ExpenseClubs", name := "member", desc := "(I)I" } : Jvm.MethodName) prog_1_method_3_code (3 : Nat) (Option.some Jvm.ClassFile.FieldType.int)) ∈ lw_tbl := List.mem_of_getElem? (i := 212) rfl
set_option maxRecDepth 100000 in
theorem wd_189 : (Jvm.Cond.methodLink "ExpenseClubs" (40 : Nat) ({ cls := "ExpenseClubs", name := "clubAt", desc := "(I)LExpenseClubs$Club;" } : Jvm.MethodName)) ∈ lw_tbl := List.mem_of_getElem? (i := 213) rfl
set_option maxRecDepth 100000 in
theorem wd_190 : (Jvm.Cond.privateMethod ({ cls := "ExpenseClubs", name := "clubAt", desc := "(I)LExpenseClubs$Club;" } : Jvm.MethodName)) ∈ lw_tbl := List.mem_of_getElem? (i := 214) rfl
set_option maxRecDepth 100000 in
theorem wd_191 : (Jvm.Cond.instanceMethod ({ cls := "ExpenseClubs", name := "clubAt", desc := "(I)LExpenseClubs$Club;" } : Jvm.MethodName)) ∈ lw_tbl := List.mem_of_getElem? (i := 215) rfl
set_option maxRecDepth 100000 in
theorem wd_192 : (Jvm.Cond.code ({ cls := "ExpenseClubs", name := "clubAt", desc := "(I)LExpenseClubs$Club;" } : Jvm.MethodName) prog_1_method_22_code (2 : Nat) (Option.some (Jvm.ClassFile.FieldType.object "ExpenseClubs$Club"))) ∈ lw_tbl := List.mem_of_getElem? (i := 216) rfl
set_option maxRecDepth 100000 in
theorem wd_193 : (Jvm.Cond.methodLink "ExpenseClubsLaw" (31 : Nat) ({ cls := "ExpenseClubs", name := "leave", desc := "(II)Z" } : Jvm.MethodName)) ∈ lw_tbl := List.mem_of_getElem? (i := 217) rfl
set_option maxRecDepth 100000 in
theorem wd_194 : (Jvm.Cond.instanceMethod ({ cls := "ExpenseClubs", name := "leave", desc := "(II)Z" } : Jvm.MethodName)) ∈ lw_tbl := List.mem_of_getElem? (i := 218) rfl
set_option maxRecDepth 100000 in
theorem wd_195 : (Jvm.Cond.selects "ExpenseClubs" ({ cls := "ExpenseClubs", name := "leave", desc := "(II)Z" } : Jvm.MethodName) ({ cls := "ExpenseClubs", name := "leave", desc := "(II)Z" } : Jvm.MethodName)) ∈ lw_tbl := List.mem_of_getElem? (i := 219) rfl
set_option maxRecDepth 100000 in
theorem wd_196 : (Jvm.Cond.code ({ cls := "ExpenseClubs", name := "leave", desc := "(II)Z" } : Jvm.MethodName) prog_1_method_4_code (4 : Nat) (Option.some Jvm.ClassFile.FieldType.boolean)) ∈ lw_tbl := List.mem_of_getElem? (i := 220) rfl
set_option maxRecDepth 100000 in
theorem wd_197 : (Jvm.Cond.methodLink "ExpenseClubs" (47 : Nat) ({ cls := "ExpenseClubs$Club", name := "isPresent", desc := "(I)Z" } : Jvm.MethodName)) ∈ lw_tbl := List.mem_of_getElem? (i := 221) rfl
set_option maxRecDepth 100000 in
theorem wd_198 : (Jvm.Cond.instanceMethod ({ cls := "ExpenseClubs$Club", name := "isPresent", desc := "(I)Z" } : Jvm.MethodName)) ∈ lw_tbl := List.mem_of_getElem? (i := 222) rfl
set_option maxRecDepth 100000 in
theorem wd_199 : (Jvm.Cond.selects "ExpenseClubs$Club" ({ cls := "ExpenseClubs$Club", name := "isPresent", desc := "(I)Z" } : Jvm.MethodName) ({ cls := "ExpenseClubs$Club", name := "isPresent", desc := "(I)Z" } : Jvm.MethodName)) ∈ lw_tbl := List.mem_of_getElem? (i := 223) rfl
set_option maxRecDepth 100000 in
theorem wd_200 : (Jvm.Cond.code ({ cls := "ExpenseClubs$Club", name := "isPresent", desc := "(I)Z" } : Jvm.MethodName) prog_3_method_3_code (2 : Nat) (Option.some Jvm.ClassFile.FieldType.boolean)) ∈ lw_tbl := List.mem_of_getElem? (i := 224) rfl
set_option maxRecDepth 100000 in
theorem wd_201 : (Jvm.Cond.methodLink "ExpenseClubs$Club" (29 : Nat) ({ cls := "ExpenseClubs$Club", name := "isMember", desc := "(I)Z" } : Jvm.MethodName)) ∈ lw_tbl := List.mem_of_getElem? (i := 225) rfl
set_option maxRecDepth 100000 in
theorem wd_202 : (Jvm.Cond.instanceMethod ({ cls := "ExpenseClubs$Club", name := "isMember", desc := "(I)Z" } : Jvm.MethodName)) ∈ lw_tbl := List.mem_of_getElem? (i := 226) rfl
set_option maxRecDepth 100000 in
theorem wd_203 : (Jvm.Cond.selects "ExpenseClubs$Club" ({ cls := "ExpenseClubs$Club", name := "isMember", desc := "(I)Z" } : Jvm.MethodName) ({ cls := "ExpenseClubs$Club", name := "isMember", desc := "(I)Z" } : Jvm.MethodName)) ∈ lw_tbl := List.mem_of_getElem? (i := 227) rfl
set_option maxRecDepth 100000 in
theorem wd_204 : (Jvm.Cond.code ({ cls := "ExpenseClubs$Club", name := "isMember", desc := "(I)Z" } : Jvm.MethodName) prog_3_method_2_code (2 : Nat) (Option.some Jvm.ClassFile.FieldType.boolean)) ∈ lw_tbl := List.mem_of_getElem? (i := 228) rfl
set_option maxRecDepth 100000 in
theorem wd_205 : (Jvm.Cond.methodLink "ExpenseClubs$Club" (33 : Nat) ({ cls := "ExpenseClubs$Club", name := "isGone", desc := "(I)Z" } : Jvm.MethodName)) ∈ lw_tbl := List.mem_of_getElem? (i := 229) rfl
set_option maxRecDepth 100000 in
theorem wd_206 : (Jvm.Cond.instanceMethod ({ cls := "ExpenseClubs$Club", name := "isGone", desc := "(I)Z" } : Jvm.MethodName)) ∈ lw_tbl := List.mem_of_getElem? (i := 230) rfl
set_option maxRecDepth 100000 in
theorem wd_207 : (Jvm.Cond.selects "ExpenseClubs$Club" ({ cls := "ExpenseClubs$Club", name := "isGone", desc := "(I)Z" } : Jvm.MethodName) ({ cls := "ExpenseClubs$Club", name := "isGone", desc := "(I)Z" } : Jvm.MethodName)) ∈ lw_tbl := List.mem_of_getElem? (i := 231) rfl
set_option maxRecDepth 100000 in
theorem wd_208 : (Jvm.Cond.code ({ cls := "ExpenseClubs$Club", name := "isGone", desc := "(I)Z" } : Jvm.MethodName) prog_3_method_4_code (2 : Nat) (Option.some Jvm.ClassFile.FieldType.boolean)) ∈ lw_tbl := List.mem_of_getElem? (i := 232) rfl
set_option maxRecDepth 100000 in
theorem wd_209 : (Jvm.Cond.methodLink "ExpenseClubsLaw" (36 : Nat) ({ cls := "ExpenseClubs", name := "bill", desc := "(IIII)Z" } : Jvm.MethodName)) ∈ lw_tbl := List.mem_of_getElem? (i := 233) rfl
set_option maxRecDepth 100000 in
theorem wd_210 : (Jvm.Cond.instanceMethod ({ cls := "ExpenseClubs", name := "bill", desc := "(IIII)Z" } : Jvm.MethodName)) ∈ lw_tbl := List.mem_of_getElem? (i := 234) rfl
set_option maxRecDepth 100000 in
theorem wd_211 : (Jvm.Cond.selects "ExpenseClubs" ({ cls := "ExpenseClubs", name := "bill", desc := "(IIII)Z" } : Jvm.MethodName) ({ cls := "ExpenseClubs", name := "bill", desc := "(IIII)Z" } : Jvm.MethodName)) ∈ lw_tbl := List.mem_of_getElem? (i := 235) rfl
set_option maxRecDepth 100000 in
theorem wd_212 : (Jvm.Cond.code ({ cls := "ExpenseClubs", name := "bill", desc := "(IIII)Z" } : Jvm.MethodName) prog_1_method_5_code (6 : Nat) (Option.some Jvm.ClassFile.FieldType.boolean)) ∈ lw_tbl := List.mem_of_getElem? (i := 236) rfl
set_option maxRecDepth 100000 in
theorem wd_213 : (Jvm.Cond.constant "ExpenseClubs" (68 : Nat) (100000000 : Int32)) ∈ lw_tbl := List.mem_of_getElem? (i := 237) rfl
set_option maxRecDepth 100000 in
theorem wd_214 : (Jvm.Cond.constant "ExpenseClubs" (69 : Nat) (1000000000 : Int32)) ∈ lw_tbl := List.mem_of_getElem? (i := 238) rfl
set_option maxRecDepth 100000 in
theorem wd_215 : (Jvm.Cond.methodLink "ExpenseClubs" (70 : Nat) ({ cls := "ExpenseClubs$Draft", name := "begin", desc := "(LExpenseClubs$Club;III)V" } : Jvm.MethodName)) ∈ lw_tbl := List.mem_of_getElem? (i := 239) rfl
set_option maxRecDepth 100000 in
theorem wd_216 : (Jvm.Cond.instanceMethod ({ cls := "ExpenseClubs$Draft", name := "begin", desc := "(LExpenseClubs$Club;III)V" } : Jvm.MethodName)) ∈ lw_tbl := List.mem_of_getElem? (i := 240) rfl
set_option maxRecDepth 100000 in
theorem wd_217 : (Jvm.Cond.selects "ExpenseClubs$Draft" ({ cls := "ExpenseClubs$Draft", name := "begin", desc := "(LExpenseClubs$Club;III)V" } : Jvm.MethodName) ({ cls := "ExpenseClubs$Draft", name := "begin", desc := "(LExpenseClubs$Club;III)V" } : Jvm.MethodName)) ∈ lw_tbl := List.mem_of_getElem? (i := 241) rfl
set_option maxRecDepth 100000 in
theorem wd_218 : (Jvm.Cond.code ({ cls := "ExpenseClubs$Draft", name := "begin", desc := "(LExpenseClubs$Club;III)V" } : Jvm.MethodName) prog_4_method_2_code (6 : Nat) (Option.none : Option Jvm.ClassFile.FieldType)) ∈ lw_tbl := List.mem_of_getElem? (i := 242) rfl
set_option maxRecDepth 100000 in
theorem wd_219 : (Jvm.Cond.methodLink "ExpenseClubsLaw" (41 : Nat) ({ cls := "ExpenseClubs", name := "payer", desc := "(II)Z" } : Jvm.MethodName)) ∈ lw_tbl := List.mem_of_getElem? (i := 243) rfl
set_option maxRecDepth 100000 in
theorem wd_220 : (Jvm.Cond.instanceMethod ({ cls := "ExpenseClubs", name := "payer", desc := "(II)Z" } : Jvm.MethodName)) ∈ lw_tbl := List.mem_of_getElem? (i := 244) rfl
set_option maxRecDepth 100000 in
theorem wd_221 : (Jvm.Cond.selects "ExpenseClubs" ({ cls := "ExpenseClubs", name := "payer", desc := "(II)Z" } : Jvm.MethodName) ({ cls := "ExpenseClubs", name := "payer", desc := "(II)Z" } : Jvm.MethodName)) ∈ lw_tbl := List.mem_of_getElem? (i := 245) rfl
set_option maxRecDepth 100000 in
theorem wd_222 : (Jvm.Cond.code ({ cls := "ExpenseClubs", name := "payer", desc := "(II)Z" } : Jvm.MethodName) prog_1_method_6_code (4 : Nat) (Option.some Jvm.ClassFile.FieldType.boolean)) ∈ lw_tbl := List.mem_of_getElem? (i := 246) rfl
set_option maxRecDepth 100000 in
theorem wd_223 : (Jvm.Cond.methodLink "ExpenseClubsLaw" (45 : Nat) ({ cls := "ExpenseClubs", name := "weight", desc := "(II)Z" } : Jvm.MethodName)) ∈ lw_tbl := List.mem_of_getElem? (i := 247) rfl
set_option maxRecDepth 100000 in
theorem wd_224 : (Jvm.Cond.instanceMethod ({ cls := "ExpenseClubs", name := "weight", desc := "(II)Z" } : Jvm.MethodName)) ∈ lw_tbl := List.mem_of_getElem? (i := 248) rfl
set_option maxRecDepth 100000 in
theorem wd_225 : (Jvm.Cond.selects "ExpenseClubs" ({ cls := "ExpenseClubs", name := "weight", desc := "(II)Z" } : Jvm.MethodName) ({ cls := "ExpenseClubs", name := "weight", desc := "(II)Z" } : Jvm.MethodName)) ∈ lw_tbl := List.mem_of_getElem? (i := 249) rfl
set_option maxRecDepth 100000 in
theorem wd_226 : (Jvm.Cond.code ({ cls := "ExpenseClubs", name := "weight", desc := "(II)Z" } : Jvm.MethodName) prog_1_method_7_code (4 : Nat) (Option.some Jvm.ClassFile.FieldType.boolean)) ∈ lw_tbl := List.mem_of_getElem? (i := 250) rfl
set_option maxRecDepth 100000 in
theorem wd_227 : (Jvm.Cond.methodLink "ExpenseClubs" (84 : Nat) ({ cls := "ExpenseClubs", name := "mostWeight", desc := "(I)I" } : Jvm.MethodName)) ∈ lw_tbl := List.mem_of_getElem? (i := 251) rfl
set_option maxRecDepth 100000 in
theorem wd_228 : (Jvm.Cond.static ({ cls := "ExpenseClubs", name := "mostWeight", desc := "(I)I" } : Jvm.MethodName)) ∈ lw_tbl := List.mem_of_getElem? (i := 252) rfl
set_option maxRecDepth 100000 in
theorem wd_229 : (Jvm.Cond.code ({ cls := "ExpenseClubs", name := "mostWeight", desc := "(I)I" } : Jvm.MethodName) prog_1_method_25_code (1 : Nat) (Option.some Jvm.ClassFile.FieldType.int)) ∈ lw_tbl := List.mem_of_getElem? (i := 253) rfl
set_option maxRecDepth 100000 in
theorem wd_230 : (Jvm.Cond.methodLink "ExpenseClubsLaw" (49 : Nat) ({ cls := "ExpenseClubs", name := "line", desc := "(II)Z" } : Jvm.MethodName)) ∈ lw_tbl := List.mem_of_getElem? (i := 254) rfl
set_option maxRecDepth 100000 in
theorem wd_231 : (Jvm.Cond.instanceMethod ({ cls := "ExpenseClubs", name := "line", desc := "(II)Z" } : Jvm.MethodName)) ∈ lw_tbl := List.mem_of_getElem? (i := 255) rfl
set_option maxRecDepth 100000 in
theorem wd_232 : (Jvm.Cond.selects "ExpenseClubs" ({ cls := "ExpenseClubs", name := "line", desc := "(II)Z" } : Jvm.MethodName) ({ cls := "ExpenseClubs", name := "line", desc := "(II)Z" } : Jvm.MethodName)) ∈ lw_tbl := List.mem_of_getElem? (i := 256) rfl
set_option maxRecDepth 100000 in
theorem wd_233 : (Jvm.Cond.code ({ cls := "ExpenseClubs", name := "line", desc := "(II)Z" } : Jvm.MethodName) prog_1_method_8_code (4 : Nat) (Option.some Jvm.ClassFile.FieldType.boolean)) ∈ lw_tbl := List.mem_of_getElem? (i := 257) rfl
set_option maxRecDepth 100000 in
theorem wd_234 : (Jvm.Cond.methodLink "ExpenseClubs" (91 : Nat) ({ cls := "ExpenseClubs$Club", name := "presentSet", desc := "()I" } : Jvm.MethodName)) ∈ lw_tbl := List.mem_of_getElem? (i := 258) rfl
set_option maxRecDepth 100000 in
theorem wd_235 : (Jvm.Cond.instanceMethod ({ cls := "ExpenseClubs$Club", name := "presentSet", desc := "()I" } : Jvm.MethodName)) ∈ lw_tbl := List.mem_of_getElem? (i := 259) rfl
set_option maxRecDepth 100000 in
theorem wd_236 : (Jvm.Cond.selects "ExpenseClubs$Club" ({ cls := "ExpenseClubs$Club", name := "presentSet", desc := "()I" } : Jvm.MethodName) ({ cls := "ExpenseClubs$Club", name := "presentSet", desc := "()I" } : Jvm.MethodName)) ∈ lw_tbl := List.mem_of_getElem? (i := 260) rfl
set_option maxRecDepth 100000 in
theorem wd_237 : (Jvm.Cond.code ({ cls := "ExpenseClubs$Club", name := "presentSet", desc := "()I" } : Jvm.MethodName) prog_3_method_5_code (1 : Nat) (Option.some Jvm.ClassFile.FieldType.int)) ∈ lw_tbl := List.mem_of_getElem? (i := 261) rfl
set_option maxRecDepth 100000 in
theorem wd_238 : (Jvm.Cond.methodLink "ExpenseClubs" (98 : Nat) ({ cls := "ExpenseClubs$Draft", name := "addLine", desc := "(II)V" } : Jvm.MethodName)) ∈ lw_tbl := List.mem_of_getElem? (i := 262) rfl
set_option maxRecDepth 100000 in
theorem wd_239 : (Jvm.Cond.instanceMethod ({ cls := "ExpenseClubs$Draft", name := "addLine", desc := "(II)V" } : Jvm.MethodName)) ∈ lw_tbl := List.mem_of_getElem? (i := 263) rfl
set_option maxRecDepth 100000 in
theorem wd_240 : (Jvm.Cond.selects "ExpenseClubs$Draft" ({ cls := "ExpenseClubs$Draft", name := "addLine", desc := "(II)V" } : Jvm.MethodName) ({ cls := "ExpenseClubs$Draft", name := "addLine", desc := "(II)V" } : Jvm.MethodName)) ∈ lw_tbl := List.mem_of_getElem? (i := 264) rfl
set_option maxRecDepth 100000 in
theorem wd_241 : (Jvm.Cond.code ({ cls := "ExpenseClubs$Draft", name := "addLine", desc := "(II)V" } : Jvm.MethodName) prog_4_method_3_code (7 : Nat) (Option.none : Option Jvm.ClassFile.FieldType)) ∈ lw_tbl := List.mem_of_getElem? (i := 265) rfl
set_option maxRecDepth 100000 in
theorem wd_242 : (Jvm.Cond.methodLink "ExpenseClubs$Draft" (35 : Nat) ({ cls := "java/lang/Integer", name := "bitCount", desc := "(I)I" } : Jvm.MethodName)) ∈ lw_tbl := List.mem_of_getElem? (i := 266) rfl
set_option maxRecDepth 100000 in
theorem wd_243 : (Jvm.Cond.static ({ cls := "java/lang/Integer", name := "bitCount", desc := "(I)I" } : Jvm.MethodName)) ∈ lw_tbl := List.mem_of_getElem? (i := 267) rfl
set_option maxRecDepth 100000 in
theorem wd_244 : (Jvm.Cond.code ({ cls := "java/lang/Integer", name := "bitCount", desc := "(I)I" } : Jvm.MethodName) prog_12_method_49_code (1 : Nat) (Option.some Jvm.ClassFile.FieldType.int)) ∈ lw_tbl := List.mem_of_getElem? (i := 268) rfl
set_option maxRecDepth 100000 in
theorem wd_245 : (Jvm.Cond.constant "java/lang/Integer" (265 : Nat) (1431655765 : Int32)) ∈ lw_tbl := List.mem_of_getElem? (i := 269) rfl
set_option maxRecDepth 100000 in
theorem wd_246 : (Jvm.Cond.constant "java/lang/Integer" (266 : Nat) (858993459 : Int32)) ∈ lw_tbl := List.mem_of_getElem? (i := 270) rfl
set_option maxRecDepth 100000 in
theorem wd_247 : (Jvm.Cond.constant "java/lang/Integer" (267 : Nat) (252645135 : Int32)) ∈ lw_tbl := List.mem_of_getElem? (i := 271) rfl
set_option maxRecDepth 100000 in
theorem wd_248 : (Jvm.Cond.methodLink "ExpenseClubsLaw" (53 : Nat) ({ cls := "ExpenseClubs", name := "post", desc := "()I" } : Jvm.MethodName)) ∈ lw_tbl := List.mem_of_getElem? (i := 272) rfl
set_option maxRecDepth 100000 in
theorem wd_249 : (Jvm.Cond.instanceMethod ({ cls := "ExpenseClubs", name := "post", desc := "()I" } : Jvm.MethodName)) ∈ lw_tbl := List.mem_of_getElem? (i := 273) rfl
set_option maxRecDepth 100000 in
theorem wd_250 : (Jvm.Cond.selects "ExpenseClubs" ({ cls := "ExpenseClubs", name := "post", desc := "()I" } : Jvm.MethodName) ({ cls := "ExpenseClubs", name := "post", desc := "()I" } : Jvm.MethodName)) ∈ lw_tbl := List.mem_of_getElem? (i := 274) rfl
set_option maxRecDepth 100000 in
theorem wd_251 : (Jvm.Cond.code ({ cls := "ExpenseClubs", name := "post", desc := "()I" } : Jvm.MethodName) prog_1_method_9_code (4 : Nat) (Option.some Jvm.ClassFile.FieldType.int)) ∈ lw_tbl := List.mem_of_getElem? (i := 275) rfl
set_option maxRecDepth 100000 in
theorem wd_252 : (Jvm.Cond.methodLink "ExpenseClubs" (102 : Nat) ({ cls := "ExpenseClubs", name := "refusalOfPost", desc := "(LExpenseClubs$Club;)I" } : Jvm.MethodName)) ∈ lw_tbl := List.mem_of_getElem? (i := 276) rfl
set_option maxRecDepth 100000 in
theorem wd_253 : (Jvm.Cond.privateMethod ({ cls := "ExpenseClubs", name := "refusalOfPost", desc := "(LExpenseClubs$Club;)I" } : Jvm.MethodName)) ∈ lw_tbl := List.mem_of_getElem? (i := 277) rfl
set_option maxRecDepth 100000 in
theorem wd_254 : (Jvm.Cond.instanceMethod ({ cls := "ExpenseClubs", name := "refusalOfPost", desc := "(LExpenseClubs$Club;)I" } : Jvm.MethodName)) ∈ lw_tbl := List.mem_of_getElem? (i := 278) rfl
set_option maxRecDepth 100000 in
theorem wd_255 : (Jvm.Cond.code ({ cls := "ExpenseClubs", name := "refusalOfPost", desc := "(LExpenseClubs$Club;)I" } : Jvm.MethodName) prog_1_method_24_code (2 : Nat) (Option.some Jvm.ClassFile.FieldType.int)) ∈ lw_tbl := List.mem_of_getElem? (i := 279) rfl
set_option maxRecDepth 100000 in
theorem wd_256 : (Jvm.Cond.methodLink "ExpenseClubs" (198 : Nat) ({ cls := "ExpenseClubs$Draft", name := "refusalFor", desc := "(LExpenseClubs$Club;)I" } : Jvm.MethodName)) ∈ lw_tbl := List.mem_of_getElem? (i := 280) rfl
set_option maxRecDepth 100000 in
theorem wd_257 : (Jvm.Cond.instanceMethod ({ cls := "ExpenseClubs$Draft", name := "refusalFor", desc := "(LExpenseClubs$Club;)I" } : Jvm.MethodName)) ∈ lw_tbl := List.mem_of_getElem? (i := 281) rfl
set_option maxRecDepth 100000 in
theorem wd_258 : (Jvm.Cond.selects "ExpenseClubs$Draft" ({ cls := "ExpenseClubs$Draft", name := "refusalFor", desc := "(LExpenseClubs$Club;)I" } : Jvm.MethodName) ({ cls := "ExpenseClubs$Draft", name := "refusalFor", desc := "(LExpenseClubs$Club;)I" } : Jvm.MethodName)) ∈ lw_tbl := List.mem_of_getElem? (i := 282) rfl
set_option maxRecDepth 100000 in
theorem wd_259 : (Jvm.Cond.code ({ cls := "ExpenseClubs$Draft", name := "refusalFor", desc := "(LExpenseClubs$Club;)I" } : Jvm.MethodName) prog_4_method_4_code (4 : Nat) (Option.some Jvm.ClassFile.FieldType.int)) ∈ lw_tbl := List.mem_of_getElem? (i := 283) rfl
set_option maxRecDepth 100000 in
theorem wd_260 : (Jvm.Cond.methodLink "ExpenseClubs$Draft" (41 : Nat) ({ cls := "ExpenseClubs$Club", name := "isGone", desc := "(I)Z" } : Jvm.MethodName)) ∈ lw_tbl := List.mem_of_getElem? (i := 284) rfl
set_option maxRecDepth 100000 in
theorem wd_261 : (Jvm.Cond.methodLinkNest "ExpenseClubs$Draft" (47 : Nat) ({ cls := "ExpenseClubs", name := "sumOf", desc := "([J)J" } : Jvm.MethodName) "ExpenseClubs") ∈ lw_tbl := List.mem_of_getElem? (i := 285) rfl
set_option maxRecDepth 100000 in
theorem wd_262 : (Jvm.Cond.static ({ cls := "ExpenseClubs", name := "sumOf", desc := "([J)J" } : Jvm.MethodName)) ∈ lw_tbl := List.mem_of_getElem? (i := 286) rfl
set_option maxRecDepth 100000 in
theorem wd_263 : (Jvm.Cond.code ({ cls := "ExpenseClubs", name := "sumOf", desc := "([J)J" } : Jvm.MethodName) prog_1_method_26_code (4 : Nat) (Option.some Jvm.ClassFile.FieldType.long)) ∈ lw_tbl := List.mem_of_getElem? (i := 287) rfl
set_option maxRecDepth 100000 in
theorem wd_264 : (Jvm.Cond.methodLink "ExpenseClubs$Draft" (51 : Nat) ({ cls := "ExpenseClubs$Draft", name := "dueSum", desc := "(J)J" } : Jvm.MethodName)) ∈ lw_tbl := List.mem_of_getElem? (i := 288) rfl
set_option maxRecDepth 100000 in
theorem wd_265 : (Jvm.Cond.privateMethod ({ cls := "ExpenseClubs$Draft", name := "dueSum", desc := "(J)J" } : Jvm.MethodName)) ∈ lw_tbl := List.mem_of_getElem? (i := 289) rfl
set_option maxRecDepth 100000 in
theorem wd_266 : (Jvm.Cond.instanceMethod ({ cls := "ExpenseClubs$Draft", name := "dueSum", desc := "(J)J" } : Jvm.MethodName)) ∈ lw_tbl := List.mem_of_getElem? (i := 290) rfl
set_option maxRecDepth 100000 in
theorem wd_267 : (Jvm.Cond.code ({ cls := "ExpenseClubs$Draft", name := "dueSum", desc := "(J)J" } : Jvm.MethodName) prog_4_method_5_code (3 : Nat) (Option.some Jvm.ClassFile.FieldType.long)) ∈ lw_tbl := List.mem_of_getElem? (i := 291) rfl
set_option maxRecDepth 100000 in
theorem wd_268 : (Jvm.Cond.constantLong "ExpenseClubs$Draft" (55 : Nat) (10000 : Int64)) ∈ lw_tbl := List.mem_of_getElem? (i := 292) rfl
set_option maxRecDepth 100000 in
theorem wd_269 : (Jvm.Cond.constantLong "ExpenseClubs$Draft" (57 : Nat) (27720 : Int64)) ∈ lw_tbl := List.mem_of_getElem? (i := 293) rfl
set_option maxRecDepth 100000 in
theorem wd_270 : (Jvm.Cond.methodLink "ExpenseClubs" (106 : Nat) ({ cls := "ExpenseClubs$Draft", name := "toBill", desc := "(LExpenseClubs$Club;)LExpenseClubs$Bill;" } : Jvm.MethodName)) ∈ lw_tbl := List.mem_of_getElem? (i := 294) rfl
set_option maxRecDepth 100000 in
theorem wd_271 : (Jvm.Cond.instanceMethod ({ cls := "ExpenseClubs$Draft", name := "toBill", desc := "(LExpenseClubs$Club;)LExpenseClubs$Bill;" } : Jvm.MethodName)) ∈ lw_tbl := List.mem_of_getElem? (i := 295) rfl
set_option maxRecDepth 100000 in
theorem wd_272 : (Jvm.Cond.selects "ExpenseClubs$Draft" ({ cls := "ExpenseClubs$Draft", name := "toBill", desc := "(LExpenseClubs$Club;)LExpenseClubs$Bill;" } : Jvm.MethodName) ({ cls := "ExpenseClubs$Draft", name := "toBill", desc := "(LExpenseClubs$Club;)LExpenseClubs$Bill;" } : Jvm.MethodName)) ∈ lw_tbl := List.mem_of_getElem? (i := 296) rfl
set_option maxRecDepth 100000 in
theorem wd_273 : (Jvm.Cond.code ({ cls := "ExpenseClubs$Draft", name := "toBill", desc := "(LExpenseClubs$Club;)LExpenseClubs$Bill;" } : Jvm.MethodName) prog_4_method_6_code (8 : Nat) (Option.some (Jvm.ClassFile.FieldType.object "ExpenseClubs$Bill"))) ∈ lw_tbl := List.mem_of_getElem? (i := 297) rfl
set_option maxRecDepth 100000 in
theorem wd_274 : (Jvm.Cond.classLink "ExpenseClubs$Draft" (59 : Nat) "ExpenseClubs$Bill") ∈ lw_tbl := List.mem_of_getElem? (i := 298) rfl
set_option maxRecDepth 100000 in
theorem wd_275 : (Jvm.Cond.instantiable "ExpenseClubs$Bill" (6 : Nat)) ∈ lw_tbl := List.mem_of_getElem? (i := 299) rfl
set_option maxRecDepth 100000 in
theorem wd_276 : (Jvm.Cond.constantLong "ExpenseClubs$Draft" (61 : Nat) (500000 : Int64)) ∈ lw_tbl := List.mem_of_getElem? (i := 300) rfl
set_option maxRecDepth 100000 in
theorem wd_277 : (Jvm.Cond.constantLong "ExpenseClubs$Draft" (63 : Nat) (1000000 : Int64)) ∈ lw_tbl := List.mem_of_getElem? (i := 301) rfl
set_option maxRecDepth 100000 in
theorem wd_278 : (Jvm.Cond.methodLink "ExpenseClubs$Draft" (65 : Nat) ({ cls := "ExpenseClubs$Bill", name := "<init>", desc := "(LExpenseClubs$Club;J)V" } : Jvm.MethodName)) ∈ lw_tbl := List.mem_of_getElem? (i := 302) rfl
set_option maxRecDepth 100000 in
theorem wd_279 : (Jvm.Cond.instanceMethod ({ cls := "ExpenseClubs$Bill", name := "<init>", desc := "(LExpenseClubs$Club;J)V" } : Jvm.MethodName)) ∈ lw_tbl := List.mem_of_getElem? (i := 303) rfl
set_option maxRecDepth 100000 in
theorem wd_280 : (Jvm.Cond.code ({ cls := "ExpenseClubs$Bill", name := "<init>", desc := "(LExpenseClubs$Club;J)V" } : Jvm.MethodName) prog_2_method_1_code (4 : Nat) (Option.none : Option Jvm.ClassFile.FieldType)) ∈ lw_tbl := List.mem_of_getElem? (i := 304) rfl
set_option maxRecDepth 100000 in
theorem wd_281 : (Jvm.Cond.methodLink "ExpenseClubs$Bill" (3 : Nat) ({ cls := "java/lang/Object", name := "<init>", desc := "()V" } : Jvm.MethodName)) ∈ lw_tbl := List.mem_of_getElem? (i := 305) rfl
set_option maxRecDepth 100000 in
theorem wd_282 : (Jvm.Cond.fieldLink "ExpenseClubs$Bill" (21 : Nat) "ExpenseClubs$Bill" "owner" "LExpenseClubs$Club;") ∈ lw_tbl := List.mem_of_getElem? (i := 306) rfl
set_option maxRecDepth 100000 in
theorem wd_283 : (Jvm.Cond.fieldLink "ExpenseClubs" (124 : Nat) "ExpenseClubs$Bill" "owner" "LExpenseClubs$Club;") ∈ lw_tbl := List.mem_of_getElem? (i := 307) rfl
set_option maxRecDepth 100000 in
theorem wd_284 : (Jvm.Cond.fieldLink "ExpenseClubs$Bill" (25 : Nat) "ExpenseClubs$Bill" "clubCents" "J") ∈ lw_tbl := List.mem_of_getElem? (i := 308) rfl
set_option maxRecDepth 100000 in
theorem wd_285 : (Jvm.Cond.fieldLink "ExpenseClubs$Draft" (68 : Nat) "ExpenseClubs$Bill" "clubCents" "J") ∈ lw_tbl := List.mem_of_getElem? (i := 309) rfl
set_option maxRecDepth 100000 in
theorem wd_286 : (Jvm.Cond.fieldLink "ExpenseClubs" (138 : Nat) "ExpenseClubs$Bill" "clubCents" "J") ∈ lw_tbl := List.mem_of_getElem? (i := 310) rfl
set_option maxRecDepth 100000 in
theorem wd_287 : (Jvm.Cond.fieldLink "ExpenseClubs$Bill" (9 : Nat) "ExpenseClubs$Bill" "paid" "[J") ∈ lw_tbl := List.mem_of_getElem? (i := 311) rfl
set_option maxRecDepth 100000 in
theorem wd_288 : (Jvm.Cond.fieldLink "ExpenseClubs$Club" (39 : Nat) "ExpenseClubs$Bill" "paid" "[J") ∈ lw_tbl := List.mem_of_getElem? (i := 312) rfl
set_option maxRecDepth 100000 in
theorem wd_289 : (Jvm.Cond.fieldLink "ExpenseClubs$Draft" (72 : Nat) "ExpenseClubs$Bill" "paid" "[J") ∈ lw_tbl := List.mem_of_getElem? (i := 313) rfl
set_option maxRecDepth 100000 in
theorem wd_290 : (Jvm.Cond.fieldLink "ExpenseClubs" (132 : Nat) "ExpenseClubs$Bill" "paid" "[J") ∈ lw_tbl := List.mem_of_getElem? (i := 314) rfl
set_option maxRecDepth 100000 in
theorem wd_291 : (Jvm.Cond.fieldLink "ExpenseClubs$Bill" (15 : Nat) "ExpenseClubs$Bill" "shares" "[J") ∈ lw_tbl := List.mem_of_getElem? (i := 315) rfl
set_option maxRecDepth 100000 in
theorem wd_292 : (Jvm.Cond.fieldLink "ExpenseClubs$Club" (44 : Nat) "ExpenseClubs$Bill" "shares" "[J") ∈ lw_tbl := List.mem_of_getElem? (i := 316) rfl
set_option maxRecDepth 100000 in
theorem wd_293 : (Jvm.Cond.fieldLink "ExpenseClubs$Draft" (82 : Nat) "ExpenseClubs$Bill" "shares" "[J") ∈ lw_tbl := List.mem_of_getElem? (i := 317) rfl
set_option maxRecDepth 100000 in
theorem wd_294 : (Jvm.Cond.fieldLink "ExpenseClubs" (129 : Nat) "ExpenseClubs$Bill" "shares" "[J") ∈ lw_tbl := List.mem_of_getElem? (i := 318) rfl
set_option maxRecDepth 100000 in
theorem wd_295 : (Jvm.Cond.fieldLink "ExpenseClubs$Bill" (18 : Nat) "ExpenseClubs$Bill" "drifts" "[J") ∈ lw_tbl := List.mem_of_getElem? (i := 319) rfl
set_option maxRecDepth 100000 in
theorem wd_296 : (Jvm.Cond.fieldLink "ExpenseClubs$Club" (47 : Nat) "ExpenseClubs$Bill" "drifts" "[J") ∈ lw_tbl := List.mem_of_getElem? (i := 320) rfl
set_option maxRecDepth 100000 in
theorem wd_297 : (Jvm.Cond.fieldLink "ExpenseClubs$Draft" (91 : Nat) "ExpenseClubs$Bill" "drifts" "[J") ∈ lw_tbl := List.mem_of_getElem? (i := 321) rfl
set_option maxRecDepth 100000 in
theorem wd_298 : (Jvm.Cond.fieldLink "ExpenseClubs" (135 : Nat) "ExpenseClubs$Bill" "drifts" "[J") ∈ lw_tbl := List.mem_of_getElem? (i := 322) rfl
set_option maxRecDepth 100000 in
theorem wd_299 : (Jvm.Cond.fieldLink "ExpenseClubs" (121 : Nat) "ExpenseClubs$Bill" "struck" "Z") ∈ lw_tbl := List.mem_of_getElem? (i := 323) rfl
set_option maxRecDepth 100000 in
theorem wd_300 : (Jvm.Cond.laysFinal "ExpenseClubs$Bill" "ExpenseClubs$Bill" "owner" "LExpenseClubs$Club;") ∈ lw_tbl := List.mem_of_getElem? (i := 324) rfl
set_option maxRecDepth 100000 in
theorem wd_301 : (Jvm.Cond.soleField "ExpenseClubs$Bill" "owner") ∈ lw_tbl := List.mem_of_getElem? (i := 325) rfl
set_option maxRecDepth 100000 in
theorem wd_302 : (Jvm.Cond.laysFinal "ExpenseClubs$Bill" "ExpenseClubs$Bill" "clubCents" "J") ∈ lw_tbl := List.mem_of_getElem? (i := 326) rfl
set_option maxRecDepth 100000 in
theorem wd_303 : (Jvm.Cond.soleField "ExpenseClubs$Bill" "clubCents") ∈ lw_tbl := List.mem_of_getElem? (i := 327) rfl
set_option maxRecDepth 100000 in
theorem wd_304 : (Jvm.Cond.laysFinal "ExpenseClubs$Bill" "ExpenseClubs$Bill" "paid" "[J") ∈ lw_tbl := List.mem_of_getElem? (i := 328) rfl
set_option maxRecDepth 100000 in
theorem wd_305 : (Jvm.Cond.soleField "ExpenseClubs$Bill" "paid") ∈ lw_tbl := List.mem_of_getElem? (i := 329) rfl
set_option maxRecDepth 100000 in
theorem wd_306 : (Jvm.Cond.laysFinal "ExpenseClubs$Bill" "ExpenseClubs$Bill" "shares" "[J") ∈ lw_tbl := List.mem_of_getElem? (i := 330) rfl
set_option maxRecDepth 100000 in
theorem wd_307 : (Jvm.Cond.soleField "ExpenseClubs$Bill" "shares") ∈ lw_tbl := List.mem_of_getElem? (i := 331) rfl
set_option maxRecDepth 100000 in
theorem wd_308 : (Jvm.Cond.laysFinal "ExpenseClubs$Bill" "ExpenseClubs$Bill" "drifts" "[J") ∈ lw_tbl := List.mem_of_getElem? (i := 332) rfl
set_option maxRecDepth 100000 in
theorem wd_309 : (Jvm.Cond.soleField "ExpenseClubs$Bill" "drifts") ∈ lw_tbl := List.mem_of_getElem? (i := 333) rfl
set_option maxRecDepth 100000 in
theorem wd_310 : (Jvm.Cond.lays "ExpenseClubs$Bill" "ExpenseClubs$Bill" "struck" "Z") ∈ lw_tbl := List.mem_of_getElem? (i := 334) rfl
set_option maxRecDepth 100000 in
theorem wd_311 : (Jvm.Cond.soleField "ExpenseClubs$Bill" "struck") ∈ lw_tbl := List.mem_of_getElem? (i := 335) rfl
set_option maxRecDepth 100000 in
theorem wd_312 : (Jvm.Cond.superclass "ExpenseClubs$Bill" "java/lang/Object") ∈ lw_tbl := List.mem_of_getElem? (i := 336) rfl
set_option maxRecDepth 100000 in
theorem wd_313 : (Jvm.Cond.methodLinkNest "ExpenseClubs$Draft" (75 : Nat) ({ cls := "ExpenseClubs", name := "cut", desc := "(J[JI[J)I" } : Jvm.MethodName) "ExpenseClubs") ∈ lw_tbl := List.mem_of_getElem? (i := 337) rfl
set_option maxRecDepth 100000 in
theorem wd_314 : (Jvm.Cond.static ({ cls := "ExpenseClubs", name := "cut", desc := "(J[JI[J)I" } : Jvm.MethodName)) ∈ lw_tbl := List.mem_of_getElem? (i := 338) rfl
set_option maxRecDepth 100000 in
theorem wd_315 : (Jvm.Cond.code ({ cls := "ExpenseClubs", name := "cut", desc := "(J[JI[J)I" } : Jvm.MethodName) prog_1_method_28_code (12 : Nat) (Option.some Jvm.ClassFile.FieldType.int)) ∈ lw_tbl := List.mem_of_getElem? (i := 339) rfl
set_option maxRecDepth 100000 in
theorem wd_316 : (Jvm.Cond.methodLink "ExpenseClubs" (203 : Nat) ({ cls := "ExpenseClubs", name := "sumOf", desc := "([J)J" } : Jvm.MethodName)) ∈ lw_tbl := List.mem_of_getElem? (i := 340) rfl
set_option maxRecDepth 100000 in
theorem wd_317 : (Jvm.Cond.methodLink "ExpenseClubs" (207 : Nat) ({ cls := "ExpenseClubs", name := "portion", desc := "(JJJ)J" } : Jvm.MethodName)) ∈ lw_tbl := List.mem_of_getElem? (i := 341) rfl
set_option maxRecDepth 100000 in
theorem wd_318 : (Jvm.Cond.static ({ cls := "ExpenseClubs", name := "portion", desc := "(JJJ)J" } : Jvm.MethodName)) ∈ lw_tbl := List.mem_of_getElem? (i := 342) rfl
set_option maxRecDepth 100000 in
theorem wd_319 : (Jvm.Cond.code ({ cls := "ExpenseClubs", name := "portion", desc := "(JJJ)J" } : Jvm.MethodName) prog_1_method_27_code (15 : Nat) (Option.some Jvm.ClassFile.FieldType.long)) ∈ lw_tbl := List.mem_of_getElem? (i := 343) rfl
set_option maxRecDepth 100000 in
theorem wd_320 : (Jvm.Cond.constantLong "ExpenseClubs" (201 : Nat) (1048575 : Int64)) ∈ lw_tbl := List.mem_of_getElem? (i := 344) rfl
set_option maxRecDepth 100000 in
theorem wd_321 : (Jvm.Cond.constantLong "ExpenseClubs$Draft" (85 : Nat) (1000 : Int64)) ∈ lw_tbl := List.mem_of_getElem? (i := 345) rfl
set_option maxRecDepth 100000 in
theorem wd_322 : (Jvm.Cond.methodLinkNest "ExpenseClubs$Draft" (87 : Nat) ({ cls := "ExpenseClubs", name := "portion", desc := "(JJJ)J" } : Jvm.MethodName) "ExpenseClubs") ∈ lw_tbl := List.mem_of_getElem? (i := 346) rfl
set_option maxRecDepth 100000 in
theorem wd_323 : (Jvm.Cond.methodLink "ExpenseClubs" (110 : Nat) ({ cls := "ExpenseClubs$Club", name := "book", desc := "(LExpenseClubs$Bill;I)V" } : Jvm.MethodName)) ∈ lw_tbl := List.mem_of_getElem? (i := 347) rfl
set_option maxRecDepth 100000 in
theorem wd_324 : (Jvm.Cond.instanceMethod ({ cls := "ExpenseClubs$Club", name := "book", desc := "(LExpenseClubs$Bill;I)V" } : Jvm.MethodName)) ∈ lw_tbl := List.mem_of_getElem? (i := 348) rfl
set_option maxRecDepth 100000 in
theorem wd_325 : (Jvm.Cond.selects "ExpenseClubs$Club" ({ cls := "ExpenseClubs$Club", name := "book", desc := "(LExpenseClubs$Bill;I)V" } : Jvm.MethodName) ({ cls := "ExpenseClubs$Club", name := "book", desc := "(LExpenseClubs$Bill;I)V" } : Jvm.MethodName)) ∈ lw_tbl := List.mem_of_getElem? (i := 349) rfl
set_option maxRecDepth 100000 in
theorem wd_326 : (Jvm.Cond.code ({ cls := "ExpenseClubs$Club", name := "book", desc := "(LExpenseClubs$Bill;I)V" } : Jvm.MethodName) prog_3_method_6_code (4 : Nat) (Option.none : Option Jvm.ClassFile.FieldType)) ∈ lw_tbl := List.mem_of_getElem? (i := 350) rfl
set_option maxRecDepth 100000 in
theorem wd_327 : (Jvm.Cond.methodLink "ExpenseClubsLaw" (57 : Nat) ({ cls := "ExpenseClubs", name := "strike", desc := "(I)Z" } : Jvm.MethodName)) ∈ lw_tbl := List.mem_of_getElem? (i := 351) rfl
set_option maxRecDepth 100000 in
theorem wd_328 : (Jvm.Cond.instanceMethod ({ cls := "ExpenseClubs", name := "strike", desc := "(I)Z" } : Jvm.MethodName)) ∈ lw_tbl := List.mem_of_getElem? (i := 352) rfl
set_option maxRecDepth 100000 in
theorem wd_329 : (Jvm.Cond.selects "ExpenseClubs" ({ cls := "ExpenseClubs", name := "strike", desc := "(I)Z" } : Jvm.MethodName) ({ cls := "ExpenseClubs", name := "strike", desc := "(I)Z" } : Jvm.MethodName)) ∈ lw_tbl := List.mem_of_getElem? (i := 353) rfl
set_option maxRecDepth 100000 in
theorem wd_330 : (Jvm.Cond.code ({ cls := "ExpenseClubs", name := "strike", desc := "(I)Z" } : Jvm.MethodName) prog_1_method_10_code (3 : Nat) (Option.some Jvm.ClassFile.FieldType.boolean)) ∈ lw_tbl := List.mem_of_getElem? (i := 354) rfl
set_option maxRecDepth 100000 in
theorem wd_331 : (Jvm.Cond.methodLink "ExpenseClubs" (117 : Nat) ({ cls := "ExpenseClubs", name := "billAt", desc := "(I)LExpenseClubs$Bill;" } : Jvm.MethodName)) ∈ lw_tbl := List.mem_of_getElem? (i := 355) rfl
set_option maxRecDepth 100000 in
theorem wd_332 : (Jvm.Cond.privateMethod ({ cls := "ExpenseClubs", name := "billAt", desc := "(I)LExpenseClubs$Bill;" } : Jvm.MethodName)) ∈ lw_tbl := List.mem_of_getElem? (i := 356) rfl
set_option maxRecDepth 100000 in
theorem wd_333 : (Jvm.Cond.instanceMethod ({ cls := "ExpenseClubs", name := "billAt", desc := "(I)LExpenseClubs$Bill;" } : Jvm.MethodName)) ∈ lw_tbl := List.mem_of_getElem? (i := 357) rfl
set_option maxRecDepth 100000 in
theorem wd_334 : (Jvm.Cond.code ({ cls := "ExpenseClubs", name := "billAt", desc := "(I)LExpenseClubs$Bill;" } : Jvm.MethodName) prog_1_method_23_code (2 : Nat) (Option.some (Jvm.ClassFile.FieldType.object "ExpenseClubs$Bill"))) ∈ lw_tbl := List.mem_of_getElem? (i := 358) rfl
set_option maxRecDepth 100000 in
theorem wd_335 : (Jvm.Cond.methodLink "ExpenseClubsLaw" (62 : Nat) ({ cls := "ExpenseClubs", name := "about", desc := "(III)J" } : Jvm.MethodName)) ∈ lw_tbl := List.mem_of_getElem? (i := 359) rfl
set_option maxRecDepth 100000 in
theorem wd_336 : (Jvm.Cond.instanceMethod ({ cls := "ExpenseClubs", name := "about", desc := "(III)J" } : Jvm.MethodName)) ∈ lw_tbl := List.mem_of_getElem? (i := 360) rfl
set_option maxRecDepth 100000 in
theorem wd_337 : (Jvm.Cond.selects "ExpenseClubs" ({ cls := "ExpenseClubs", name := "about", desc := "(III)J" } : Jvm.MethodName) ({ cls := "ExpenseClubs", name := "about", desc := "(III)J" } : Jvm.MethodName)) ∈ lw_tbl := List.mem_of_getElem? (i := 361) rfl
set_option maxRecDepth 100000 in
theorem wd_338 : (Jvm.Cond.code ({ cls := "ExpenseClubs", name := "about", desc := "(III)J" } : Jvm.MethodName) prog_1_method_11_code (5 : Nat) (Option.some Jvm.ClassFile.FieldType.long)) ∈ lw_tbl := List.mem_of_getElem? (i := 362) rfl
set_option maxRecDepth 100000 in
theorem wd_339 : (Jvm.Cond.constantLong "ExpenseClubs" (127 : Nat) (-1 : Int64)) ∈ lw_tbl := List.mem_of_getElem? (i := 363) rfl
set_option maxRecDepth 100000 in
theorem wd_340 : (Jvm.Cond.methodLink "ExpenseClubsLaw" (66 : Nat) ({ cls := "ExpenseClubs", name := "total", desc := "(I)J" } : Jvm.MethodName)) ∈ lw_tbl := List.mem_of_getElem? (i := 364) rfl
set_option maxRecDepth 100000 in
theorem wd_341 : (Jvm.Cond.instanceMethod ({ cls := "ExpenseClubs", name := "total", desc := "(I)J" } : Jvm.MethodName)) ∈ lw_tbl := List.mem_of_getElem? (i := 365) rfl
set_option maxRecDepth 100000 in
theorem wd_342 : (Jvm.Cond.selects "ExpenseClubs" ({ cls := "ExpenseClubs", name := "total", desc := "(I)J" } : Jvm.MethodName) ({ cls := "ExpenseClubs", name := "total", desc := "(I)J" } : Jvm.MethodName)) ∈ lw_tbl := List.mem_of_getElem? (i := 366) rfl
set_option maxRecDepth 100000 in
theorem wd_343 : (Jvm.Cond.code ({ cls := "ExpenseClubs", name := "total", desc := "(I)J" } : Jvm.MethodName) prog_1_method_12_code (3 : Nat) (Option.some Jvm.ClassFile.FieldType.long)) ∈ lw_tbl := List.mem_of_getElem? (i := 367) rfl
set_option maxRecDepth 100000 in
theorem wd_344 : (Jvm.Cond.methodLink "ExpenseClubsLaw" (71 : Nat) ({ cls := "ExpenseClubs", name := "balance", desc := "(II)J" } : Jvm.MethodName)) ∈ lw_tbl := List.mem_of_getElem? (i := 368) rfl
set_option maxRecDepth 100000 in
theorem wd_345 : (Jvm.Cond.instanceMethod ({ cls := "ExpenseClubs", name := "balance", desc := "(II)J" } : Jvm.MethodName)) ∈ lw_tbl := List.mem_of_getElem? (i := 369) rfl
set_option maxRecDepth 100000 in
theorem wd_346 : (Jvm.Cond.selects "ExpenseClubs" ({ cls := "ExpenseClubs", name := "balance", desc := "(II)J" } : Jvm.MethodName) ({ cls := "ExpenseClubs", name := "balance", desc := "(II)J" } : Jvm.MethodName)) ∈ lw_tbl := List.mem_of_getElem? (i := 370) rfl
set_option maxRecDepth 100000 in
theorem wd_347 : (Jvm.Cond.code ({ cls := "ExpenseClubs", name := "balance", desc := "(II)J" } : Jvm.MethodName) prog_1_method_13_code (4 : Nat) (Option.some Jvm.ClassFile.FieldType.long)) ∈ lw_tbl := List.mem_of_getElem? (i := 371) rfl
set_option maxRecDepth 100000 in
theorem wd_348 : (Jvm.Cond.methodLink "ExpenseClubs" (142 : Nat) ({ cls := "ExpenseClubs$Club", name := "isMember", desc := "(I)Z" } : Jvm.MethodName)) ∈ lw_tbl := List.mem_of_getElem? (i := 372) rfl
set_option maxRecDepth 100000 in
theorem wd_349 : (Jvm.Cond.methodLink "ExpenseClubsLaw" (76 : Nat) ({ cls := "ExpenseClubs", name := "drift", desc := "(II)J" } : Jvm.MethodName)) ∈ lw_tbl := List.mem_of_getElem? (i := 373) rfl
set_option maxRecDepth 100000 in
theorem wd_350 : (Jvm.Cond.instanceMethod ({ cls := "ExpenseClubs", name := "drift", desc := "(II)J" } : Jvm.MethodName)) ∈ lw_tbl := List.mem_of_getElem? (i := 374) rfl
set_option maxRecDepth 100000 in
theorem wd_351 : (Jvm.Cond.selects "ExpenseClubs" ({ cls := "ExpenseClubs", name := "drift", desc := "(II)J" } : Jvm.MethodName) ({ cls := "ExpenseClubs", name := "drift", desc := "(II)J" } : Jvm.MethodName)) ∈ lw_tbl := List.mem_of_getElem? (i := 375) rfl
set_option maxRecDepth 100000 in
theorem wd_352 : (Jvm.Cond.code ({ cls := "ExpenseClubs", name := "drift", desc := "(II)J" } : Jvm.MethodName) prog_1_method_14_code (4 : Nat) (Option.some Jvm.ClassFile.FieldType.long)) ∈ lw_tbl := List.mem_of_getElem? (i := 376) rfl
set_option maxRecDepth 100000 in
theorem wd_353 : (Jvm.Cond.methodLink "ExpenseClubsLaw" (80 : Nat) ({ cls := "ExpenseClubs", name := "settle", desc := "(I)I" } : Jvm.MethodName)) ∈ lw_tbl := List.mem_of_getElem? (i := 377) rfl
set_option maxRecDepth 100000 in
theorem wd_354 : (Jvm.Cond.instanceMethod ({ cls := "ExpenseClubs", name := "settle", desc := "(I)I" } : Jvm.MethodName)) ∈ lw_tbl := List.mem_of_getElem? (i := 378) rfl
set_option maxRecDepth 100000 in
theorem wd_355 : (Jvm.Cond.selects "ExpenseClubs" ({ cls := "ExpenseClubs", name := "settle", desc := "(I)I" } : Jvm.MethodName) ({ cls := "ExpenseClubs", name := "settle", desc := "(I)I" } : Jvm.MethodName)) ∈ lw_tbl := List.mem_of_getElem? (i := 379) rfl
set_option maxRecDepth 100000 in
theorem wd_356 : (Jvm.Cond.code ({ cls := "ExpenseClubs", name := "settle", desc := "(I)I" } : Jvm.MethodName) prog_1_method_15_code (3 : Nat) (Option.some Jvm.ClassFile.FieldType.int)) ∈ lw_tbl := List.mem_of_getElem? (i := 380) rfl
set_option maxRecDepth 100000 in
theorem wd_357 : (Jvm.Cond.methodLink "ExpenseClubs" (146 : Nat) ({ cls := "ExpenseClubs$Grouping", name := "fill", desc := "(LExpenseClubs$Settlement;[J)V" } : Jvm.MethodName)) ∈ lw_tbl := List.mem_of_getElem? (i := 381) rfl
set_option maxRecDepth 100000 in
theorem wd_358 : (Jvm.Cond.instanceMethod ({ cls := "ExpenseClubs$Grouping", name := "fill", desc := "(LExpenseClubs$Settlement;[J)V" } : Jvm.MethodName)) ∈ lw_tbl := List.mem_of_getElem? (i := 382) rfl
set_option maxRecDepth 100000 in
theorem wd_359 : (Jvm.Cond.selects "ExpenseClubs$Grouping" ({ cls := "ExpenseClubs$Grouping", name := "fill", desc := "(LExpenseClubs$Settlement;[J)V" } : Jvm.MethodName) ({ cls := "ExpenseClubs$Grouping", name := "fill", desc := "(LExpenseClubs$Settlement;[J)V" } : Jvm.MethodName)) ∈ lw_tbl := List.mem_of_getElem? (i := 383) rfl
set_option maxRecDepth 100000 in
theorem wd_360 : (Jvm.Cond.code ({ cls := "ExpenseClubs$Grouping", name := "fill", desc := "(LExpenseClubs$Settlement;[J)V" } : Jvm.MethodName) prog_5_method_2_code (6 : Nat) (Option.none : Option Jvm.ClassFile.FieldType)) ∈ lw_tbl := List.mem_of_getElem? (i := 384) rfl
set_option maxRecDepth 100000 in
theorem wd_361 : (Jvm.Cond.methodLink "ExpenseClubs$Grouping" (22 : Nat) ({ cls := "ExpenseClubs$Grouping", name := "gather", desc := "([J)V" } : Jvm.MethodName)) ∈ lw_tbl := List.mem_of_getElem? (i := 385) rfl
set_option maxRecDepth 100000 in
theorem wd_362 : (Jvm.Cond.privateMethod ({ cls := "ExpenseClubs$Grouping", name := "gather", desc := "([J)V" } : Jvm.MethodName)) ∈ lw_tbl := List.mem_of_getElem? (i := 386) rfl
set_option maxRecDepth 100000 in
theorem wd_363 : (Jvm.Cond.instanceMethod ({ cls := "ExpenseClubs$Grouping", name := "gather", desc := "([J)V" } : Jvm.MethodName)) ∈ lw_tbl := List.mem_of_getElem? (i := 387) rfl
set_option maxRecDepth 100000 in
theorem wd_364 : (Jvm.Cond.code ({ cls := "ExpenseClubs$Grouping", name := "gather", desc := "([J)V" } : Jvm.MethodName) prog_5_method_3_code (3 : Nat) (Option.none : Option Jvm.ClassFile.FieldType)) ∈ lw_tbl := List.mem_of_getElem? (i := 388) rfl
set_option maxRecDepth 100000 in
theorem wd_365 : (Jvm.Cond.methodLink "ExpenseClubs$Grouping" (26 : Nat) ({ cls := "ExpenseClubs$Grouping", name := "countMost", desc := "()V" } : Jvm.MethodName)) ∈ lw_tbl := List.mem_of_getElem? (i := 389) rfl
set_option maxRecDepth 100000 in
theorem wd_366 : (Jvm.Cond.privateMethod ({ cls := "ExpenseClubs$Grouping", name := "countMost", desc := "()V" } : Jvm.MethodName)) ∈ lw_tbl := List.mem_of_getElem? (i := 390) rfl
set_option maxRecDepth 100000 in
theorem wd_367 : (Jvm.Cond.instanceMethod ({ cls := "ExpenseClubs$Grouping", name := "countMost", desc := "()V" } : Jvm.MethodName)) ∈ lw_tbl := List.mem_of_getElem? (i := 391) rfl
set_option maxRecDepth 100000 in
theorem wd_368 : (Jvm.Cond.code ({ cls := "ExpenseClubs$Grouping", name := "countMost", desc := "()V" } : Jvm.MethodName) prog_5_method_4_code (6 : Nat) (Option.none : Option Jvm.ClassFile.FieldType)) ∈ lw_tbl := List.mem_of_getElem? (i := 392) rfl
set_option maxRecDepth 100000 in
theorem wd_369 : (Jvm.Cond.methodLink "ExpenseClubs$Grouping" (46 : Nat) ({ cls := "java/lang/Math", name := "max", desc := "(II)I" } : Jvm.MethodName)) ∈ lw_tbl := List.mem_of_getElem? (i := 393) rfl
set_option maxRecDepth 100000 in
theorem wd_370 : (Jvm.Cond.static ({ cls := "java/lang/Math", name := "max", desc := "(II)I" } : Jvm.MethodName)) ∈ lw_tbl := List.mem_of_getElem? (i := 394) rfl
set_option maxRecDepth 100000 in
theorem wd_371 : (Jvm.Cond.code ({ cls := "java/lang/Math", name := "max", desc := "(II)I" } : Jvm.MethodName) prog_13_method_65_code (2 : Nat) (Option.some Jvm.ClassFile.FieldType.int)) ∈ lw_tbl := List.mem_of_getElem? (i := 395) rfl
set_option maxRecDepth 100000 in
theorem wd_372 : (Jvm.Cond.methodLink "ExpenseClubs$Grouping" (29 : Nat) ({ cls := "ExpenseClubs$Settlement", name := "begin", desc := "()V" } : Jvm.MethodName)) ∈ lw_tbl := List.mem_of_getElem? (i := 396) rfl
set_option maxRecDepth 100000 in
theorem wd_373 : (Jvm.Cond.instanceMethod ({ cls := "ExpenseClubs$Settlement", name := "begin", desc := "()V" } : Jvm.MethodName)) ∈ lw_tbl := List.mem_of_getElem? (i := 397) rfl
set_option maxRecDepth 100000 in
theorem wd_374 : (Jvm.Cond.selects "ExpenseClubs$Settlement" ({ cls := "ExpenseClubs$Settlement", name := "begin", desc := "()V" } : Jvm.MethodName) ({ cls := "ExpenseClubs$Settlement", name := "begin", desc := "()V" } : Jvm.MethodName)) ∈ lw_tbl := List.mem_of_getElem? (i := 398) rfl
set_option maxRecDepth 100000 in
theorem wd_375 : (Jvm.Cond.code ({ cls := "ExpenseClubs$Settlement", name := "begin", desc := "()V" } : Jvm.MethodName) prog_6_method_2_code (2 : Nat) (Option.none : Option Jvm.ClassFile.FieldType)) ∈ lw_tbl := List.mem_of_getElem? (i := 399) rfl
set_option maxRecDepth 100000 in
theorem wd_376 : (Jvm.Cond.methodLink "ExpenseClubs$Grouping" (38 : Nat) ({ cls := "ExpenseClubs$Grouping", name := "firstGroup", desc := "(I)I" } : Jvm.MethodName)) ∈ lw_tbl := List.mem_of_getElem? (i := 400) rfl
set_option maxRecDepth 100000 in
theorem wd_377 : (Jvm.Cond.privateMethod ({ cls := "ExpenseClubs$Grouping", name := "firstGroup", desc := "(I)I" } : Jvm.MethodName)) ∈ lw_tbl := List.mem_of_getElem? (i := 401) rfl
set_option maxRecDepth 100000 in
theorem wd_378 : (Jvm.Cond.instanceMethod ({ cls := "ExpenseClubs$Grouping", name := "firstGroup", desc := "(I)I" } : Jvm.MethodName)) ∈ lw_tbl := List.mem_of_getElem? (i := 402) rfl
set_option maxRecDepth 100000 in
theorem wd_379 : (Jvm.Cond.code ({ cls := "ExpenseClubs$Grouping", name := "firstGroup", desc := "(I)I" } : Jvm.MethodName) prog_5_method_5_code (4 : Nat) (Option.some Jvm.ClassFile.FieldType.int)) ∈ lw_tbl := List.mem_of_getElem? (i := 403) rfl
set_option maxRecDepth 100000 in
theorem wd_380 : (Jvm.Cond.methodLink "ExpenseClubs$Grouping" (52 : Nat) ({ cls := "ExpenseClubs$Grouping", name := "sumOfSet", desc := "(I)J" } : Jvm.MethodName)) ∈ lw_tbl := List.mem_of_getElem? (i := 404) rfl
set_option maxRecDepth 100000 in
theorem wd_381 : (Jvm.Cond.privateMethod ({ cls := "ExpenseClubs$Grouping", name := "sumOfSet", desc := "(I)J" } : Jvm.MethodName)) ∈ lw_tbl := List.mem_of_getElem? (i := 405) rfl
set_option maxRecDepth 100000 in
theorem wd_382 : (Jvm.Cond.instanceMethod ({ cls := "ExpenseClubs$Grouping", name := "sumOfSet", desc := "(I)J" } : Jvm.MethodName)) ∈ lw_tbl := List.mem_of_getElem? (i := 406) rfl
set_option maxRecDepth 100000 in
theorem wd_383 : (Jvm.Cond.code ({ cls := "ExpenseClubs$Grouping", name := "sumOfSet", desc := "(I)J" } : Jvm.MethodName) prog_5_method_6_code (5 : Nat) (Option.some Jvm.ClassFile.FieldType.long)) ∈ lw_tbl := List.mem_of_getElem? (i := 407) rfl
set_option maxRecDepth 100000 in
theorem wd_384 : (Jvm.Cond.methodLink "ExpenseClubs$Grouping" (42 : Nat) ({ cls := "ExpenseClubs$Grouping", name := "addGroup", desc := "(LExpenseClubs$Settlement;I)V" } : Jvm.MethodName)) ∈ lw_tbl := List.mem_of_getElem? (i := 408) rfl
set_option maxRecDepth 100000 in
theorem wd_385 : (Jvm.Cond.privateMethod ({ cls := "ExpenseClubs$Grouping", name := "addGroup", desc := "(LExpenseClubs$Settlement;I)V" } : Jvm.MethodName)) ∈ lw_tbl := List.mem_of_getElem? (i := 409) rfl
set_option maxRecDepth 100000 in
theorem wd_386 : (Jvm.Cond.instanceMethod ({ cls := "ExpenseClubs$Grouping", name := "addGroup", desc := "(LExpenseClubs$Settlement;I)V" } : Jvm.MethodName)) ∈ lw_tbl := List.mem_of_getElem? (i := 410) rfl
set_option maxRecDepth 100000 in
theorem wd_387 : (Jvm.Cond.code ({ cls := "ExpenseClubs$Grouping", name := "addGroup", desc := "(LExpenseClubs$Settlement;I)V" } : Jvm.MethodName) prog_5_method_7_code (7 : Nat) (Option.none : Option Jvm.ClassFile.FieldType)) ∈ lw_tbl := List.mem_of_getElem? (i := 411) rfl
set_option maxRecDepth 100000 in
theorem wd_388 : (Jvm.Cond.methodLink "ExpenseClubs$Grouping" (56 : Nat) ({ cls := "ExpenseClubs$Settlement", name := "addTransfer", desc := "(IIJ)V" } : Jvm.MethodName)) ∈ lw_tbl := List.mem_of_getElem? (i := 412) rfl
set_option maxRecDepth 100000 in
theorem wd_389 : (Jvm.Cond.instanceMethod ({ cls := "ExpenseClubs$Settlement", name := "addTransfer", desc := "(IIJ)V" } : Jvm.MethodName)) ∈ lw_tbl := List.mem_of_getElem? (i := 413) rfl
set_option maxRecDepth 100000 in
theorem wd_390 : (Jvm.Cond.selects "ExpenseClubs$Settlement" ({ cls := "ExpenseClubs$Settlement", name := "addTransfer", desc := "(IIJ)V" } : Jvm.MethodName) ({ cls := "ExpenseClubs$Settlement", name := "addTransfer", desc := "(IIJ)V" } : Jvm.MethodName)) ∈ lw_tbl := List.mem_of_getElem? (i := 414) rfl
set_option maxRecDepth 100000 in
theorem wd_391 : (Jvm.Cond.code ({ cls := "ExpenseClubs$Settlement", name := "addTransfer", desc := "(IIJ)V" } : Jvm.MethodName) prog_6_method_4_code (5 : Nat) (Option.none : Option Jvm.ClassFile.FieldType)) ∈ lw_tbl := List.mem_of_getElem? (i := 415) rfl
set_option maxRecDepth 100000 in
theorem wd_392 : (Jvm.Cond.methodLink "ExpenseClubsLaw" (93 : Nat) ({ cls := "ExpenseClubs", name := "tick", desc := "(II)Z" } : Jvm.MethodName)) ∈ lw_tbl := List.mem_of_getElem? (i := 416) rfl
set_option maxRecDepth 100000 in
theorem wd_393 : (Jvm.Cond.instanceMethod ({ cls := "ExpenseClubs", name := "tick", desc := "(II)Z" } : Jvm.MethodName)) ∈ lw_tbl := List.mem_of_getElem? (i := 417) rfl
set_option maxRecDepth 100000 in
theorem wd_394 : (Jvm.Cond.selects "ExpenseClubs" ({ cls := "ExpenseClubs", name := "tick", desc := "(II)Z" } : Jvm.MethodName) ({ cls := "ExpenseClubs", name := "tick", desc := "(II)Z" } : Jvm.MethodName)) ∈ lw_tbl := List.mem_of_getElem? (i := 418) rfl
set_option maxRecDepth 100000 in
theorem wd_395 : (Jvm.Cond.code ({ cls := "ExpenseClubs", name := "tick", desc := "(II)Z" } : Jvm.MethodName) prog_1_method_17_code (4 : Nat) (Option.some Jvm.ClassFile.FieldType.boolean)) ∈ lw_tbl := List.mem_of_getElem? (i := 419) rfl
set_option maxRecDepth 100000 in
theorem wd_396 : (Jvm.Cond.methodLink "ExpenseClubs" (153 : Nat) ({ cls := "ExpenseClubs$Settlement", name := "hasTransfer", desc := "(I)Z" } : Jvm.MethodName)) ∈ lw_tbl := List.mem_of_getElem? (i := 420) rfl
set_option maxRecDepth 100000 in
theorem wd_397 : (Jvm.Cond.instanceMethod ({ cls := "ExpenseClubs$Settlement", name := "hasTransfer", desc := "(I)Z" } : Jvm.MethodName)) ∈ lw_tbl := List.mem_of_getElem? (i := 421) rfl
set_option maxRecDepth 100000 in
theorem wd_398 : (Jvm.Cond.selects "ExpenseClubs$Settlement" ({ cls := "ExpenseClubs$Settlement", name := "hasTransfer", desc := "(I)Z" } : Jvm.MethodName) ({ cls := "ExpenseClubs$Settlement", name := "hasTransfer", desc := "(I)Z" } : Jvm.MethodName)) ∈ lw_tbl := List.mem_of_getElem? (i := 422) rfl
set_option maxRecDepth 100000 in
theorem wd_399 : (Jvm.Cond.code ({ cls := "ExpenseClubs$Settlement", name := "hasTransfer", desc := "(I)Z" } : Jvm.MethodName) prog_6_method_3_code (2 : Nat) (Option.some Jvm.ClassFile.FieldType.boolean)) ∈ lw_tbl := List.mem_of_getElem? (i := 423) rfl
set_option maxRecDepth 100000 in
theorem wd_400 : (Jvm.Cond.methodLink "ExpenseClubs" (182 : Nat) ({ cls := "ExpenseClubs$Club", name := "makeTransfer", desc := "(I)V" } : Jvm.MethodName)) ∈ lw_tbl := List.mem_of_getElem? (i := 424) rfl
set_option maxRecDepth 100000 in
theorem wd_401 : (Jvm.Cond.instanceMethod ({ cls := "ExpenseClubs$Club", name := "makeTransfer", desc := "(I)V" } : Jvm.MethodName)) ∈ lw_tbl := List.mem_of_getElem? (i := 425) rfl
set_option maxRecDepth 100000 in
theorem wd_402 : (Jvm.Cond.selects "ExpenseClubs$Club" ({ cls := "ExpenseClubs$Club", name := "makeTransfer", desc := "(I)V" } : Jvm.MethodName) ({ cls := "ExpenseClubs$Club", name := "makeTransfer", desc := "(I)V" } : Jvm.MethodName)) ∈ lw_tbl := List.mem_of_getElem? (i := 426) rfl
set_option maxRecDepth 100000 in
theorem wd_403 : (Jvm.Cond.code ({ cls := "ExpenseClubs$Club", name := "makeTransfer", desc := "(I)V" } : Jvm.MethodName) prog_3_method_7_code (2 : Nat) (Option.none : Option Jvm.ClassFile.FieldType)) ∈ lw_tbl := List.mem_of_getElem? (i := 427) rfl
set_option maxRecDepth 100000 in
theorem wd_404 : (Jvm.Cond.methodLink "ExpenseClubsLaw" (97 : Nat) ({ cls := "ExpenseClubs", name := "giveUp", desc := "(I)I" } : Jvm.MethodName)) ∈ lw_tbl := List.mem_of_getElem? (i := 428) rfl
set_option maxRecDepth 100000 in
theorem wd_405 : (Jvm.Cond.instanceMethod ({ cls := "ExpenseClubs", name := "giveUp", desc := "(I)I" } : Jvm.MethodName)) ∈ lw_tbl := List.mem_of_getElem? (i := 429) rfl
set_option maxRecDepth 100000 in
theorem wd_406 : (Jvm.Cond.selects "ExpenseClubs" ({ cls := "ExpenseClubs", name := "giveUp", desc := "(I)I" } : Jvm.MethodName) ({ cls := "ExpenseClubs", name := "giveUp", desc := "(I)I" } : Jvm.MethodName)) ∈ lw_tbl := List.mem_of_getElem? (i := 430) rfl
set_option maxRecDepth 100000 in
theorem wd_407 : (Jvm.Cond.code ({ cls := "ExpenseClubs", name := "giveUp", desc := "(I)I" } : Jvm.MethodName) prog_1_method_18_code (3 : Nat) (Option.some Jvm.ClassFile.FieldType.int)) ∈ lw_tbl := List.mem_of_getElem? (i := 431) rfl
set_option maxRecDepth 100000 in
theorem wd_408 : (Jvm.Cond.methodLink "ExpenseClubsLaw" (101 : Nat) ({ cls := "ExpenseClubs", name := "close", desc := "(I)Z" } : Jvm.MethodName)) ∈ lw_tbl := List.mem_of_getElem? (i := 432) rfl
set_option maxRecDepth 100000 in
theorem wd_409 : (Jvm.Cond.instanceMethod ({ cls := "ExpenseClubs", name := "close", desc := "(I)Z" } : Jvm.MethodName)) ∈ lw_tbl := List.mem_of_getElem? (i := 433) rfl
set_option maxRecDepth 100000 in
theorem wd_410 : (Jvm.Cond.selects "ExpenseClubs" ({ cls := "ExpenseClubs", name := "close", desc := "(I)Z" } : Jvm.MethodName) ({ cls := "ExpenseClubs", name := "close", desc := "(I)Z" } : Jvm.MethodName)) ∈ lw_tbl := List.mem_of_getElem? (i := 434) rfl
set_option maxRecDepth 100000 in
theorem wd_411 : (Jvm.Cond.code ({ cls := "ExpenseClubs", name := "close", desc := "(I)Z" } : Jvm.MethodName) prog_1_method_19_code (3 : Nat) (Option.some Jvm.ClassFile.FieldType.boolean)) ∈ lw_tbl := List.mem_of_getElem? (i := 435) rfl
set_option maxRecDepth 100000 in
theorem wd_412 : (Jvm.Cond.methodLink "ExpenseClubsLaw" (105 : Nat) ({ cls := "ExpenseClubs", name := "count", desc := "(II)I" } : Jvm.MethodName)) ∈ lw_tbl := List.mem_of_getElem? (i := 436) rfl
set_option maxRecDepth 100000 in
theorem wd_413 : (Jvm.Cond.instanceMethod ({ cls := "ExpenseClubs", name := "count", desc := "(II)I" } : Jvm.MethodName)) ∈ lw_tbl := List.mem_of_getElem? (i := 437) rfl
set_option maxRecDepth 100000 in
theorem wd_414 : (Jvm.Cond.selects "ExpenseClubs" ({ cls := "ExpenseClubs", name := "count", desc := "(II)I" } : Jvm.MethodName) ({ cls := "ExpenseClubs", name := "count", desc := "(II)I" } : Jvm.MethodName)) ∈ lw_tbl := List.mem_of_getElem? (i := 438) rfl
set_option maxRecDepth 100000 in
theorem wd_415 : (Jvm.Cond.code ({ cls := "ExpenseClubs", name := "count", desc := "(II)I" } : Jvm.MethodName) prog_1_method_20_code (4 : Nat) (Option.some Jvm.ClassFile.FieldType.int)) ∈ lw_tbl := List.mem_of_getElem? (i := 439) rfl
set_option maxRecDepth 100000 in
theorem wd_416 : (Jvm.Cond.methodLink "ExpenseClubsLaw" (110 : Nat) ({ cls := "ExpenseClubs", name := "groupOf", desc := "(II)I" } : Jvm.MethodName)) ∈ lw_tbl := List.mem_of_getElem? (i := 440) rfl
set_option maxRecDepth 100000 in
theorem wd_417 : (Jvm.Cond.instanceMethod ({ cls := "ExpenseClubs", name := "groupOf", desc := "(II)I" } : Jvm.MethodName)) ∈ lw_tbl := List.mem_of_getElem? (i := 441) rfl
set_option maxRecDepth 100000 in
theorem wd_418 : (Jvm.Cond.selects "ExpenseClubs" ({ cls := "ExpenseClubs", name := "groupOf", desc := "(II)I" } : Jvm.MethodName) ({ cls := "ExpenseClubs", name := "groupOf", desc := "(II)I" } : Jvm.MethodName)) ∈ lw_tbl := List.mem_of_getElem? (i := 442) rfl
set_option maxRecDepth 100000 in
theorem wd_419 : (Jvm.Cond.code ({ cls := "ExpenseClubs", name := "groupOf", desc := "(II)I" } : Jvm.MethodName) prog_1_method_21_code (4 : Nat) (Option.some Jvm.ClassFile.FieldType.int)) ∈ lw_tbl := List.mem_of_getElem? (i := 443) rfl
set_option maxRecDepth 100000 in
theorem wd_420 : (Jvm.Cond.methodLink "ExpenseClubsLaw" (84 : Nat) ({ cls := "ExpenseClubsLaw", name := "transfer", desc := "(LExpenseClubs;III[J)I" } : Jvm.MethodName)) ∈ lw_tbl := List.mem_of_getElem? (i := 444) rfl
set_option maxRecDepth 100000 in
theorem wd_421 : (Jvm.Cond.static ({ cls := "ExpenseClubsLaw", name := "transfer", desc := "(LExpenseClubs;III[J)I" } : Jvm.MethodName)) ∈ lw_tbl := List.mem_of_getElem? (i := 445) rfl
set_option maxRecDepth 100000 in
theorem wd_422 : (Jvm.Cond.codeWith ({ cls := "ExpenseClubsLaw", name := "transfer", desc := "(LExpenseClubs;III[J)I" } : Jvm.MethodName) method_3_code (6 : Nat) (Option.some Jvm.ClassFile.FieldType.int) [((0 : Nat), (11 : Nat), (14 : Nat), (13 : Nat)), ((0 : Nat), (11 : Nat), (18 : Nat), (15 : Nat))]) ∈ lw_tbl := List.mem_of_getElem? (i := 446) rfl
set_option maxRecDepth 100000 in
theorem wd_423 : (Jvm.Cond.classLink "ExpenseClubsLaw" (13 : Nat) "java/lang/IndexOutOfBoundsException") ∈ lw_tbl := List.mem_of_getElem? (i := 447) rfl
set_option maxRecDepth 100000 in
theorem wd_424 : (Jvm.Cond.classLink "ExpenseClubsLaw" (15 : Nat) "java/lang/IllegalArgumentException") ∈ lw_tbl := List.mem_of_getElem? (i := 448) rfl
set_option maxRecDepth 100000 in
theorem wd_425 : (Jvm.Cond.methodLink "ExpenseClubsLaw" (7 : Nat) ({ cls := "ExpenseClubs", name := "transfer", desc := "(III)J" } : Jvm.MethodName)) ∈ lw_tbl := List.mem_of_getElem? (i := 449) rfl
set_option maxRecDepth 100000 in
theorem wd_426 : (Jvm.Cond.instanceMethod ({ cls := "ExpenseClubs", name := "transfer", desc := "(III)J" } : Jvm.MethodName)) ∈ lw_tbl := List.mem_of_getElem? (i := 450) rfl
set_option maxRecDepth 100000 in
theorem wd_427 : (Jvm.Cond.selects "ExpenseClubs" ({ cls := "ExpenseClubs", name := "transfer", desc := "(III)J" } : Jvm.MethodName) ({ cls := "ExpenseClubs", name := "transfer", desc := "(III)J" } : Jvm.MethodName)) ∈ lw_tbl := List.mem_of_getElem? (i := 451) rfl
set_option maxRecDepth 100000 in
theorem wd_428 : (Jvm.Cond.code ({ cls := "ExpenseClubs", name := "transfer", desc := "(III)J" } : Jvm.MethodName) prog_1_method_16_code (5 : Nat) (Option.some Jvm.ClassFile.FieldType.long)) ∈ lw_tbl := List.mem_of_getElem? (i := 452) rfl
set_option maxRecDepth 100000 in
theorem wd_429 : (Jvm.Cond.classLink "ExpenseClubs" (156 : Nat) "java/lang/IndexOutOfBoundsException") ∈ lw_tbl := List.mem_of_getElem? (i := 453) rfl
set_option maxRecDepth 100000 in
theorem wd_430 : (Jvm.Cond.instantiable "java/lang/IndexOutOfBoundsException" (6 : Nat)) ∈ lw_tbl := List.mem_of_getElem? (i := 454) rfl
set_option maxRecDepth 100000 in
theorem wd_431 : (Jvm.Cond.castable "java/lang/IndexOutOfBoundsException" "java/lang/IndexOutOfBoundsException") ∈ lw_tbl := List.mem_of_getElem? (i := 455) rfl
set_option maxRecDepth 100000 in
theorem wd_432 : (Jvm.Cond.declares ({ cls := "java/lang/RuntimeException", name := "<init>", desc := "()V" } : Jvm.MethodName)) ∈ lw_tbl := List.mem_of_getElem? (i := 456) rfl
set_option maxRecDepth 100000 in
theorem wd_433 : (Jvm.Cond.declares ({ cls := "java/lang/RuntimeException", name := "<init>", desc := "(Ljava/lang/String;)V" } : Jvm.MethodName)) ∈ lw_tbl := List.mem_of_getElem? (i := 457) rfl
set_option maxRecDepth 100000 in
theorem wd_434 : (Jvm.Cond.declares ({ cls := "java/lang/Exception", name := "<init>", desc := "()V" } : Jvm.MethodName)) ∈ lw_tbl := List.mem_of_getElem? (i := 458) rfl
set_option maxRecDepth 100000 in
theorem wd_435 : (Jvm.Cond.declares ({ cls := "java/lang/Exception", name := "<init>", desc := "(Ljava/lang/String;)V" } : Jvm.MethodName)) ∈ lw_tbl := List.mem_of_getElem? (i := 459) rfl
set_option maxRecDepth 100000 in
theorem wd_436 : (Jvm.Cond.declares ({ cls := "java/lang/Throwable", name := "<init>", desc := "()V" } : Jvm.MethodName)) ∈ lw_tbl := List.mem_of_getElem? (i := 460) rfl
set_option maxRecDepth 100000 in
theorem wd_437 : (Jvm.Cond.declares ({ cls := "java/lang/Throwable", name := "<init>", desc := "(Ljava/lang/String;)V" } : Jvm.MethodName)) ∈ lw_tbl := List.mem_of_getElem? (i := 461) rfl
set_option maxRecDepth 100000 in
theorem wd_438 : (Jvm.Cond.selects "java/lang/IndexOutOfBoundsException" ({ cls := "java/lang/Throwable", name := "fillInStackTrace", desc := "(I)Ljava/lang/Throwable;" } : Jvm.MethodName) ({ cls := "java/lang/Throwable", name := "fillInStackTrace", desc := "(I)Ljava/lang/Throwable;" } : Jvm.MethodName)) ∈ lw_tbl := List.mem_of_getElem? (i := 462) rfl
set_option maxRecDepth 100000 in
theorem wd_439 : (Jvm.Cond.selects "java/lang/IndexOutOfBoundsException" ({ cls := "java/lang/Throwable", name := "fillInStackTrace", desc := "()Ljava/lang/Throwable;" } : Jvm.MethodName) ({ cls := "java/lang/Throwable", name := "fillInStackTrace", desc := "()Ljava/lang/Throwable;" } : Jvm.MethodName)) ∈ lw_tbl := List.mem_of_getElem? (i := 463) rfl
set_option maxRecDepth 100000 in
theorem wd_440 : (Jvm.Cond.lays "java/lang/IndexOutOfBoundsException" "java/lang/Throwable" "cause" "Ljava/lang/Throwable;") ∈ lw_tbl := List.mem_of_getElem? (i := 464) rfl
set_option maxRecDepth 100000 in
theorem wd_441 : (Jvm.Cond.lays "java/lang/Throwable" "java/lang/Throwable" "cause" "Ljava/lang/Throwable;") ∈ lw_tbl := List.mem_of_getElem? (i := 465) rfl
set_option maxRecDepth 100000 in
theorem wd_442 : (Jvm.Cond.lays "java/lang/IndexOutOfBoundsException" "java/lang/Throwable" "stackTrace" "[Ljava/lang/StackTraceElement;") ∈ lw_tbl := List.mem_of_getElem? (i := 466) rfl
set_option maxRecDepth 100000 in
theorem wd_443 : (Jvm.Cond.lays "java/lang/Throwable" "java/lang/Throwable" "stackTrace" "[Ljava/lang/StackTraceElement;") ∈ lw_tbl := List.mem_of_getElem? (i := 467) rfl
set_option maxRecDepth 100000 in
theorem wd_444 : (Jvm.Cond.lays "java/lang/IndexOutOfBoundsException" "java/lang/Throwable" "suppressedExceptions" "Ljava/util/List;") ∈ lw_tbl := List.mem_of_getElem? (i := 468) rfl
set_option maxRecDepth 100000 in
theorem wd_445 : (Jvm.Cond.lays "java/lang/Throwable" "java/lang/Throwable" "suppressedExceptions" "Ljava/util/List;") ∈ lw_tbl := List.mem_of_getElem? (i := 469) rfl
set_option maxRecDepth 100000 in
theorem wd_446 : (Jvm.Cond.lays "java/lang/IndexOutOfBoundsException" "java/lang/Throwable" "detailMessage" "Ljava/lang/String;") ∈ lw_tbl := List.mem_of_getElem? (i := 470) rfl
set_option maxRecDepth 100000 in
theorem wd_447 : (Jvm.Cond.lays "java/lang/Throwable" "java/lang/Throwable" "detailMessage" "Ljava/lang/String;") ∈ lw_tbl := List.mem_of_getElem? (i := 471) rfl
set_option maxRecDepth 100000 in
theorem wd_448 : (Jvm.Cond.lays "java/lang/IndexOutOfBoundsException" "java/lang/Throwable" "backtrace" "Ljava/lang/Object;") ∈ lw_tbl := List.mem_of_getElem? (i := 472) rfl
set_option maxRecDepth 100000 in
theorem wd_449 : (Jvm.Cond.lays "java/lang/Throwable" "java/lang/Throwable" "backtrace" "Ljava/lang/Object;") ∈ lw_tbl := List.mem_of_getElem? (i := 473) rfl
set_option maxRecDepth 100000 in
theorem wd_450 : (Jvm.Cond.fieldLink "java/lang/Throwable" (198 : Nat) "java/lang/Throwable" "backtrace" "Ljava/lang/Object;") ∈ lw_tbl := List.mem_of_getElem? (i := 474) rfl
set_option maxRecDepth 100000 in
theorem wd_451 : (Jvm.Cond.superclass "java/lang/Throwable" "java/lang/Object") ∈ lw_tbl := List.mem_of_getElem? (i := 475) rfl
set_option maxRecDepth 100000 in
theorem wd_452 : (Jvm.Cond.instanceMethod ({ cls := "java/lang/Throwable", name := "<init>", desc := "()V" } : Jvm.MethodName)) ∈ lw_tbl := List.mem_of_getElem? (i := 476) rfl
set_option maxRecDepth 100000 in
theorem wd_453 : (Jvm.Cond.code ({ cls := "java/lang/Throwable", name := "<init>", desc := "()V" } : Jvm.MethodName) prog_16_method_1_code (1 : Nat) (Option.none : Option Jvm.ClassFile.FieldType)) ∈ lw_tbl := List.mem_of_getElem? (i := 477) rfl
set_option maxRecDepth 100000 in
theorem wd_454 : (Jvm.Cond.methodLink "java/lang/Throwable" (1 : Nat) ({ cls := "java/lang/Object", name := "<init>", desc := "()V" } : Jvm.MethodName)) ∈ lw_tbl := List.mem_of_getElem? (i := 478) rfl
set_option maxRecDepth 100000 in
theorem wd_455 : (Jvm.Cond.fieldLink "java/lang/Throwable" (13 : Nat) "java/lang/Throwable" "UNASSIGNED_STACK" "[Ljava/lang/StackTraceElement;") ∈ lw_tbl := List.mem_of_getElem? (i := 479) rfl
set_option maxRecDepth 100000 in
theorem wd_456 : (Jvm.Cond.laysStatic "java/lang/Throwable" "UNASSIGNED_STACK" "[Ljava/lang/StackTraceElement;") ∈ lw_tbl := List.mem_of_getElem? (i := 480) rfl
set_option maxRecDepth 100000 in
theorem wd_457 : (Jvm.Cond.fieldLink "java/lang/Throwable" (20 : Nat) "java/lang/Throwable" "SUPPRESSED_SENTINEL" "Ljava/util/List;") ∈ lw_tbl := List.mem_of_getElem? (i := 481) rfl
set_option maxRecDepth 100000 in
theorem wd_458 : (Jvm.Cond.laysStatic "java/lang/Throwable" "SUPPRESSED_SENTINEL" "Ljava/util/List;") ∈ lw_tbl := List.mem_of_getElem? (i := 482) rfl
set_option maxRecDepth 100000 in
theorem wd_459 : (Jvm.Cond.methodLink "java/lang/Throwable" (27 : Nat) ({ cls := "java/lang/Throwable", name := "fillInStackTrace", desc := "()Ljava/lang/Throwable;" } : Jvm.MethodName)) ∈ lw_tbl := List.mem_of_getElem? (i := 483) rfl
set_option maxRecDepth 100000 in
theorem wd_460 : (Jvm.Cond.instanceMethod ({ cls := "java/lang/Throwable", name := "fillInStackTrace", desc := "()Ljava/lang/Throwable;" } : Jvm.MethodName)) ∈ lw_tbl := List.mem_of_getElem? (i := 484) rfl
set_option maxRecDepth 100000 in
theorem wd_461 : (Jvm.Cond.sameMethod "java/lang/Throwable" "java/lang/Throwable" "fillInStackTrace" "()Ljava/lang/Throwable;") ∈ lw_tbl := List.mem_of_getElem? (i := 485) rfl
set_option maxRecDepth 100000 in
theorem wd_462 : (Jvm.Cond.selects "java/lang/IllegalArgumentException" ({ cls := "java/lang/Throwable", name := "fillInStackTrace", desc := "()Ljava/lang/Throwable;" } : Jvm.MethodName) ({ cls := "java/lang/Throwable", name := "fillInStackTrace", desc := "()Ljava/lang/Throwable;" } : Jvm.MethodName)) ∈ lw_tbl := List.mem_of_getElem? (i := 486) rfl
set_option maxRecDepth 100000 in
theorem wd_463 : (Jvm.Cond.codeSync ({ cls := "java/lang/Throwable", name := "fillInStackTrace", desc := "()Ljava/lang/Throwable;" } : Jvm.MethodName) prog_16_method_18_code (1 : Nat) (Option.some (Jvm.ClassFile.FieldType.object "java/lang/Throwable"))) ∈ lw_tbl := List.mem_of_getElem? (i := 487) rfl
set_option maxRecDepth 100000 in
theorem wd_464 : (Jvm.Cond.methodLink "java/lang/Throwable" (202 : Nat) ({ cls := "java/lang/Throwable", name := "fillInStackTrace", desc := "(I)Ljava/lang/Throwable;" } : Jvm.MethodName)) ∈ lw_tbl := List.mem_of_getElem? (i := 488) rfl
set_option maxRecDepth 100000 in
theorem wd_465 : (Jvm.Cond.privateMethod ({ cls := "java/lang/Throwable", name := "fillInStackTrace", desc := "(I)Ljava/lang/Throwable;" } : Jvm.MethodName)) ∈ lw_tbl := List.mem_of_getElem? (i := 489) rfl
set_option maxRecDepth 100000 in
theorem wd_466 : (Jvm.Cond.instanceMethod ({ cls := "java/lang/Throwable", name := "fillInStackTrace", desc := "(I)Ljava/lang/Throwable;" } : Jvm.MethodName)) ∈ lw_tbl := List.mem_of_getElem? (i := 490) rfl
set_option maxRecDepth 100000 in
theorem wd_467 : (Jvm.Cond.instantiable "java/lang/Throwable" (6 : Nat)) ∈ lw_tbl := List.mem_of_getElem? (i := 491) rfl
set_option maxRecDepth 100000 in
theorem wd_468 : (Jvm.Cond.native ({ cls := "java/lang/Throwable", name := "fillInStackTrace", desc := "(I)Ljava/lang/Throwable;" } : Jvm.MethodName)) ∈ lw_tbl := List.mem_of_getElem? (i := 492) rfl
set_option maxRecDepth 100000 in
theorem wd_469 : (Jvm.Cond.stringRef "ExpenseClubs" (158 : Nat) "no such club, settlement or transfer") ∈ lw_tbl := List.mem_of_getElem? (i := 493) rfl
set_option maxRecDepth 100000 in
theorem wd_470 : (Jvm.Cond.methodLink "ExpenseClubs" (160 : Nat) ({ cls := "java/lang/IndexOutOfBoundsException", name := "<init>", desc := "(Ljava/lang/String;)V" } : Jvm.MethodName)) ∈ lw_tbl := List.mem_of_getElem? (i := 494) rfl
set_option maxRecDepth 100000 in
theorem wd_471 : (Jvm.Cond.instanceMethod ({ cls := "java/lang/IndexOutOfBoundsException", name := "<init>", desc := "(Ljava/lang/String;)V" } : Jvm.MethodName)) ∈ lw_tbl := List.mem_of_getElem? (i := 495) rfl
set_option maxRecDepth 100000 in
theorem wd_472 : (Jvm.Cond.code ({ cls := "java/lang/IndexOutOfBoundsException", name := "<init>", desc := "(Ljava/lang/String;)V" } : Jvm.MethodName) prog_11_method_2_code (2 : Nat) (Option.none : Option Jvm.ClassFile.FieldType)) ∈ lw_tbl := List.mem_of_getElem? (i := 496) rfl
set_option maxRecDepth 100000 in
theorem wd_473 : (Jvm.Cond.methodLink "java/lang/IndexOutOfBoundsException" (7 : Nat) ({ cls := "java/lang/RuntimeException", name := "<init>", desc := "(Ljava/lang/String;)V" } : Jvm.MethodName)) ∈ lw_tbl := List.mem_of_getElem? (i := 497) rfl
set_option maxRecDepth 100000 in
theorem wd_474 : (Jvm.Cond.instanceMethod ({ cls := "java/lang/RuntimeException", name := "<init>", desc := "(Ljava/lang/String;)V" } : Jvm.MethodName)) ∈ lw_tbl := List.mem_of_getElem? (i := 498) rfl
set_option maxRecDepth 100000 in
theorem wd_475 : (Jvm.Cond.code ({ cls := "java/lang/RuntimeException", name := "<init>", desc := "(Ljava/lang/String;)V" } : Jvm.MethodName) prog_14_method_2_code (2 : Nat) (Option.none : Option Jvm.ClassFile.FieldType)) ∈ lw_tbl := List.mem_of_getElem? (i := 499) rfl
set_option maxRecDepth 100000 in
theorem wd_476 : (Jvm.Cond.methodLink "java/lang/RuntimeException" (7 : Nat) ({ cls := "java/lang/Exception", name := "<init>", desc := "(Ljava/lang/String;)V" } : Jvm.MethodName)) ∈ lw_tbl := List.mem_of_getElem? (i := 500) rfl
set_option maxRecDepth 100000 in
theorem wd_477 : (Jvm.Cond.instanceMethod ({ cls := "java/lang/Exception", name := "<init>", desc := "(Ljava/lang/String;)V" } : Jvm.MethodName)) ∈ lw_tbl := List.mem_of_getElem? (i := 501) rfl
set_option maxRecDepth 100000 in
theorem wd_478 : (Jvm.Cond.code ({ cls := "java/lang/Exception", name := "<init>", desc := "(Ljava/lang/String;)V" } : Jvm.MethodName) prog_9_method_2_code (2 : Nat) (Option.none : Option Jvm.ClassFile.FieldType)) ∈ lw_tbl := List.mem_of_getElem? (i := 502) rfl
set_option maxRecDepth 100000 in
theorem wd_479 : (Jvm.Cond.methodLink "java/lang/Exception" (7 : Nat) ({ cls := "java/lang/Throwable", name := "<init>", desc := "(Ljava/lang/String;)V" } : Jvm.MethodName)) ∈ lw_tbl := List.mem_of_getElem? (i := 503) rfl
set_option maxRecDepth 100000 in
theorem wd_480 : (Jvm.Cond.instanceMethod ({ cls := "java/lang/Throwable", name := "<init>", desc := "(Ljava/lang/String;)V" } : Jvm.MethodName)) ∈ lw_tbl := List.mem_of_getElem? (i := 504) rfl
set_option maxRecDepth 100000 in
theorem wd_481 : (Jvm.Cond.code ({ cls := "java/lang/Throwable", name := "<init>", desc := "(Ljava/lang/String;)V" } : Jvm.MethodName) prog_16_method_2_code (2 : Nat) (Option.none : Option Jvm.ClassFile.FieldType)) ∈ lw_tbl := List.mem_of_getElem? (i := 505) rfl
set_option maxRecDepth 100000 in
theorem wd_482 : (Jvm.Cond.fieldLink "java/lang/Throwable" (198 : Nat) "java/lang/Throwable" "backtrace" "Ljava/lang/Object;") ∈ lw_tbl := List.mem_of_getElem? (i := 506) rfl
set_option maxRecDepth 100000 in
theorem wd_483 : (Jvm.Cond.fieldLink "java/lang/Throwable" (31 : Nat) "java/lang/Throwable" "detailMessage" "Ljava/lang/String;") ∈ lw_tbl := List.mem_of_getElem? (i := 507) rfl
set_option maxRecDepth 100000 in
theorem wd_484 : (Jvm.Cond.fieldLink "java/lang/Throwable" (7 : Nat) "java/lang/Throwable" "cause" "Ljava/lang/Throwable;") ∈ lw_tbl := List.mem_of_getElem? (i := 508) rfl
set_option maxRecDepth 100000 in
theorem wd_485 : (Jvm.Cond.fieldLink "java/lang/Throwable" (17 : Nat) "java/lang/Throwable" "stackTrace" "[Ljava/lang/StackTraceElement;") ∈ lw_tbl := List.mem_of_getElem? (i := 509) rfl
set_option maxRecDepth 100000 in
theorem wd_486 : (Jvm.Cond.fieldLink "java/lang/Throwable" (24 : Nat) "java/lang/Throwable" "suppressedExceptions" "Ljava/util/List;") ∈ lw_tbl := List.mem_of_getElem? (i := 510) rfl
set_option maxRecDepth 100000 in
theorem wd_487 : (Jvm.Cond.soleField "java/lang/Throwable" "backtrace") ∈ lw_tbl := List.mem_of_getElem? (i := 511) rfl
set_option maxRecDepth 100000 in
theorem wd_488 : (Jvm.Cond.soleField "java/lang/Throwable" "detailMessage") ∈ lw_tbl := List.mem_of_getElem? (i := 512) rfl
set_option maxRecDepth 100000 in
theorem wd_489 : (Jvm.Cond.soleField "java/lang/Throwable" "cause") ∈ lw_tbl := List.mem_of_getElem? (i := 513) rfl
set_option maxRecDepth 100000 in
theorem wd_490 : (Jvm.Cond.soleField "java/lang/Throwable" "stackTrace") ∈ lw_tbl := List.mem_of_getElem? (i := 514) rfl
set_option maxRecDepth 100000 in
theorem wd_491 : (Jvm.Cond.lays "java/lang/IndexOutOfBoundsException" "java/lang/Throwable" "depth" "I") ∈ lw_tbl := List.mem_of_getElem? (i := 515) rfl
set_option maxRecDepth 100000 in
theorem wd_492 : (Jvm.Cond.soleField "java/lang/Throwable" "depth") ∈ lw_tbl := List.mem_of_getElem? (i := 516) rfl
set_option maxRecDepth 100000 in
theorem wd_493 : (Jvm.Cond.soleField "java/lang/Throwable" "suppressedExceptions") ∈ lw_tbl := List.mem_of_getElem? (i := 517) rfl
set_option maxRecDepth 100000 in
theorem wd_494 : (Jvm.Cond.superclass "java/lang/IndexOutOfBoundsException" "java/lang/RuntimeException") ∈ lw_tbl := List.mem_of_getElem? (i := 518) rfl
set_option maxRecDepth 100000 in
theorem wd_495 : (Jvm.Cond.arrayClass Jvm.ClassFile.FieldType.byte) ∈ lw_tbl := List.mem_of_getElem? (i := 519) rfl
set_option maxRecDepth 100000 in
theorem wd_496 : (Jvm.Cond.classLink "ExpenseClubs" (177 : Nat) "java/lang/IllegalArgumentException") ∈ lw_tbl := List.mem_of_getElem? (i := 520) rfl
set_option maxRecDepth 100000 in
theorem wd_497 : (Jvm.Cond.instantiable "java/lang/IllegalArgumentException" (6 : Nat)) ∈ lw_tbl := List.mem_of_getElem? (i := 521) rfl
set_option maxRecDepth 100000 in
theorem wd_498 : (Jvm.Cond.castable "java/lang/IllegalArgumentException" "java/lang/IllegalArgumentException") ∈ lw_tbl := List.mem_of_getElem? (i := 522) rfl
set_option maxRecDepth 100000 in
theorem wd_499 : (Jvm.Cond.selects "java/lang/IllegalArgumentException" ({ cls := "java/lang/Throwable", name := "fillInStackTrace", desc := "(I)Ljava/lang/Throwable;" } : Jvm.MethodName) ({ cls := "java/lang/Throwable", name := "fillInStackTrace", desc := "(I)Ljava/lang/Throwable;" } : Jvm.MethodName)) ∈ lw_tbl := List.mem_of_getElem? (i := 523) rfl
set_option maxRecDepth 100000 in
theorem wd_500 : (Jvm.Cond.lays "java/lang/IllegalArgumentException" "java/lang/Throwable" "cause" "Ljava/lang/Throwable;") ∈ lw_tbl := List.mem_of_getElem? (i := 524) rfl
set_option maxRecDepth 100000 in
theorem wd_501 : (Jvm.Cond.lays "java/lang/IllegalArgumentException" "java/lang/Throwable" "stackTrace" "[Ljava/lang/StackTraceElement;") ∈ lw_tbl := List.mem_of_getElem? (i := 525) rfl
set_option maxRecDepth 100000 in
theorem wd_502 : (Jvm.Cond.lays "java/lang/IllegalArgumentException" "java/lang/Throwable" "suppressedExceptions" "Ljava/util/List;") ∈ lw_tbl := List.mem_of_getElem? (i := 526) rfl
set_option maxRecDepth 100000 in
theorem wd_503 : (Jvm.Cond.lays "java/lang/IllegalArgumentException" "java/lang/Throwable" "detailMessage" "Ljava/lang/String;") ∈ lw_tbl := List.mem_of_getElem? (i := 527) rfl
set_option maxRecDepth 100000 in
theorem wd_504 : (Jvm.Cond.lays "java/lang/IllegalArgumentException" "java/lang/Throwable" "backtrace" "Ljava/lang/Object;") ∈ lw_tbl := List.mem_of_getElem? (i := 528) rfl
set_option maxRecDepth 100000 in
theorem wd_505 : (Jvm.Cond.stringRef "ExpenseClubs" (179 : Nat) "what is not 0 .. 3") ∈ lw_tbl := List.mem_of_getElem? (i := 529) rfl
set_option maxRecDepth 100000 in
theorem wd_506 : (Jvm.Cond.methodLink "ExpenseClubs" (181 : Nat) ({ cls := "java/lang/IllegalArgumentException", name := "<init>", desc := "(Ljava/lang/String;)V" } : Jvm.MethodName)) ∈ lw_tbl := List.mem_of_getElem? (i := 530) rfl
set_option maxRecDepth 100000 in
theorem wd_507 : (Jvm.Cond.instanceMethod ({ cls := "java/lang/IllegalArgumentException", name := "<init>", desc := "(Ljava/lang/String;)V" } : Jvm.MethodName)) ∈ lw_tbl := List.mem_of_getElem? (i := 531) rfl
set_option maxRecDepth 100000 in
theorem wd_508 : (Jvm.Cond.code ({ cls := "java/lang/IllegalArgumentException", name := "<init>", desc := "(Ljava/lang/String;)V" } : Jvm.MethodName) prog_10_method_2_code (2 : Nat) (Option.none : Option Jvm.ClassFile.FieldType)) ∈ lw_tbl := List.mem_of_getElem? (i := 532) rfl
set_option maxRecDepth 100000 in
theorem wd_509 : (Jvm.Cond.methodLink "java/lang/IllegalArgumentException" (7 : Nat) ({ cls := "java/lang/RuntimeException", name := "<init>", desc := "(Ljava/lang/String;)V" } : Jvm.MethodName)) ∈ lw_tbl := List.mem_of_getElem? (i := 533) rfl
set_option maxRecDepth 100000 in
theorem wd_510 : (Jvm.Cond.lays "java/lang/IllegalArgumentException" "java/lang/Throwable" "depth" "I") ∈ lw_tbl := List.mem_of_getElem? (i := 534) rfl
set_option maxRecDepth 100000 in
theorem wd_511 : (Jvm.Cond.superclass "java/lang/IllegalArgumentException" "java/lang/RuntimeException") ∈ lw_tbl := List.mem_of_getElem? (i := 535) rfl
set_option maxRecDepth 100000 in
theorem wd_512 : (Jvm.Cond.classLink "ExpenseClubsLaw" (18 : Nat) "ExpenseClubsModel") ∈ lw_tbl := List.mem_of_getElem? (i := 536) rfl
set_option maxRecDepth 100000 in
theorem wd_513 : (Jvm.Cond.instantiable "ExpenseClubsModel" (33 : Nat)) ∈ lw_tbl := List.mem_of_getElem? (i := 537) rfl
set_option maxRecDepth 100000 in
theorem wd_514 : (Jvm.Cond.methodLink "ExpenseClubsLaw" (20 : Nat) ({ cls := "ExpenseClubsModel", name := "<init>", desc := "()V" } : Jvm.MethodName)) ∈ lw_tbl := List.mem_of_getElem? (i := 538) rfl
set_option maxRecDepth 100000 in
theorem wd_515 : (Jvm.Cond.instanceMethod ({ cls := "ExpenseClubsModel", name := "<init>", desc := "()V" } : Jvm.MethodName)) ∈ lw_tbl := List.mem_of_getElem? (i := 539) rfl
set_option maxRecDepth 100000 in
theorem wd_516 : (Jvm.Cond.code ({ cls := "ExpenseClubsModel", name := "<init>", desc := "()V" } : Jvm.MethodName) prog_8_method_1_code (1 : Nat) (Option.none : Option Jvm.ClassFile.FieldType)) ∈ lw_tbl := List.mem_of_getElem? (i := 540) rfl
set_option maxRecDepth 100000 in
theorem wd_517 : (Jvm.Cond.methodLink "ExpenseClubsModel" (1 : Nat) ({ cls := "java/lang/Object", name := "<init>", desc := "()V" } : Jvm.MethodName)) ∈ lw_tbl := List.mem_of_getElem? (i := 541) rfl
set_option maxRecDepth 100000 in
theorem wd_518 : (Jvm.Cond.fieldLink "ExpenseClubsModel" (91 : Nat) "ExpenseClubsModel" "thrown" "I") ∈ lw_tbl := List.mem_of_getElem? (i := 542) rfl
set_option maxRecDepth 100000 in
theorem wd_519 : (Jvm.Cond.fieldLink "ExpenseClubsModel" (94 : Nat) "ExpenseClubsModel" "clubs" "I") ∈ lw_tbl := List.mem_of_getElem? (i := 543) rfl
set_option maxRecDepth 100000 in
theorem wd_520 : (Jvm.Cond.fieldLink "ExpenseClubsModel" (7 : Nat) "ExpenseClubsModel" "members" "[I") ∈ lw_tbl := List.mem_of_getElem? (i := 544) rfl
set_option maxRecDepth 100000 in
theorem wd_521 : (Jvm.Cond.fieldLink "ExpenseClubsModel" (13 : Nat) "ExpenseClubsModel" "marks" "[I") ∈ lw_tbl := List.mem_of_getElem? (i := 545) rfl
set_option maxRecDepth 100000 in
theorem wd_522 : (Jvm.Cond.fieldLink "ExpenseClubsModel" (16 : Nat) "ExpenseClubsModel" "left" "[Z") ∈ lw_tbl := List.mem_of_getElem? (i := 546) rfl
set_option maxRecDepth 100000 in
theorem wd_523 : (Jvm.Cond.fieldLink "ExpenseClubsModel" (20 : Nat) "ExpenseClubsModel" "draft" "I") ∈ lw_tbl := List.mem_of_getElem? (i := 547) rfl
set_option maxRecDepth 100000 in
theorem wd_524 : (Jvm.Cond.fieldLink "ExpenseClubsModel" (117 : Nat) "ExpenseClubsModel" "way" "I") ∈ lw_tbl := List.mem_of_getElem? (i := 548) rfl
set_option maxRecDepth 100000 in
theorem wd_525 : (Jvm.Cond.fieldLink "ExpenseClubsModel" (120 : Nat) "ExpenseClubsModel" "cents" "I") ∈ lw_tbl := List.mem_of_getElem? (i := 549) rfl
set_option maxRecDepth 100000 in
theorem wd_526 : (Jvm.Cond.fieldLink "ExpenseClubsModel" (123 : Nat) "ExpenseClubsModel" "rate" "I") ∈ lw_tbl := List.mem_of_getElem? (i := 550) rfl
set_option maxRecDepth 100000 in
theorem wd_527 : (Jvm.Cond.fieldLink "ExpenseClubsModel" (24 : Nat) "ExpenseClubsModel" "pays" "[I") ∈ lw_tbl := List.mem_of_getElem? (i := 551) rfl
set_option maxRecDepth 100000 in
theorem wd_528 : (Jvm.Cond.fieldLink "ExpenseClubsModel" (27 : Nat) "ExpenseClubsModel" "weights" "[I") ∈ lw_tbl := List.mem_of_getElem? (i := 552) rfl
set_option maxRecDepth 100000 in
theorem wd_529 : (Jvm.Cond.fieldLink "ExpenseClubsModel" (126 : Nat) "ExpenseClubsModel" "lines" "I") ∈ lw_tbl := List.mem_of_getElem? (i := 553) rfl
set_option maxRecDepth 100000 in
theorem wd_530 : (Jvm.Cond.fieldLink "ExpenseClubsModel" (30 : Nat) "ExpenseClubsModel" "lineCents" "[I") ∈ lw_tbl := List.mem_of_getElem? (i := 554) rfl
set_option maxRecDepth 100000 in
theorem wd_531 : (Jvm.Cond.fieldLink "ExpenseClubsModel" (33 : Nat) "ExpenseClubsModel" "lineSets" "[I") ∈ lw_tbl := List.mem_of_getElem? (i := 555) rfl
set_option maxRecDepth 100000 in
theorem wd_532 : (Jvm.Cond.fieldLink "ExpenseClubsModel" (36 : Nat) "ExpenseClubsModel" "heavy" "[J") ∈ lw_tbl := List.mem_of_getElem? (i := 556) rfl
set_option maxRecDepth 100000 in
theorem wd_533 : (Jvm.Cond.fieldLink "ExpenseClubsModel" (138 : Nat) "ExpenseClubsModel" "bills" "I") ∈ lw_tbl := List.mem_of_getElem? (i := 557) rfl
set_option maxRecDepth 100000 in
theorem wd_534 : (Jvm.Cond.fieldLink "ExpenseClubsModel" (40 : Nat) "ExpenseClubsModel" "clubOf" "[I") ∈ lw_tbl := List.mem_of_getElem? (i := 558) rfl
set_option maxRecDepth 100000 in
theorem wd_535 : (Jvm.Cond.fieldLink "ExpenseClubsModel" (43 : Nat) "ExpenseClubsModel" "totals" "[J") ∈ lw_tbl := List.mem_of_getElem? (i := 559) rfl
set_option maxRecDepth 100000 in
theorem wd_536 : (Jvm.Cond.fieldLink "ExpenseClubsModel" (46 : Nat) "ExpenseClubsModel" "struck" "[Z") ∈ lw_tbl := List.mem_of_getElem? (i := 560) rfl
set_option maxRecDepth 100000 in
theorem wd_537 : (Jvm.Cond.fieldLink "ExpenseClubsModel" (49 : Nat) "ExpenseClubsModel" "shares" "[J") ∈ lw_tbl := List.mem_of_getElem? (i := 561) rfl
set_option maxRecDepth 100000 in
theorem wd_538 : (Jvm.Cond.fieldLink "ExpenseClubsModel" (52 : Nat) "ExpenseClubsModel" "paid" "[J") ∈ lw_tbl := List.mem_of_getElem? (i := 562) rfl
set_option maxRecDepth 100000 in
theorem wd_539 : (Jvm.Cond.fieldLink "ExpenseClubsModel" (55 : Nat) "ExpenseClubsModel" "drifts" "[J") ∈ lw_tbl := List.mem_of_getElem? (i := 563) rfl
set_option maxRecDepth 100000 in
theorem wd_540 : (Jvm.Cond.fieldLink "ExpenseClubsModel" (58 : Nat) "ExpenseClubsModel" "sent" "[J") ∈ lw_tbl := List.mem_of_getElem? (i := 564) rfl
set_option maxRecDepth 100000 in
theorem wd_541 : (Jvm.Cond.fieldLink "ExpenseClubsModel" (61 : Nat) "ExpenseClubsModel" "open" "[Z") ∈ lw_tbl := List.mem_of_getElem? (i := 565) rfl
set_option maxRecDepth 100000 in
theorem wd_542 : (Jvm.Cond.fieldLink "ExpenseClubsModel" (64 : Nat) "ExpenseClubsModel" "groups" "[I") ∈ lw_tbl := List.mem_of_getElem? (i := 566) rfl
set_option maxRecDepth 100000 in
theorem wd_543 : (Jvm.Cond.fieldLink "ExpenseClubsModel" (67 : Nat) "ExpenseClubsModel" "group" "[I") ∈ lw_tbl := List.mem_of_getElem? (i := 567) rfl
set_option maxRecDepth 100000 in
theorem wd_544 : (Jvm.Cond.fieldLink "ExpenseClubsModel" (70 : Nat) "ExpenseClubsModel" "many" "[I") ∈ lw_tbl := List.mem_of_getElem? (i := 568) rfl
set_option maxRecDepth 100000 in
theorem wd_545 : (Jvm.Cond.fieldLink "ExpenseClubsModel" (73 : Nat) "ExpenseClubsModel" "sends" "[I") ∈ lw_tbl := List.mem_of_getElem? (i := 569) rfl
set_option maxRecDepth 100000 in
theorem wd_546 : (Jvm.Cond.fieldLink "ExpenseClubsModel" (76 : Nat) "ExpenseClubsModel" "gets" "[I") ∈ lw_tbl := List.mem_of_getElem? (i := 570) rfl
set_option maxRecDepth 100000 in
theorem wd_547 : (Jvm.Cond.fieldLink "ExpenseClubsModel" (79 : Nat) "ExpenseClubsModel" "sums" "[J") ∈ lw_tbl := List.mem_of_getElem? (i := 571) rfl
set_option maxRecDepth 100000 in
theorem wd_548 : (Jvm.Cond.fieldLink "ExpenseClubsModel" (82 : Nat) "ExpenseClubsModel" "ticked" "[Z") ∈ lw_tbl := List.mem_of_getElem? (i := 572) rfl
set_option maxRecDepth 100000 in
theorem wd_549 : (Jvm.Cond.fieldLink "ExpenseClubsModel" (85 : Nat) "ExpenseClubsModel" "weigh" "[J") ∈ lw_tbl := List.mem_of_getElem? (i := 573) rfl
set_option maxRecDepth 100000 in
theorem wd_550 : (Jvm.Cond.fieldLink "ExpenseClubsModel" (88 : Nat) "ExpenseClubsModel" "most" "[I") ∈ lw_tbl := List.mem_of_getElem? (i := 574) rfl
set_option maxRecDepth 100000 in
theorem wd_551 : (Jvm.Cond.lays "ExpenseClubsModel" "ExpenseClubsModel" "thrown" "I") ∈ lw_tbl := List.mem_of_getElem? (i := 575) rfl
set_option maxRecDepth 100000 in
theorem wd_552 : (Jvm.Cond.soleField "ExpenseClubsModel" "thrown") ∈ lw_tbl := List.mem_of_getElem? (i := 576) rfl
set_option maxRecDepth 100000 in
theorem wd_553 : (Jvm.Cond.lays "ExpenseClubsModel" "ExpenseClubsModel" "clubs" "I") ∈ lw_tbl := List.mem_of_getElem? (i := 577) rfl
set_option maxRecDepth 100000 in
theorem wd_554 : (Jvm.Cond.soleField "ExpenseClubsModel" "clubs") ∈ lw_tbl := List.mem_of_getElem? (i := 578) rfl
set_option maxRecDepth 100000 in
theorem wd_555 : (Jvm.Cond.laysFinal "ExpenseClubsModel" "ExpenseClubsModel" "members" "[I") ∈ lw_tbl := List.mem_of_getElem? (i := 579) rfl
set_option maxRecDepth 100000 in
theorem wd_556 : (Jvm.Cond.soleField "ExpenseClubsModel" "members") ∈ lw_tbl := List.mem_of_getElem? (i := 580) rfl
set_option maxRecDepth 100000 in
theorem wd_557 : (Jvm.Cond.laysFinal "ExpenseClubsModel" "ExpenseClubsModel" "marks" "[I") ∈ lw_tbl := List.mem_of_getElem? (i := 581) rfl
set_option maxRecDepth 100000 in
theorem wd_558 : (Jvm.Cond.soleField "ExpenseClubsModel" "marks") ∈ lw_tbl := List.mem_of_getElem? (i := 582) rfl
set_option maxRecDepth 100000 in
theorem wd_559 : (Jvm.Cond.laysFinal "ExpenseClubsModel" "ExpenseClubsModel" "left" "[Z") ∈ lw_tbl := List.mem_of_getElem? (i := 583) rfl
set_option maxRecDepth 100000 in
theorem wd_560 : (Jvm.Cond.soleField "ExpenseClubsModel" "left") ∈ lw_tbl := List.mem_of_getElem? (i := 584) rfl
set_option maxRecDepth 100000 in
theorem wd_561 : (Jvm.Cond.lays "ExpenseClubsModel" "ExpenseClubsModel" "draft" "I") ∈ lw_tbl := List.mem_of_getElem? (i := 585) rfl
set_option maxRecDepth 100000 in
theorem wd_562 : (Jvm.Cond.soleField "ExpenseClubsModel" "draft") ∈ lw_tbl := List.mem_of_getElem? (i := 586) rfl
set_option maxRecDepth 100000 in
theorem wd_563 : (Jvm.Cond.lays "ExpenseClubsModel" "ExpenseClubsModel" "way" "I") ∈ lw_tbl := List.mem_of_getElem? (i := 587) rfl
set_option maxRecDepth 100000 in
theorem wd_564 : (Jvm.Cond.soleField "ExpenseClubsModel" "way") ∈ lw_tbl := List.mem_of_getElem? (i := 588) rfl
set_option maxRecDepth 100000 in
theorem wd_565 : (Jvm.Cond.lays "ExpenseClubsModel" "ExpenseClubsModel" "cents" "I") ∈ lw_tbl := List.mem_of_getElem? (i := 589) rfl
set_option maxRecDepth 100000 in
theorem wd_566 : (Jvm.Cond.soleField "ExpenseClubsModel" "cents") ∈ lw_tbl := List.mem_of_getElem? (i := 590) rfl
set_option maxRecDepth 100000 in
theorem wd_567 : (Jvm.Cond.lays "ExpenseClubsModel" "ExpenseClubsModel" "rate" "I") ∈ lw_tbl := List.mem_of_getElem? (i := 591) rfl
set_option maxRecDepth 100000 in
theorem wd_568 : (Jvm.Cond.soleField "ExpenseClubsModel" "rate") ∈ lw_tbl := List.mem_of_getElem? (i := 592) rfl
set_option maxRecDepth 100000 in
theorem wd_569 : (Jvm.Cond.laysFinal "ExpenseClubsModel" "ExpenseClubsModel" "pays" "[I") ∈ lw_tbl := List.mem_of_getElem? (i := 593) rfl
set_option maxRecDepth 100000 in
theorem wd_570 : (Jvm.Cond.soleField "ExpenseClubsModel" "pays") ∈ lw_tbl := List.mem_of_getElem? (i := 594) rfl
set_option maxRecDepth 100000 in
theorem wd_571 : (Jvm.Cond.laysFinal "ExpenseClubsModel" "ExpenseClubsModel" "weights" "[I") ∈ lw_tbl := List.mem_of_getElem? (i := 595) rfl
set_option maxRecDepth 100000 in
theorem wd_572 : (Jvm.Cond.soleField "ExpenseClubsModel" "weights") ∈ lw_tbl := List.mem_of_getElem? (i := 596) rfl
set_option maxRecDepth 100000 in
theorem wd_573 : (Jvm.Cond.lays "ExpenseClubsModel" "ExpenseClubsModel" "lines" "I") ∈ lw_tbl := List.mem_of_getElem? (i := 597) rfl
set_option maxRecDepth 100000 in
theorem wd_574 : (Jvm.Cond.soleField "ExpenseClubsModel" "lines") ∈ lw_tbl := List.mem_of_getElem? (i := 598) rfl
set_option maxRecDepth 100000 in
theorem wd_575 : (Jvm.Cond.laysFinal "ExpenseClubsModel" "ExpenseClubsModel" "lineCents" "[I") ∈ lw_tbl := List.mem_of_getElem? (i := 599) rfl
set_option maxRecDepth 100000 in
theorem wd_576 : (Jvm.Cond.soleField "ExpenseClubsModel" "lineCents") ∈ lw_tbl := List.mem_of_getElem? (i := 600) rfl
set_option maxRecDepth 100000 in
theorem wd_577 : (Jvm.Cond.laysFinal "ExpenseClubsModel" "ExpenseClubsModel" "lineSets" "[I") ∈ lw_tbl := List.mem_of_getElem? (i := 601) rfl
set_option maxRecDepth 100000 in
theorem wd_578 : (Jvm.Cond.soleField "ExpenseClubsModel" "lineSets") ∈ lw_tbl := List.mem_of_getElem? (i := 602) rfl
set_option maxRecDepth 100000 in
theorem wd_579 : (Jvm.Cond.laysFinal "ExpenseClubsModel" "ExpenseClubsModel" "heavy" "[J") ∈ lw_tbl := List.mem_of_getElem? (i := 603) rfl
set_option maxRecDepth 100000 in
theorem wd_580 : (Jvm.Cond.soleField "ExpenseClubsModel" "heavy") ∈ lw_tbl := List.mem_of_getElem? (i := 604) rfl
set_option maxRecDepth 100000 in
theorem wd_581 : (Jvm.Cond.lays "ExpenseClubsModel" "ExpenseClubsModel" "bills" "I") ∈ lw_tbl := List.mem_of_getElem? (i := 605) rfl
set_option maxRecDepth 100000 in
theorem wd_582 : (Jvm.Cond.soleField "ExpenseClubsModel" "bills") ∈ lw_tbl := List.mem_of_getElem? (i := 606) rfl
set_option maxRecDepth 100000 in
theorem wd_583 : (Jvm.Cond.laysFinal "ExpenseClubsModel" "ExpenseClubsModel" "clubOf" "[I") ∈ lw_tbl := List.mem_of_getElem? (i := 607) rfl
set_option maxRecDepth 100000 in
theorem wd_584 : (Jvm.Cond.soleField "ExpenseClubsModel" "clubOf") ∈ lw_tbl := List.mem_of_getElem? (i := 608) rfl
set_option maxRecDepth 100000 in
theorem wd_585 : (Jvm.Cond.laysFinal "ExpenseClubsModel" "ExpenseClubsModel" "totals" "[J") ∈ lw_tbl := List.mem_of_getElem? (i := 609) rfl
set_option maxRecDepth 100000 in
theorem wd_586 : (Jvm.Cond.soleField "ExpenseClubsModel" "totals") ∈ lw_tbl := List.mem_of_getElem? (i := 610) rfl
set_option maxRecDepth 100000 in
theorem wd_587 : (Jvm.Cond.laysFinal "ExpenseClubsModel" "ExpenseClubsModel" "struck" "[Z") ∈ lw_tbl := List.mem_of_getElem? (i := 611) rfl
set_option maxRecDepth 100000 in
theorem wd_588 : (Jvm.Cond.soleField "ExpenseClubsModel" "struck") ∈ lw_tbl := List.mem_of_getElem? (i := 612) rfl
set_option maxRecDepth 100000 in
theorem wd_589 : (Jvm.Cond.laysFinal "ExpenseClubsModel" "ExpenseClubsModel" "shares" "[J") ∈ lw_tbl := List.mem_of_getElem? (i := 613) rfl
set_option maxRecDepth 100000 in
theorem wd_590 : (Jvm.Cond.soleField "ExpenseClubsModel" "shares") ∈ lw_tbl := List.mem_of_getElem? (i := 614) rfl
set_option maxRecDepth 100000 in
theorem wd_591 : (Jvm.Cond.laysFinal "ExpenseClubsModel" "ExpenseClubsModel" "paid" "[J") ∈ lw_tbl := List.mem_of_getElem? (i := 615) rfl
set_option maxRecDepth 100000 in
theorem wd_592 : (Jvm.Cond.soleField "ExpenseClubsModel" "paid") ∈ lw_tbl := List.mem_of_getElem? (i := 616) rfl
set_option maxRecDepth 100000 in
theorem wd_593 : (Jvm.Cond.laysFinal "ExpenseClubsModel" "ExpenseClubsModel" "drifts" "[J") ∈ lw_tbl := List.mem_of_getElem? (i := 617) rfl
set_option maxRecDepth 100000 in
theorem wd_594 : (Jvm.Cond.soleField "ExpenseClubsModel" "drifts") ∈ lw_tbl := List.mem_of_getElem? (i := 618) rfl
set_option maxRecDepth 100000 in
theorem wd_595 : (Jvm.Cond.laysFinal "ExpenseClubsModel" "ExpenseClubsModel" "sent" "[J") ∈ lw_tbl := List.mem_of_getElem? (i := 619) rfl
set_option maxRecDepth 100000 in
theorem wd_596 : (Jvm.Cond.soleField "ExpenseClubsModel" "sent") ∈ lw_tbl := List.mem_of_getElem? (i := 620) rfl
set_option maxRecDepth 100000 in
theorem wd_597 : (Jvm.Cond.laysFinal "ExpenseClubsModel" "ExpenseClubsModel" "open" "[Z") ∈ lw_tbl := List.mem_of_getElem? (i := 621) rfl
set_option maxRecDepth 100000 in
theorem wd_598 : (Jvm.Cond.soleField "ExpenseClubsModel" "open") ∈ lw_tbl := List.mem_of_getElem? (i := 622) rfl
set_option maxRecDepth 100000 in
theorem wd_599 : (Jvm.Cond.laysFinal "ExpenseClubsModel" "ExpenseClubsModel" "groups" "[I") ∈ lw_tbl := List.mem_of_getElem? (i := 623) rfl
set_option maxRecDepth 100000 in
theorem wd_600 : (Jvm.Cond.soleField "ExpenseClubsModel" "groups") ∈ lw_tbl := List.mem_of_getElem? (i := 624) rfl
set_option maxRecDepth 100000 in
theorem wd_601 : (Jvm.Cond.laysFinal "ExpenseClubsModel" "ExpenseClubsModel" "group" "[I") ∈ lw_tbl := List.mem_of_getElem? (i := 625) rfl
set_option maxRecDepth 100000 in
theorem wd_602 : (Jvm.Cond.soleField "ExpenseClubsModel" "group") ∈ lw_tbl := List.mem_of_getElem? (i := 626) rfl
set_option maxRecDepth 100000 in
theorem wd_603 : (Jvm.Cond.laysFinal "ExpenseClubsModel" "ExpenseClubsModel" "many" "[I") ∈ lw_tbl := List.mem_of_getElem? (i := 627) rfl
set_option maxRecDepth 100000 in
theorem wd_604 : (Jvm.Cond.soleField "ExpenseClubsModel" "many") ∈ lw_tbl := List.mem_of_getElem? (i := 628) rfl
set_option maxRecDepth 100000 in
theorem wd_605 : (Jvm.Cond.laysFinal "ExpenseClubsModel" "ExpenseClubsModel" "sends" "[I") ∈ lw_tbl := List.mem_of_getElem? (i := 629) rfl
set_option maxRecDepth 100000 in
theorem wd_606 : (Jvm.Cond.soleField "ExpenseClubsModel" "sends") ∈ lw_tbl := List.mem_of_getElem? (i := 630) rfl
set_option maxRecDepth 100000 in
theorem wd_607 : (Jvm.Cond.laysFinal "ExpenseClubsModel" "ExpenseClubsModel" "gets" "[I") ∈ lw_tbl := List.mem_of_getElem? (i := 631) rfl
set_option maxRecDepth 100000 in
theorem wd_608 : (Jvm.Cond.soleField "ExpenseClubsModel" "gets") ∈ lw_tbl := List.mem_of_getElem? (i := 632) rfl
set_option maxRecDepth 100000 in
theorem wd_609 : (Jvm.Cond.laysFinal "ExpenseClubsModel" "ExpenseClubsModel" "sums" "[J") ∈ lw_tbl := List.mem_of_getElem? (i := 633) rfl
set_option maxRecDepth 100000 in
theorem wd_610 : (Jvm.Cond.soleField "ExpenseClubsModel" "sums") ∈ lw_tbl := List.mem_of_getElem? (i := 634) rfl
set_option maxRecDepth 100000 in
theorem wd_611 : (Jvm.Cond.laysFinal "ExpenseClubsModel" "ExpenseClubsModel" "ticked" "[Z") ∈ lw_tbl := List.mem_of_getElem? (i := 635) rfl
set_option maxRecDepth 100000 in
theorem wd_612 : (Jvm.Cond.soleField "ExpenseClubsModel" "ticked") ∈ lw_tbl := List.mem_of_getElem? (i := 636) rfl
set_option maxRecDepth 100000 in
theorem wd_613 : (Jvm.Cond.laysFinal "ExpenseClubsModel" "ExpenseClubsModel" "weigh" "[J") ∈ lw_tbl := List.mem_of_getElem? (i := 637) rfl
set_option maxRecDepth 100000 in
theorem wd_614 : (Jvm.Cond.soleField "ExpenseClubsModel" "weigh") ∈ lw_tbl := List.mem_of_getElem? (i := 638) rfl
set_option maxRecDepth 100000 in
theorem wd_615 : (Jvm.Cond.laysFinal "ExpenseClubsModel" "ExpenseClubsModel" "most" "[I") ∈ lw_tbl := List.mem_of_getElem? (i := 639) rfl
set_option maxRecDepth 100000 in
theorem wd_616 : (Jvm.Cond.soleField "ExpenseClubsModel" "most") ∈ lw_tbl := List.mem_of_getElem? (i := 640) rfl
set_option maxRecDepth 100000 in
theorem wd_617 : (Jvm.Cond.superclass "ExpenseClubsModel" "java/lang/Object") ∈ lw_tbl := List.mem_of_getElem? (i := 641) rfl
set_option maxRecDepth 100000 in
theorem wd_618 : (Jvm.Cond.methodLink "ExpenseClubsLaw" (90 : Nat) ({ cls := "ExpenseClubsModel", name := "thrown", desc := "()I" } : Jvm.MethodName)) ∈ lw_tbl := List.mem_of_getElem? (i := 642) rfl
set_option maxRecDepth 100000 in
theorem wd_619 : (Jvm.Cond.instanceMethod ({ cls := "ExpenseClubsModel", name := "thrown", desc := "()I" } : Jvm.MethodName)) ∈ lw_tbl := List.mem_of_getElem? (i := 643) rfl
set_option maxRecDepth 100000 in
theorem wd_620 : (Jvm.Cond.selects "ExpenseClubsModel" ({ cls := "ExpenseClubsModel", name := "thrown", desc := "()I" } : Jvm.MethodName) ({ cls := "ExpenseClubsModel", name := "thrown", desc := "()I" } : Jvm.MethodName)) ∈ lw_tbl := List.mem_of_getElem? (i := 644) rfl
set_option maxRecDepth 100000 in
theorem wd_621 : (Jvm.Cond.code ({ cls := "ExpenseClubsModel", name := "thrown", desc := "()I" } : Jvm.MethodName) prog_8_method_2_code (1 : Nat) (Option.some Jvm.ClassFile.FieldType.int)) ∈ lw_tbl := List.mem_of_getElem? (i := 645) rfl
set_option maxRecDepth 100000 in
theorem wd_622 : (Jvm.Cond.methodLink "ExpenseClubsLaw" (25 : Nat) ({ cls := "ExpenseClubsModel", name := "club", desc := "()I" } : Jvm.MethodName)) ∈ lw_tbl := List.mem_of_getElem? (i := 646) rfl
set_option maxRecDepth 100000 in
theorem wd_623 : (Jvm.Cond.instanceMethod ({ cls := "ExpenseClubsModel", name := "club", desc := "()I" } : Jvm.MethodName)) ∈ lw_tbl := List.mem_of_getElem? (i := 647) rfl
set_option maxRecDepth 100000 in
theorem wd_624 : (Jvm.Cond.selects "ExpenseClubsModel" ({ cls := "ExpenseClubsModel", name := "club", desc := "()I" } : Jvm.MethodName) ({ cls := "ExpenseClubsModel", name := "club", desc := "()I" } : Jvm.MethodName)) ∈ lw_tbl := List.mem_of_getElem? (i := 648) rfl
set_option maxRecDepth 100000 in
theorem wd_625 : (Jvm.Cond.code ({ cls := "ExpenseClubsModel", name := "club", desc := "()I" } : Jvm.MethodName) prog_8_method_6_code (1 : Nat) (Option.some Jvm.ClassFile.FieldType.int)) ∈ lw_tbl := List.mem_of_getElem? (i := 649) rfl
set_option maxRecDepth 100000 in
theorem wd_626 : (Jvm.Cond.methodLink "ExpenseClubsLaw" (30 : Nat) ({ cls := "ExpenseClubsModel", name := "member", desc := "(I)I" } : Jvm.MethodName)) ∈ lw_tbl := List.mem_of_getElem? (i := 650) rfl
set_option maxRecDepth 100000 in
theorem wd_627 : (Jvm.Cond.instanceMethod ({ cls := "ExpenseClubsModel", name := "member", desc := "(I)I" } : Jvm.MethodName)) ∈ lw_tbl := List.mem_of_getElem? (i := 651) rfl
set_option maxRecDepth 100000 in
theorem wd_628 : (Jvm.Cond.selects "ExpenseClubsModel" ({ cls := "ExpenseClubsModel", name := "member", desc := "(I)I" } : Jvm.MethodName) ({ cls := "ExpenseClubsModel", name := "member", desc := "(I)I" } : Jvm.MethodName)) ∈ lw_tbl := List.mem_of_getElem? (i := 652) rfl
set_option maxRecDepth 100000 in
theorem wd_629 : (Jvm.Cond.code ({ cls := "ExpenseClubsModel", name := "member", desc := "(I)I" } : Jvm.MethodName) prog_8_method_7_code (2 : Nat) (Option.some Jvm.ClassFile.FieldType.int)) ∈ lw_tbl := List.mem_of_getElem? (i := 653) rfl
set_option maxRecDepth 100000 in
theorem wd_630 : (Jvm.Cond.methodLink "ExpenseClubsModel" (97 : Nat) ({ cls := "ExpenseClubsModel", name := "isClub", desc := "(I)Z" } : Jvm.MethodName)) ∈ lw_tbl := List.mem_of_getElem? (i := 654) rfl
set_option maxRecDepth 100000 in
theorem wd_631 : (Jvm.Cond.privateMethod ({ cls := "ExpenseClubsModel", name := "isClub", desc := "(I)Z" } : Jvm.MethodName)) ∈ lw_tbl := List.mem_of_getElem? (i := 655) rfl
set_option maxRecDepth 100000 in
theorem wd_632 : (Jvm.Cond.instanceMethod ({ cls := "ExpenseClubsModel", name := "isClub", desc := "(I)Z" } : Jvm.MethodName)) ∈ lw_tbl := List.mem_of_getElem? (i := 656) rfl
set_option maxRecDepth 100000 in
theorem wd_633 : (Jvm.Cond.code ({ cls := "ExpenseClubsModel", name := "isClub", desc := "(I)Z" } : Jvm.MethodName) prog_8_method_3_code (2 : Nat) (Option.some Jvm.ClassFile.FieldType.boolean)) ∈ lw_tbl := List.mem_of_getElem? (i := 657) rfl
set_option maxRecDepth 100000 in
theorem wd_634 : (Jvm.Cond.methodLink "ExpenseClubsLaw" (35 : Nat) ({ cls := "ExpenseClubsModel", name := "leave", desc := "(II)Z" } : Jvm.MethodName)) ∈ lw_tbl := List.mem_of_getElem? (i := 658) rfl
set_option maxRecDepth 100000 in
theorem wd_635 : (Jvm.Cond.instanceMethod ({ cls := "ExpenseClubsModel", name := "leave", desc := "(II)Z" } : Jvm.MethodName)) ∈ lw_tbl := List.mem_of_getElem? (i := 659) rfl
set_option maxRecDepth 100000 in
theorem wd_636 : (Jvm.Cond.selects "ExpenseClubsModel" ({ cls := "ExpenseClubsModel", name := "leave", desc := "(II)Z" } : Jvm.MethodName) ({ cls := "ExpenseClubsModel", name := "leave", desc := "(II)Z" } : Jvm.MethodName)) ∈ lw_tbl := List.mem_of_getElem? (i := 660) rfl
set_option maxRecDepth 100000 in
theorem wd_637 : (Jvm.Cond.code ({ cls := "ExpenseClubsModel", name := "leave", desc := "(II)Z" } : Jvm.MethodName) prog_8_method_8_code (3 : Nat) (Option.some Jvm.ClassFile.FieldType.boolean)) ∈ lw_tbl := List.mem_of_getElem? (i := 661) rfl
set_option maxRecDepth 100000 in
theorem wd_638 : (Jvm.Cond.methodLink "ExpenseClubsModel" (103 : Nat) ({ cls := "ExpenseClubsModel", name := "isMember", desc := "(II)Z" } : Jvm.MethodName)) ∈ lw_tbl := List.mem_of_getElem? (i := 662) rfl
set_option maxRecDepth 100000 in
theorem wd_639 : (Jvm.Cond.privateMethod ({ cls := "ExpenseClubsModel", name := "isMember", desc := "(II)Z" } : Jvm.MethodName)) ∈ lw_tbl := List.mem_of_getElem? (i := 663) rfl
set_option maxRecDepth 100000 in
theorem wd_640 : (Jvm.Cond.instanceMethod ({ cls := "ExpenseClubsModel", name := "isMember", desc := "(II)Z" } : Jvm.MethodName)) ∈ lw_tbl := List.mem_of_getElem? (i := 664) rfl
set_option maxRecDepth 100000 in
theorem wd_641 : (Jvm.Cond.code ({ cls := "ExpenseClubsModel", name := "isMember", desc := "(II)Z" } : Jvm.MethodName) prog_8_method_4_code (3 : Nat) (Option.some Jvm.ClassFile.FieldType.boolean)) ∈ lw_tbl := List.mem_of_getElem? (i := 665) rfl
set_option maxRecDepth 100000 in
theorem wd_642 : (Jvm.Cond.methodLink "ExpenseClubsModel" (107 : Nat) ({ cls := "ExpenseClubsModel", name := "balance", desc := "(II)J" } : Jvm.MethodName)) ∈ lw_tbl := List.mem_of_getElem? (i := 666) rfl
set_option maxRecDepth 100000 in
theorem wd_643 : (Jvm.Cond.instanceMethod ({ cls := "ExpenseClubsModel", name := "balance", desc := "(II)J" } : Jvm.MethodName)) ∈ lw_tbl := List.mem_of_getElem? (i := 667) rfl
set_option maxRecDepth 100000 in
theorem wd_644 : (Jvm.Cond.selects "ExpenseClubsModel" ({ cls := "ExpenseClubsModel", name := "balance", desc := "(II)J" } : Jvm.MethodName) ({ cls := "ExpenseClubsModel", name := "balance", desc := "(II)J" } : Jvm.MethodName)) ∈ lw_tbl := List.mem_of_getElem? (i := 668) rfl
set_option maxRecDepth 100000 in
theorem wd_645 : (Jvm.Cond.code ({ cls := "ExpenseClubsModel", name := "balance", desc := "(II)J" } : Jvm.MethodName) prog_8_method_25_code (6 : Nat) (Option.some Jvm.ClassFile.FieldType.long)) ∈ lw_tbl := List.mem_of_getElem? (i := 669) rfl
set_option maxRecDepth 100000 in
theorem wd_646 : (Jvm.Cond.methodLink "ExpenseClubsLaw" (40 : Nat) ({ cls := "ExpenseClubsModel", name := "bill", desc := "(IIII)Z" } : Jvm.MethodName)) ∈ lw_tbl := List.mem_of_getElem? (i := 670) rfl
set_option maxRecDepth 100000 in
theorem wd_647 : (Jvm.Cond.instanceMethod ({ cls := "ExpenseClubsModel", name := "bill", desc := "(IIII)Z" } : Jvm.MethodName)) ∈ lw_tbl := List.mem_of_getElem? (i := 671) rfl
set_option maxRecDepth 100000 in
theorem wd_648 : (Jvm.Cond.selects "ExpenseClubsModel" ({ cls := "ExpenseClubsModel", name := "bill", desc := "(IIII)Z" } : Jvm.MethodName) ({ cls := "ExpenseClubsModel", name := "bill", desc := "(IIII)Z" } : Jvm.MethodName)) ∈ lw_tbl := List.mem_of_getElem? (i := 672) rfl
set_option maxRecDepth 100000 in
theorem wd_649 : (Jvm.Cond.code ({ cls := "ExpenseClubsModel", name := "bill", desc := "(IIII)Z" } : Jvm.MethodName) prog_8_method_10_code (6 : Nat) (Option.some Jvm.ClassFile.FieldType.boolean)) ∈ lw_tbl := List.mem_of_getElem? (i := 673) rfl
set_option maxRecDepth 100000 in
theorem wd_650 : (Jvm.Cond.methodLink "ExpenseClubsModel" (111 : Nat) ({ cls := "ExpenseClubsModel", name := "within", desc := "(III)Z" } : Jvm.MethodName)) ∈ lw_tbl := List.mem_of_getElem? (i := 674) rfl
set_option maxRecDepth 100000 in
theorem wd_651 : (Jvm.Cond.static ({ cls := "ExpenseClubsModel", name := "within", desc := "(III)Z" } : Jvm.MethodName)) ∈ lw_tbl := List.mem_of_getElem? (i := 675) rfl
set_option maxRecDepth 100000 in
theorem wd_652 : (Jvm.Cond.code ({ cls := "ExpenseClubsModel", name := "within", desc := "(III)Z" } : Jvm.MethodName) prog_8_method_9_code (3 : Nat) (Option.some Jvm.ClassFile.FieldType.boolean)) ∈ lw_tbl := List.mem_of_getElem? (i := 676) rfl
set_option maxRecDepth 100000 in
theorem wd_653 : (Jvm.Cond.constant "ExpenseClubsModel" (115 : Nat) (100000000 : Int32)) ∈ lw_tbl := List.mem_of_getElem? (i := 677) rfl
set_option maxRecDepth 100000 in
theorem wd_654 : (Jvm.Cond.constant "ExpenseClubsModel" (116 : Nat) (1000000000 : Int32)) ∈ lw_tbl := List.mem_of_getElem? (i := 678) rfl
set_option maxRecDepth 100000 in
theorem wd_655 : (Jvm.Cond.methodLink "ExpenseClubsLaw" (44 : Nat) ({ cls := "ExpenseClubsModel", name := "payer", desc := "(II)Z" } : Jvm.MethodName)) ∈ lw_tbl := List.mem_of_getElem? (i := 679) rfl
set_option maxRecDepth 100000 in
theorem wd_656 : (Jvm.Cond.instanceMethod ({ cls := "ExpenseClubsModel", name := "payer", desc := "(II)Z" } : Jvm.MethodName)) ∈ lw_tbl := List.mem_of_getElem? (i := 680) rfl
set_option maxRecDepth 100000 in
theorem wd_657 : (Jvm.Cond.selects "ExpenseClubsModel" ({ cls := "ExpenseClubsModel", name := "payer", desc := "(II)Z" } : Jvm.MethodName) ({ cls := "ExpenseClubsModel", name := "payer", desc := "(II)Z" } : Jvm.MethodName)) ∈ lw_tbl := List.mem_of_getElem? (i := 681) rfl
set_option maxRecDepth 100000 in
theorem wd_658 : (Jvm.Cond.code ({ cls := "ExpenseClubsModel", name := "payer", desc := "(II)Z" } : Jvm.MethodName) prog_8_method_12_code (3 : Nat) (Option.some Jvm.ClassFile.FieldType.boolean)) ∈ lw_tbl := List.mem_of_getElem? (i := 682) rfl
set_option maxRecDepth 100000 in
theorem wd_659 : (Jvm.Cond.methodLink "ExpenseClubsModel" (129 : Nat) ({ cls := "ExpenseClubsModel", name := "stays", desc := "(I)Z" } : Jvm.MethodName)) ∈ lw_tbl := List.mem_of_getElem? (i := 683) rfl
set_option maxRecDepth 100000 in
theorem wd_660 : (Jvm.Cond.privateMethod ({ cls := "ExpenseClubsModel", name := "stays", desc := "(I)Z" } : Jvm.MethodName)) ∈ lw_tbl := List.mem_of_getElem? (i := 684) rfl
set_option maxRecDepth 100000 in
theorem wd_661 : (Jvm.Cond.instanceMethod ({ cls := "ExpenseClubsModel", name := "stays", desc := "(I)Z" } : Jvm.MethodName)) ∈ lw_tbl := List.mem_of_getElem? (i := 685) rfl
set_option maxRecDepth 100000 in
theorem wd_662 : (Jvm.Cond.code ({ cls := "ExpenseClubsModel", name := "stays", desc := "(I)Z" } : Jvm.MethodName) prog_8_method_11_code (2 : Nat) (Option.some Jvm.ClassFile.FieldType.boolean)) ∈ lw_tbl := List.mem_of_getElem? (i := 686) rfl
set_option maxRecDepth 100000 in
theorem wd_663 : (Jvm.Cond.methodLink "ExpenseClubsLaw" (48 : Nat) ({ cls := "ExpenseClubsModel", name := "weight", desc := "(II)Z" } : Jvm.MethodName)) ∈ lw_tbl := List.mem_of_getElem? (i := 687) rfl
set_option maxRecDepth 100000 in
theorem wd_664 : (Jvm.Cond.instanceMethod ({ cls := "ExpenseClubsModel", name := "weight", desc := "(II)Z" } : Jvm.MethodName)) ∈ lw_tbl := List.mem_of_getElem? (i := 688) rfl
set_option maxRecDepth 100000 in
theorem wd_665 : (Jvm.Cond.selects "ExpenseClubsModel" ({ cls := "ExpenseClubsModel", name := "weight", desc := "(II)Z" } : Jvm.MethodName) ({ cls := "ExpenseClubsModel", name := "weight", desc := "(II)Z" } : Jvm.MethodName)) ∈ lw_tbl := List.mem_of_getElem? (i := 689) rfl
set_option maxRecDepth 100000 in
theorem wd_666 : (Jvm.Cond.code ({ cls := "ExpenseClubsModel", name := "weight", desc := "(II)Z" } : Jvm.MethodName) prog_8_method_13_code (4 : Nat) (Option.some Jvm.ClassFile.FieldType.boolean)) ∈ lw_tbl := List.mem_of_getElem? (i := 690) rfl
set_option maxRecDepth 100000 in
theorem wd_667 : (Jvm.Cond.methodLink "ExpenseClubsLaw" (52 : Nat) ({ cls := "ExpenseClubsModel", name := "line", desc := "(II)Z" } : Jvm.MethodName)) ∈ lw_tbl := List.mem_of_getElem? (i := 691) rfl
set_option maxRecDepth 100000 in
theorem wd_668 : (Jvm.Cond.instanceMethod ({ cls := "ExpenseClubsModel", name := "line", desc := "(II)Z" } : Jvm.MethodName)) ∈ lw_tbl := List.mem_of_getElem? (i := 692) rfl
set_option maxRecDepth 100000 in
theorem wd_669 : (Jvm.Cond.selects "ExpenseClubsModel" ({ cls := "ExpenseClubsModel", name := "line", desc := "(II)Z" } : Jvm.MethodName) ({ cls := "ExpenseClubsModel", name := "line", desc := "(II)Z" } : Jvm.MethodName)) ∈ lw_tbl := List.mem_of_getElem? (i := 693) rfl
set_option maxRecDepth 100000 in
theorem wd_670 : (Jvm.Cond.code ({ cls := "ExpenseClubsModel", name := "line", desc := "(II)Z" } : Jvm.MethodName) prog_8_method_14_code (4 : Nat) (Option.some Jvm.ClassFile.FieldType.boolean)) ∈ lw_tbl := List.mem_of_getElem? (i := 694) rfl
set_option maxRecDepth 100000 in
theorem wd_671 : (Jvm.Cond.methodLink "ExpenseClubsLaw" (56 : Nat) ({ cls := "ExpenseClubsModel", name := "post", desc := "()I" } : Jvm.MethodName)) ∈ lw_tbl := List.mem_of_getElem? (i := 695) rfl
set_option maxRecDepth 100000 in
theorem wd_672 : (Jvm.Cond.instanceMethod ({ cls := "ExpenseClubsModel", name := "post", desc := "()I" } : Jvm.MethodName)) ∈ lw_tbl := List.mem_of_getElem? (i := 696) rfl
set_option maxRecDepth 100000 in
theorem wd_673 : (Jvm.Cond.selects "ExpenseClubsModel" ({ cls := "ExpenseClubsModel", name := "post", desc := "()I" } : Jvm.MethodName) ({ cls := "ExpenseClubsModel", name := "post", desc := "()I" } : Jvm.MethodName)) ∈ lw_tbl := List.mem_of_getElem? (i := 697) rfl
set_option maxRecDepth 100000 in
theorem wd_674 : (Jvm.Cond.code ({ cls := "ExpenseClubsModel", name := "post", desc := "()I" } : Jvm.MethodName) prog_8_method_19_code (8 : Nat) (Option.some Jvm.ClassFile.FieldType.int)) ∈ lw_tbl := List.mem_of_getElem? (i := 698) rfl
set_option maxRecDepth 100000 in
theorem wd_675 : (Jvm.Cond.methodLink "ExpenseClubsModel" (149 : Nat) ({ cls := "ExpenseClubsModel", name := "wrong", desc := "()I" } : Jvm.MethodName)) ∈ lw_tbl := List.mem_of_getElem? (i := 699) rfl
set_option maxRecDepth 100000 in
theorem wd_676 : (Jvm.Cond.privateMethod ({ cls := "ExpenseClubsModel", name := "wrong", desc := "()I" } : Jvm.MethodName)) ∈ lw_tbl := List.mem_of_getElem? (i := 700) rfl
set_option maxRecDepth 100000 in
theorem wd_677 : (Jvm.Cond.instanceMethod ({ cls := "ExpenseClubsModel", name := "wrong", desc := "()I" } : Jvm.MethodName)) ∈ lw_tbl := List.mem_of_getElem? (i := 701) rfl
set_option maxRecDepth 100000 in
theorem wd_678 : (Jvm.Cond.code ({ cls := "ExpenseClubsModel", name := "wrong", desc := "()I" } : Jvm.MethodName) prog_8_method_18_code (6 : Nat) (Option.some Jvm.ClassFile.FieldType.int)) ∈ lw_tbl := List.mem_of_getElem? (i := 702) rfl
set_option maxRecDepth 100000 in
theorem wd_679 : (Jvm.Cond.methodLink "ExpenseClubsModel" (141 : Nat) ({ cls := "ExpenseClubsModel", name := "weighs", desc := "()J" } : Jvm.MethodName)) ∈ lw_tbl := List.mem_of_getElem? (i := 703) rfl
set_option maxRecDepth 100000 in
theorem wd_680 : (Jvm.Cond.privateMethod ({ cls := "ExpenseClubsModel", name := "weighs", desc := "()J" } : Jvm.MethodName)) ∈ lw_tbl := List.mem_of_getElem? (i := 704) rfl
set_option maxRecDepth 100000 in
theorem wd_681 : (Jvm.Cond.instanceMethod ({ cls := "ExpenseClubsModel", name := "weighs", desc := "()J" } : Jvm.MethodName)) ∈ lw_tbl := List.mem_of_getElem? (i := 705) rfl
set_option maxRecDepth 100000 in
theorem wd_682 : (Jvm.Cond.code ({ cls := "ExpenseClubsModel", name := "weighs", desc := "()J" } : Jvm.MethodName) prog_8_method_16_code (5 : Nat) (Option.some Jvm.ClassFile.FieldType.long)) ∈ lw_tbl := List.mem_of_getElem? (i := 706) rfl
set_option maxRecDepth 100000 in
theorem wd_683 : (Jvm.Cond.methodLink "ExpenseClubsModel" (132 : Nat) ({ cls := "ExpenseClubsModel", name := "size", desc := "(I)I" } : Jvm.MethodName)) ∈ lw_tbl := List.mem_of_getElem? (i := 707) rfl
set_option maxRecDepth 100000 in
theorem wd_684 : (Jvm.Cond.static ({ cls := "ExpenseClubsModel", name := "size", desc := "(I)I" } : Jvm.MethodName)) ∈ lw_tbl := List.mem_of_getElem? (i := 708) rfl
set_option maxRecDepth 100000 in
theorem wd_685 : (Jvm.Cond.code ({ cls := "ExpenseClubsModel", name := "size", desc := "(I)I" } : Jvm.MethodName) prog_8_method_15_code (3 : Nat) (Option.some Jvm.ClassFile.FieldType.int)) ∈ lw_tbl := List.mem_of_getElem? (i := 709) rfl
set_option maxRecDepth 100000 in
theorem wd_686 : (Jvm.Cond.methodLink "ExpenseClubsModel" (145 : Nat) ({ cls := "ExpenseClubsModel", name := "fits", desc := "(J)Z" } : Jvm.MethodName)) ∈ lw_tbl := List.mem_of_getElem? (i := 710) rfl
set_option maxRecDepth 100000 in
theorem wd_687 : (Jvm.Cond.privateMethod ({ cls := "ExpenseClubsModel", name := "fits", desc := "(J)Z" } : Jvm.MethodName)) ∈ lw_tbl := List.mem_of_getElem? (i := 711) rfl
set_option maxRecDepth 100000 in
theorem wd_688 : (Jvm.Cond.instanceMethod ({ cls := "ExpenseClubsModel", name := "fits", desc := "(J)Z" } : Jvm.MethodName)) ∈ lw_tbl := List.mem_of_getElem? (i := 712) rfl
set_option maxRecDepth 100000 in
theorem wd_689 : (Jvm.Cond.code ({ cls := "ExpenseClubsModel", name := "fits", desc := "(J)Z" } : Jvm.MethodName) prog_8_method_17_code (6 : Nat) (Option.some Jvm.ClassFile.FieldType.boolean)) ∈ lw_tbl := List.mem_of_getElem? (i := 713) rfl
set_option maxRecDepth 100000 in
theorem wd_690 : (Jvm.Cond.constantLong "ExpenseClubsModel" (136 : Nat) (10000 : Int64)) ∈ lw_tbl := List.mem_of_getElem? (i := 714) rfl
set_option maxRecDepth 100000 in
theorem wd_691 : (Jvm.Cond.constantLong "ExpenseClubsModel" (153 : Nat) (500000 : Int64)) ∈ lw_tbl := List.mem_of_getElem? (i := 715) rfl
set_option maxRecDepth 100000 in
theorem wd_692 : (Jvm.Cond.constantLong "ExpenseClubsModel" (155 : Nat) (1000000 : Int64)) ∈ lw_tbl := List.mem_of_getElem? (i := 716) rfl
set_option maxRecDepth 100000 in
theorem wd_693 : (Jvm.Cond.methodLink "ExpenseClubsModel" (157 : Nat) ({ cls := "ExpenseClubsModel", name := "pay", desc := "(IJ)V" } : Jvm.MethodName)) ∈ lw_tbl := List.mem_of_getElem? (i := 717) rfl
set_option maxRecDepth 100000 in
theorem wd_694 : (Jvm.Cond.privateMethod ({ cls := "ExpenseClubsModel", name := "pay", desc := "(IJ)V" } : Jvm.MethodName)) ∈ lw_tbl := List.mem_of_getElem? (i := 718) rfl
set_option maxRecDepth 100000 in
theorem wd_695 : (Jvm.Cond.instanceMethod ({ cls := "ExpenseClubsModel", name := "pay", desc := "(IJ)V" } : Jvm.MethodName)) ∈ lw_tbl := List.mem_of_getElem? (i := 719) rfl
set_option maxRecDepth 100000 in
theorem wd_696 : (Jvm.Cond.code ({ cls := "ExpenseClubsModel", name := "pay", desc := "(IJ)V" } : Jvm.MethodName) prog_8_method_20_code (7 : Nat) (Option.none : Option Jvm.ClassFile.FieldType)) ∈ lw_tbl := List.mem_of_getElem? (i := 720) rfl
set_option maxRecDepth 100000 in
theorem wd_697 : (Jvm.Cond.methodLink "ExpenseClubsModel" (167 : Nat) ({ cls := "ExpenseClubsModel", name := "part", desc := "(JJJ)J" } : Jvm.MethodName)) ∈ lw_tbl := List.mem_of_getElem? (i := 721) rfl
set_option maxRecDepth 100000 in
theorem wd_698 : (Jvm.Cond.static ({ cls := "ExpenseClubsModel", name := "part", desc := "(JJJ)J" } : Jvm.MethodName)) ∈ lw_tbl := List.mem_of_getElem? (i := 722) rfl
set_option maxRecDepth 100000 in
theorem wd_699 : (Jvm.Cond.code ({ cls := "ExpenseClubsModel", name := "part", desc := "(JJJ)J" } : Jvm.MethodName) prog_8_method_5_code (11 : Nat) (Option.some Jvm.ClassFile.FieldType.long)) ∈ lw_tbl := List.mem_of_getElem? (i := 723) rfl
set_option maxRecDepth 100000 in
theorem wd_700 : (Jvm.Cond.constantLong "ExpenseClubsModel" (101 : Nat) (2 : Int64)) ∈ lw_tbl := List.mem_of_getElem? (i := 724) rfl
set_option maxRecDepth 100000 in
theorem wd_701 : (Jvm.Cond.methodLink "ExpenseClubsModel" (161 : Nat) ({ cls := "ExpenseClubsModel", name := "share", desc := "(IJJ)V" } : Jvm.MethodName)) ∈ lw_tbl := List.mem_of_getElem? (i := 725) rfl
set_option maxRecDepth 100000 in
theorem wd_702 : (Jvm.Cond.privateMethod ({ cls := "ExpenseClubsModel", name := "share", desc := "(IJJ)V" } : Jvm.MethodName)) ∈ lw_tbl := List.mem_of_getElem? (i := 726) rfl
set_option maxRecDepth 100000 in
theorem wd_703 : (Jvm.Cond.instanceMethod ({ cls := "ExpenseClubsModel", name := "share", desc := "(IJJ)V" } : Jvm.MethodName)) ∈ lw_tbl := List.mem_of_getElem? (i := 727) rfl
set_option maxRecDepth 100000 in
theorem wd_704 : (Jvm.Cond.code ({ cls := "ExpenseClubsModel", name := "share", desc := "(IJJ)V" } : Jvm.MethodName) prog_8_method_21_code (9 : Nat) (Option.none : Option Jvm.ClassFile.FieldType)) ∈ lw_tbl := List.mem_of_getElem? (i := 728) rfl
set_option maxRecDepth 100000 in
theorem wd_705 : (Jvm.Cond.constantLong "ExpenseClubsModel" (165 : Nat) (1000 : Int64)) ∈ lw_tbl := List.mem_of_getElem? (i := 729) rfl
set_option maxRecDepth 100000 in
theorem wd_706 : (Jvm.Cond.methodLink "ExpenseClubsLaw" (61 : Nat) ({ cls := "ExpenseClubsModel", name := "strike", desc := "(I)Z" } : Jvm.MethodName)) ∈ lw_tbl := List.mem_of_getElem? (i := 730) rfl
set_option maxRecDepth 100000 in
theorem wd_707 : (Jvm.Cond.instanceMethod ({ cls := "ExpenseClubsModel", name := "strike", desc := "(I)Z" } : Jvm.MethodName)) ∈ lw_tbl := List.mem_of_getElem? (i := 731) rfl
set_option maxRecDepth 100000 in
theorem wd_708 : (Jvm.Cond.selects "ExpenseClubsModel" ({ cls := "ExpenseClubsModel", name := "strike", desc := "(I)Z" } : Jvm.MethodName) ({ cls := "ExpenseClubsModel", name := "strike", desc := "(I)Z" } : Jvm.MethodName)) ∈ lw_tbl := List.mem_of_getElem? (i := 732) rfl
set_option maxRecDepth 100000 in
theorem wd_709 : (Jvm.Cond.code ({ cls := "ExpenseClubsModel", name := "strike", desc := "(I)Z" } : Jvm.MethodName) prog_8_method_22_code (2 : Nat) (Option.some Jvm.ClassFile.FieldType.boolean)) ∈ lw_tbl := List.mem_of_getElem? (i := 733) rfl
set_option maxRecDepth 100000 in
theorem wd_710 : (Jvm.Cond.methodLink "ExpenseClubsLaw" (65 : Nat) ({ cls := "ExpenseClubsModel", name := "about", desc := "(III)J" } : Jvm.MethodName)) ∈ lw_tbl := List.mem_of_getElem? (i := 734) rfl
set_option maxRecDepth 100000 in
theorem wd_711 : (Jvm.Cond.instanceMethod ({ cls := "ExpenseClubsModel", name := "about", desc := "(III)J" } : Jvm.MethodName)) ∈ lw_tbl := List.mem_of_getElem? (i := 735) rfl
set_option maxRecDepth 100000 in
theorem wd_712 : (Jvm.Cond.selects "ExpenseClubsModel" ({ cls := "ExpenseClubsModel", name := "about", desc := "(III)J" } : Jvm.MethodName) ({ cls := "ExpenseClubsModel", name := "about", desc := "(III)J" } : Jvm.MethodName)) ∈ lw_tbl := List.mem_of_getElem? (i := 736) rfl
set_option maxRecDepth 100000 in
theorem wd_713 : (Jvm.Cond.code ({ cls := "ExpenseClubsModel", name := "about", desc := "(III)J" } : Jvm.MethodName) prog_8_method_23_code (4 : Nat) (Option.some Jvm.ClassFile.FieldType.long)) ∈ lw_tbl := List.mem_of_getElem? (i := 737) rfl
set_option maxRecDepth 100000 in
theorem wd_714 : (Jvm.Cond.constantLong "ExpenseClubsModel" (171 : Nat) (-1 : Int64)) ∈ lw_tbl := List.mem_of_getElem? (i := 738) rfl
set_option maxRecDepth 100000 in
theorem wd_715 : (Jvm.Cond.methodLink "ExpenseClubsLaw" (70 : Nat) ({ cls := "ExpenseClubsModel", name := "total", desc := "(I)J" } : Jvm.MethodName)) ∈ lw_tbl := List.mem_of_getElem? (i := 739) rfl
set_option maxRecDepth 100000 in
theorem wd_716 : (Jvm.Cond.instanceMethod ({ cls := "ExpenseClubsModel", name := "total", desc := "(I)J" } : Jvm.MethodName)) ∈ lw_tbl := List.mem_of_getElem? (i := 740) rfl
set_option maxRecDepth 100000 in
theorem wd_717 : (Jvm.Cond.selects "ExpenseClubsModel" ({ cls := "ExpenseClubsModel", name := "total", desc := "(I)J" } : Jvm.MethodName) ({ cls := "ExpenseClubsModel", name := "total", desc := "(I)J" } : Jvm.MethodName)) ∈ lw_tbl := List.mem_of_getElem? (i := 741) rfl
set_option maxRecDepth 100000 in
theorem wd_718 : (Jvm.Cond.code ({ cls := "ExpenseClubsModel", name := "total", desc := "(I)J" } : Jvm.MethodName) prog_8_method_24_code (2 : Nat) (Option.some Jvm.ClassFile.FieldType.long)) ∈ lw_tbl := List.mem_of_getElem? (i := 742) rfl
set_option maxRecDepth 100000 in
theorem wd_719 : (Jvm.Cond.methodLink "ExpenseClubsLaw" (75 : Nat) ({ cls := "ExpenseClubsModel", name := "balance", desc := "(II)J" } : Jvm.MethodName)) ∈ lw_tbl := List.mem_of_getElem? (i := 743) rfl
set_option maxRecDepth 100000 in
theorem wd_720 : (Jvm.Cond.methodLink "ExpenseClubsLaw" (79 : Nat) ({ cls := "ExpenseClubsModel", name := "drift", desc := "(II)J" } : Jvm.MethodName)) ∈ lw_tbl := List.mem_of_getElem? (i := 744) rfl
set_option maxRecDepth 100000 in
theorem wd_721 : (Jvm.Cond.instanceMethod ({ cls := "ExpenseClubsModel", name := "drift", desc := "(II)J" } : Jvm.MethodName)) ∈ lw_tbl := List.mem_of_getElem? (i := 745) rfl
set_option maxRecDepth 100000 in
theorem wd_722 : (Jvm.Cond.selects "ExpenseClubsModel" ({ cls := "ExpenseClubsModel", name := "drift", desc := "(II)J" } : Jvm.MethodName) ({ cls := "ExpenseClubsModel", name := "drift", desc := "(II)J" } : Jvm.MethodName)) ∈ lw_tbl := List.mem_of_getElem? (i := 746) rfl
set_option maxRecDepth 100000 in
theorem wd_723 : (Jvm.Cond.code ({ cls := "ExpenseClubsModel", name := "drift", desc := "(II)J" } : Jvm.MethodName) prog_8_method_26_code (6 : Nat) (Option.some Jvm.ClassFile.FieldType.long)) ∈ lw_tbl := List.mem_of_getElem? (i := 747) rfl
set_option maxRecDepth 100000 in
theorem wd_724 : (Jvm.Cond.methodLink "ExpenseClubsLaw" (83 : Nat) ({ cls := "ExpenseClubsModel", name := "settle", desc := "(I)I" } : Jvm.MethodName)) ∈ lw_tbl := List.mem_of_getElem? (i := 748) rfl
set_option maxRecDepth 100000 in
theorem wd_725 : (Jvm.Cond.instanceMethod ({ cls := "ExpenseClubsModel", name := "settle", desc := "(I)I" } : Jvm.MethodName)) ∈ lw_tbl := List.mem_of_getElem? (i := 749) rfl
set_option maxRecDepth 100000 in
theorem wd_726 : (Jvm.Cond.selects "ExpenseClubsModel" ({ cls := "ExpenseClubsModel", name := "settle", desc := "(I)I" } : Jvm.MethodName) ({ cls := "ExpenseClubsModel", name := "settle", desc := "(I)I" } : Jvm.MethodName)) ∈ lw_tbl := List.mem_of_getElem? (i := 750) rfl
set_option maxRecDepth 100000 in
theorem wd_727 : (Jvm.Cond.code ({ cls := "ExpenseClubsModel", name := "settle", desc := "(I)I" } : Jvm.MethodName) prog_8_method_32_code (4 : Nat) (Option.some Jvm.ClassFile.FieldType.int)) ∈ lw_tbl := List.mem_of_getElem? (i := 751) rfl
set_option maxRecDepth 100000 in
theorem wd_728 : (Jvm.Cond.methodLink "ExpenseClubsModel" (176 : Nat) ({ cls := "ExpenseClubsModel", name := "weighAll", desc := "(I)V" } : Jvm.MethodName)) ∈ lw_tbl := List.mem_of_getElem? (i := 752) rfl
set_option maxRecDepth 100000 in
theorem wd_729 : (Jvm.Cond.privateMethod ({ cls := "ExpenseClubsModel", name := "weighAll", desc := "(I)V" } : Jvm.MethodName)) ∈ lw_tbl := List.mem_of_getElem? (i := 753) rfl
set_option maxRecDepth 100000 in
theorem wd_730 : (Jvm.Cond.instanceMethod ({ cls := "ExpenseClubsModel", name := "weighAll", desc := "(I)V" } : Jvm.MethodName)) ∈ lw_tbl := List.mem_of_getElem? (i := 754) rfl
set_option maxRecDepth 100000 in
theorem wd_731 : (Jvm.Cond.code ({ cls := "ExpenseClubsModel", name := "weighAll", desc := "(I)V" } : Jvm.MethodName) prog_8_method_29_code (4 : Nat) (Option.none : Option Jvm.ClassFile.FieldType)) ∈ lw_tbl := List.mem_of_getElem? (i := 755) rfl
set_option maxRecDepth 100000 in
theorem wd_732 : (Jvm.Cond.methodLink "ExpenseClubsModel" (173 : Nat) ({ cls := "ExpenseClubsModel", name := "lowest", desc := "(I)I" } : Jvm.MethodName)) ∈ lw_tbl := List.mem_of_getElem? (i := 756) rfl
set_option maxRecDepth 100000 in
theorem wd_733 : (Jvm.Cond.static ({ cls := "ExpenseClubsModel", name := "lowest", desc := "(I)I" } : Jvm.MethodName)) ∈ lw_tbl := List.mem_of_getElem? (i := 757) rfl
set_option maxRecDepth 100000 in
theorem wd_734 : (Jvm.Cond.code ({ cls := "ExpenseClubsModel", name := "lowest", desc := "(I)I" } : Jvm.MethodName) prog_8_method_27_code (2 : Nat) (Option.some Jvm.ClassFile.FieldType.int)) ∈ lw_tbl := List.mem_of_getElem? (i := 758) rfl
set_option maxRecDepth 100000 in
theorem wd_735 : (Jvm.Cond.methodLink "ExpenseClubsModel" (180 : Nat) ({ cls := "ExpenseClubsModel", name := "divides", desc := "()V" } : Jvm.MethodName)) ∈ lw_tbl := List.mem_of_getElem? (i := 759) rfl
set_option maxRecDepth 100000 in
theorem wd_736 : (Jvm.Cond.privateMethod ({ cls := "ExpenseClubsModel", name := "divides", desc := "()V" } : Jvm.MethodName)) ∈ lw_tbl := List.mem_of_getElem? (i := 760) rfl
set_option maxRecDepth 100000 in
theorem wd_737 : (Jvm.Cond.instanceMethod ({ cls := "ExpenseClubsModel", name := "divides", desc := "()V" } : Jvm.MethodName)) ∈ lw_tbl := List.mem_of_getElem? (i := 761) rfl
set_option maxRecDepth 100000 in
theorem wd_738 : (Jvm.Cond.code ({ cls := "ExpenseClubsModel", name := "divides", desc := "()V" } : Jvm.MethodName) prog_8_method_28_code (8 : Nat) (Option.none : Option Jvm.ClassFile.FieldType)) ∈ lw_tbl := List.mem_of_getElem? (i := 762) rfl
set_option maxRecDepth 100000 in
theorem wd_739 : (Jvm.Cond.methodLink "ExpenseClubsModel" (183 : Nat) ({ cls := "ExpenseClubsModel", name := "least", desc := "(I)I" } : Jvm.MethodName)) ∈ lw_tbl := List.mem_of_getElem? (i := 763) rfl
set_option maxRecDepth 100000 in
theorem wd_740 : (Jvm.Cond.privateMethod ({ cls := "ExpenseClubsModel", name := "least", desc := "(I)I" } : Jvm.MethodName)) ∈ lw_tbl := List.mem_of_getElem? (i := 764) rfl
set_option maxRecDepth 100000 in
theorem wd_741 : (Jvm.Cond.instanceMethod ({ cls := "ExpenseClubsModel", name := "least", desc := "(I)I" } : Jvm.MethodName)) ∈ lw_tbl := List.mem_of_getElem? (i := 765) rfl
set_option maxRecDepth 100000 in
theorem wd_742 : (Jvm.Cond.code ({ cls := "ExpenseClubsModel", name := "least", desc := "(I)I" } : Jvm.MethodName) prog_8_method_30_code (4 : Nat) (Option.some Jvm.ClassFile.FieldType.int)) ∈ lw_tbl := List.mem_of_getElem? (i := 766) rfl
set_option maxRecDepth 100000 in
theorem wd_743 : (Jvm.Cond.methodLink "ExpenseClubsModel" (186 : Nat) ({ cls := "ExpenseClubsModel", name := "moves", desc := "(II)V" } : Jvm.MethodName)) ∈ lw_tbl := List.mem_of_getElem? (i := 767) rfl
set_option maxRecDepth 100000 in
theorem wd_744 : (Jvm.Cond.privateMethod ({ cls := "ExpenseClubsModel", name := "moves", desc := "(II)V" } : Jvm.MethodName)) ∈ lw_tbl := List.mem_of_getElem? (i := 768) rfl
set_option maxRecDepth 100000 in
theorem wd_745 : (Jvm.Cond.instanceMethod ({ cls := "ExpenseClubsModel", name := "moves", desc := "(II)V" } : Jvm.MethodName)) ∈ lw_tbl := List.mem_of_getElem? (i := 769) rfl
set_option maxRecDepth 100000 in
theorem wd_746 : (Jvm.Cond.code ({ cls := "ExpenseClubsModel", name := "moves", desc := "(II)V" } : Jvm.MethodName) prog_8_method_31_code (8 : Nat) (Option.none : Option Jvm.ClassFile.FieldType)) ∈ lw_tbl := List.mem_of_getElem? (i := 770) rfl
set_option maxRecDepth 100000 in
theorem wd_747 : (Jvm.Cond.methodLink "ExpenseClubsLaw" (89 : Nat) ({ cls := "ExpenseClubsModel", name := "transfer", desc := "(III)J" } : Jvm.MethodName)) ∈ lw_tbl := List.mem_of_getElem? (i := 771) rfl
set_option maxRecDepth 100000 in
theorem wd_748 : (Jvm.Cond.instanceMethod ({ cls := "ExpenseClubsModel", name := "transfer", desc := "(III)J" } : Jvm.MethodName)) ∈ lw_tbl := List.mem_of_getElem? (i := 772) rfl
set_option maxRecDepth 100000 in
theorem wd_749 : (Jvm.Cond.selects "ExpenseClubsModel" ({ cls := "ExpenseClubsModel", name := "transfer", desc := "(III)J" } : Jvm.MethodName) ({ cls := "ExpenseClubsModel", name := "transfer", desc := "(III)J" } : Jvm.MethodName)) ∈ lw_tbl := List.mem_of_getElem? (i := 773) rfl
set_option maxRecDepth 100000 in
theorem wd_750 : (Jvm.Cond.code ({ cls := "ExpenseClubsModel", name := "transfer", desc := "(III)J" } : Jvm.MethodName) prog_8_method_34_code (5 : Nat) (Option.some Jvm.ClassFile.FieldType.long)) ∈ lw_tbl := List.mem_of_getElem? (i := 774) rfl
set_option maxRecDepth 100000 in
theorem wd_751 : (Jvm.Cond.methodLink "ExpenseClubsModel" (190 : Nat) ({ cls := "ExpenseClubsModel", name := "isTransfer", desc := "(II)Z" } : Jvm.MethodName)) ∈ lw_tbl := List.mem_of_getElem? (i := 775) rfl
set_option maxRecDepth 100000 in
theorem wd_752 : (Jvm.Cond.privateMethod ({ cls := "ExpenseClubsModel", name := "isTransfer", desc := "(II)Z" } : Jvm.MethodName)) ∈ lw_tbl := List.mem_of_getElem? (i := 776) rfl
set_option maxRecDepth 100000 in
theorem wd_753 : (Jvm.Cond.instanceMethod ({ cls := "ExpenseClubsModel", name := "isTransfer", desc := "(II)Z" } : Jvm.MethodName)) ∈ lw_tbl := List.mem_of_getElem? (i := 777) rfl
set_option maxRecDepth 100000 in
theorem wd_754 : (Jvm.Cond.code ({ cls := "ExpenseClubsModel", name := "isTransfer", desc := "(II)Z" } : Jvm.MethodName) prog_8_method_33_code (3 : Nat) (Option.some Jvm.ClassFile.FieldType.boolean)) ∈ lw_tbl := List.mem_of_getElem? (i := 778) rfl
set_option maxRecDepth 100000 in
theorem wd_755 : (Jvm.Cond.methodLink "ExpenseClubsLaw" (96 : Nat) ({ cls := "ExpenseClubsModel", name := "tick", desc := "(II)Z" } : Jvm.MethodName)) ∈ lw_tbl := List.mem_of_getElem? (i := 779) rfl
set_option maxRecDepth 100000 in
theorem wd_756 : (Jvm.Cond.instanceMethod ({ cls := "ExpenseClubsModel", name := "tick", desc := "(II)Z" } : Jvm.MethodName)) ∈ lw_tbl := List.mem_of_getElem? (i := 780) rfl
set_option maxRecDepth 100000 in
theorem wd_757 : (Jvm.Cond.selects "ExpenseClubsModel" ({ cls := "ExpenseClubsModel", name := "tick", desc := "(II)Z" } : Jvm.MethodName) ({ cls := "ExpenseClubsModel", name := "tick", desc := "(II)Z" } : Jvm.MethodName)) ∈ lw_tbl := List.mem_of_getElem? (i := 781) rfl
set_option maxRecDepth 100000 in
theorem wd_758 : (Jvm.Cond.code ({ cls := "ExpenseClubsModel", name := "tick", desc := "(II)Z" } : Jvm.MethodName) prog_8_method_35_code (4 : Nat) (Option.some Jvm.ClassFile.FieldType.boolean)) ∈ lw_tbl := List.mem_of_getElem? (i := 782) rfl
set_option maxRecDepth 100000 in
theorem wd_759 : (Jvm.Cond.methodLink "ExpenseClubsLaw" (100 : Nat) ({ cls := "ExpenseClubsModel", name := "giveUp", desc := "(I)I" } : Jvm.MethodName)) ∈ lw_tbl := List.mem_of_getElem? (i := 783) rfl
set_option maxRecDepth 100000 in
theorem wd_760 : (Jvm.Cond.instanceMethod ({ cls := "ExpenseClubsModel", name := "giveUp", desc := "(I)I" } : Jvm.MethodName)) ∈ lw_tbl := List.mem_of_getElem? (i := 784) rfl
set_option maxRecDepth 100000 in
theorem wd_761 : (Jvm.Cond.selects "ExpenseClubsModel" ({ cls := "ExpenseClubsModel", name := "giveUp", desc := "(I)I" } : Jvm.MethodName) ({ cls := "ExpenseClubsModel", name := "giveUp", desc := "(I)I" } : Jvm.MethodName)) ∈ lw_tbl := List.mem_of_getElem? (i := 785) rfl
set_option maxRecDepth 100000 in
theorem wd_762 : (Jvm.Cond.code ({ cls := "ExpenseClubsModel", name := "giveUp", desc := "(I)I" } : Jvm.MethodName) prog_8_method_37_code (2 : Nat) (Option.some Jvm.ClassFile.FieldType.int)) ∈ lw_tbl := List.mem_of_getElem? (i := 786) rfl
set_option maxRecDepth 100000 in
theorem wd_763 : (Jvm.Cond.methodLink "ExpenseClubsModel" (193 : Nat) ({ cls := "ExpenseClubsModel", name := "unticked", desc := "(I)I" } : Jvm.MethodName)) ∈ lw_tbl := List.mem_of_getElem? (i := 787) rfl
set_option maxRecDepth 100000 in
theorem wd_764 : (Jvm.Cond.privateMethod ({ cls := "ExpenseClubsModel", name := "unticked", desc := "(I)I" } : Jvm.MethodName)) ∈ lw_tbl := List.mem_of_getElem? (i := 788) rfl
set_option maxRecDepth 100000 in
theorem wd_765 : (Jvm.Cond.instanceMethod ({ cls := "ExpenseClubsModel", name := "unticked", desc := "(I)I" } : Jvm.MethodName)) ∈ lw_tbl := List.mem_of_getElem? (i := 789) rfl
set_option maxRecDepth 100000 in
theorem wd_766 : (Jvm.Cond.code ({ cls := "ExpenseClubsModel", name := "unticked", desc := "(I)I" } : Jvm.MethodName) prog_8_method_36_code (4 : Nat) (Option.some Jvm.ClassFile.FieldType.int)) ∈ lw_tbl := List.mem_of_getElem? (i := 790) rfl
set_option maxRecDepth 100000 in
theorem wd_767 : (Jvm.Cond.methodLink "ExpenseClubsLaw" (104 : Nat) ({ cls := "ExpenseClubsModel", name := "close", desc := "(I)Z" } : Jvm.MethodName)) ∈ lw_tbl := List.mem_of_getElem? (i := 791) rfl
set_option maxRecDepth 100000 in
theorem wd_768 : (Jvm.Cond.instanceMethod ({ cls := "ExpenseClubsModel", name := "close", desc := "(I)Z" } : Jvm.MethodName)) ∈ lw_tbl := List.mem_of_getElem? (i := 792) rfl
set_option maxRecDepth 100000 in
theorem wd_769 : (Jvm.Cond.selects "ExpenseClubsModel" ({ cls := "ExpenseClubsModel", name := "close", desc := "(I)Z" } : Jvm.MethodName) ({ cls := "ExpenseClubsModel", name := "close", desc := "(I)Z" } : Jvm.MethodName)) ∈ lw_tbl := List.mem_of_getElem? (i := 793) rfl
set_option maxRecDepth 100000 in
theorem wd_770 : (Jvm.Cond.code ({ cls := "ExpenseClubsModel", name := "close", desc := "(I)Z" } : Jvm.MethodName) prog_8_method_38_code (2 : Nat) (Option.some Jvm.ClassFile.FieldType.boolean)) ∈ lw_tbl := List.mem_of_getElem? (i := 794) rfl
set_option maxRecDepth 100000 in
theorem wd_771 : (Jvm.Cond.methodLink "ExpenseClubsLaw" (109 : Nat) ({ cls := "ExpenseClubsModel", name := "count", desc := "(II)I" } : Jvm.MethodName)) ∈ lw_tbl := List.mem_of_getElem? (i := 795) rfl
set_option maxRecDepth 100000 in
theorem wd_772 : (Jvm.Cond.instanceMethod ({ cls := "ExpenseClubsModel", name := "count", desc := "(II)I" } : Jvm.MethodName)) ∈ lw_tbl := List.mem_of_getElem? (i := 796) rfl
set_option maxRecDepth 100000 in
theorem wd_773 : (Jvm.Cond.selects "ExpenseClubsModel" ({ cls := "ExpenseClubsModel", name := "count", desc := "(II)I" } : Jvm.MethodName) ({ cls := "ExpenseClubsModel", name := "count", desc := "(II)I" } : Jvm.MethodName)) ∈ lw_tbl := List.mem_of_getElem? (i := 797) rfl
set_option maxRecDepth 100000 in
theorem wd_774 : (Jvm.Cond.code ({ cls := "ExpenseClubsModel", name := "count", desc := "(II)I" } : Jvm.MethodName) prog_8_method_39_code (3 : Nat) (Option.some Jvm.ClassFile.FieldType.int)) ∈ lw_tbl := List.mem_of_getElem? (i := 798) rfl
set_option maxRecDepth 100000 in
theorem wd_775 : (Jvm.Cond.methodLink "ExpenseClubsLaw" (113 : Nat) ({ cls := "ExpenseClubsModel", name := "groupOf", desc := "(II)I" } : Jvm.MethodName)) ∈ lw_tbl := List.mem_of_getElem? (i := 799) rfl
set_option maxRecDepth 100000 in
theorem wd_776 : (Jvm.Cond.instanceMethod ({ cls := "ExpenseClubsModel", name := "groupOf", desc := "(II)I" } : Jvm.MethodName)) ∈ lw_tbl := List.mem_of_getElem? (i := 800) rfl
set_option maxRecDepth 100000 in
theorem wd_777 : (Jvm.Cond.selects "ExpenseClubsModel" ({ cls := "ExpenseClubsModel", name := "groupOf", desc := "(II)I" } : Jvm.MethodName) ({ cls := "ExpenseClubsModel", name := "groupOf", desc := "(II)I" } : Jvm.MethodName)) ∈ lw_tbl := List.mem_of_getElem? (i := 801) rfl
set_option maxRecDepth 100000 in
theorem wd_778 : (Jvm.Cond.code ({ cls := "ExpenseClubsModel", name := "groupOf", desc := "(II)I" } : Jvm.MethodName) prog_8_method_40_code (3 : Nat) (Option.some Jvm.ClassFile.FieldType.int)) ∈ lw_tbl := List.mem_of_getElem? (i := 802) rfl
set_option maxRecDepth 100000 in
theorem wd_779 : (Jvm.Cond.sameMethod "java/lang/Throwable" "java/lang/Throwable" "fillInStackTrace" "(I)Ljava/lang/Throwable;") ∈ lw_tbl := List.mem_of_getElem? (i := 803) rfl
set_option maxRecDepth 100000 in
theorem ws_0 : Cond.selects "ExpenseClubs" ⟨"ExpenseClubs", "clubAt", "(I)LExpenseClubs$Club;"⟩ ⟨"ExpenseClubs", "clubAt", "(I)LExpenseClubs$Club;"⟩ ∈ lw_tbl := List.mem_of_getElem? (i := 0) rfl
set_option maxRecDepth 100000 in
theorem ws_1 : Cond.selects "ExpenseClubs" ⟨"ExpenseClubs", "refusalOfPost", "(LExpenseClubs$Club;)I"⟩ ⟨"ExpenseClubs", "refusalOfPost", "(LExpenseClubs$Club;)I"⟩ ∈ lw_tbl := List.mem_of_getElem? (i := 1) rfl
set_option maxRecDepth 100000 in
theorem ws_2 : Cond.selects "ExpenseClubs$Draft" ⟨"ExpenseClubs$Draft", "dueSum", "(J)J"⟩ ⟨"ExpenseClubs$Draft", "dueSum", "(J)J"⟩ ∈ lw_tbl := List.mem_of_getElem? (i := 2) rfl
set_option maxRecDepth 100000 in
theorem ws_3 : Cond.selects "ExpenseClubs" ⟨"ExpenseClubs", "billAt", "(I)LExpenseClubs$Bill;"⟩ ⟨"ExpenseClubs", "billAt", "(I)LExpenseClubs$Bill;"⟩ ∈ lw_tbl := List.mem_of_getElem? (i := 3) rfl
set_option maxRecDepth 100000 in
theorem ws_4 : Cond.selects "ExpenseClubs$Grouping" ⟨"ExpenseClubs$Grouping", "gather", "([J)V"⟩ ⟨"ExpenseClubs$Grouping", "gather", "([J)V"⟩ ∈ lw_tbl := List.mem_of_getElem? (i := 4) rfl
set_option maxRecDepth 100000 in
theorem ws_5 : Cond.selects "ExpenseClubs$Grouping" ⟨"ExpenseClubs$Grouping", "countMost", "()V"⟩ ⟨"ExpenseClubs$Grouping", "countMost", "()V"⟩ ∈ lw_tbl := List.mem_of_getElem? (i := 5) rfl
set_option maxRecDepth 100000 in
theorem ws_6 : Cond.selects "ExpenseClubs$Grouping" ⟨"ExpenseClubs$Grouping", "firstGroup", "(I)I"⟩ ⟨"ExpenseClubs$Grouping", "firstGroup", "(I)I"⟩ ∈ lw_tbl := List.mem_of_getElem? (i := 6) rfl
set_option maxRecDepth 100000 in
theorem ws_7 : Cond.selects "ExpenseClubs$Grouping" ⟨"ExpenseClubs$Grouping", "sumOfSet", "(I)J"⟩ ⟨"ExpenseClubs$Grouping", "sumOfSet", "(I)J"⟩ ∈ lw_tbl := List.mem_of_getElem? (i := 7) rfl
set_option maxRecDepth 100000 in
theorem ws_8 : Cond.selects "ExpenseClubs$Grouping" ⟨"ExpenseClubs$Grouping", "addGroup", "(LExpenseClubs$Settlement;I)V"⟩ ⟨"ExpenseClubs$Grouping", "addGroup", "(LExpenseClubs$Settlement;I)V"⟩ ∈ lw_tbl := List.mem_of_getElem? (i := 8) rfl
set_option maxRecDepth 100000 in
theorem ws_9 : Cond.selects "java/lang/Throwable" ⟨"java/lang/Throwable", "fillInStackTrace", "(I)Ljava/lang/Throwable;"⟩ ⟨"java/lang/Throwable", "fillInStackTrace", "(I)Ljava/lang/Throwable;"⟩ ∈ lw_tbl := List.mem_of_getElem? (i := 9) rfl
set_option maxRecDepth 100000 in
theorem ws_10 : Cond.selects "ExpenseClubsModel" ⟨"ExpenseClubsModel", "isClub", "(I)Z"⟩ ⟨"ExpenseClubsModel", "isClub", "(I)Z"⟩ ∈ lw_tbl := List.mem_of_getElem? (i := 10) rfl
set_option maxRecDepth 100000 in
theorem ws_11 : Cond.selects "ExpenseClubsModel" ⟨"ExpenseClubsModel", "isMember", "(II)Z"⟩ ⟨"ExpenseClubsModel", "isMember", "(II)Z"⟩ ∈ lw_tbl := List.mem_of_getElem? (i := 11) rfl
set_option maxRecDepth 100000 in
theorem ws_12 : Cond.selects "ExpenseClubsModel" ⟨"ExpenseClubsModel", "stays", "(I)Z"⟩ ⟨"ExpenseClubsModel", "stays", "(I)Z"⟩ ∈ lw_tbl := List.mem_of_getElem? (i := 12) rfl
set_option maxRecDepth 100000 in
theorem ws_13 : Cond.selects "ExpenseClubsModel" ⟨"ExpenseClubsModel", "wrong", "()I"⟩ ⟨"ExpenseClubsModel", "wrong", "()I"⟩ ∈ lw_tbl := List.mem_of_getElem? (i := 13) rfl
set_option maxRecDepth 100000 in
theorem ws_14 : Cond.selects "ExpenseClubsModel" ⟨"ExpenseClubsModel", "weighs", "()J"⟩ ⟨"ExpenseClubsModel", "weighs", "()J"⟩ ∈ lw_tbl := List.mem_of_getElem? (i := 14) rfl
set_option maxRecDepth 100000 in
theorem ws_15 : Cond.selects "ExpenseClubsModel" ⟨"ExpenseClubsModel", "fits", "(J)Z"⟩ ⟨"ExpenseClubsModel", "fits", "(J)Z"⟩ ∈ lw_tbl := List.mem_of_getElem? (i := 15) rfl
set_option maxRecDepth 100000 in
theorem ws_16 : Cond.selects "ExpenseClubsModel" ⟨"ExpenseClubsModel", "pay", "(IJ)V"⟩ ⟨"ExpenseClubsModel", "pay", "(IJ)V"⟩ ∈ lw_tbl := List.mem_of_getElem? (i := 16) rfl
set_option maxRecDepth 100000 in
theorem ws_17 : Cond.selects "ExpenseClubsModel" ⟨"ExpenseClubsModel", "share", "(IJJ)V"⟩ ⟨"ExpenseClubsModel", "share", "(IJJ)V"⟩ ∈ lw_tbl := List.mem_of_getElem? (i := 17) rfl
set_option maxRecDepth 100000 in
theorem ws_18 : Cond.selects "ExpenseClubsModel" ⟨"ExpenseClubsModel", "weighAll", "(I)V"⟩ ⟨"ExpenseClubsModel", "weighAll", "(I)V"⟩ ∈ lw_tbl := List.mem_of_getElem? (i := 18) rfl
set_option maxRecDepth 100000 in
theorem ws_19 : Cond.selects "ExpenseClubsModel" ⟨"ExpenseClubsModel", "divides", "()V"⟩ ⟨"ExpenseClubsModel", "divides", "()V"⟩ ∈ lw_tbl := List.mem_of_getElem? (i := 19) rfl
set_option maxRecDepth 100000 in
theorem ws_20 : Cond.selects "ExpenseClubsModel" ⟨"ExpenseClubsModel", "least", "(I)I"⟩ ⟨"ExpenseClubsModel", "least", "(I)I"⟩ ∈ lw_tbl := List.mem_of_getElem? (i := 20) rfl
set_option maxRecDepth 100000 in
theorem ws_21 : Cond.selects "ExpenseClubsModel" ⟨"ExpenseClubsModel", "moves", "(II)V"⟩ ⟨"ExpenseClubsModel", "moves", "(II)V"⟩ ∈ lw_tbl := List.mem_of_getElem? (i := 21) rfl
set_option maxRecDepth 100000 in
theorem ws_22 : Cond.selects "ExpenseClubsModel" ⟨"ExpenseClubsModel", "isTransfer", "(II)Z"⟩ ⟨"ExpenseClubsModel", "isTransfer", "(II)Z"⟩ ∈ lw_tbl := List.mem_of_getElem? (i := 22) rfl
set_option maxRecDepth 100000 in
theorem ws_23 : Cond.selects "ExpenseClubsModel" ⟨"ExpenseClubsModel", "unticked", "(I)I"⟩ ⟨"ExpenseClubsModel", "unticked", "(I)I"⟩ ∈ lw_tbl := List.mem_of_getElem? (i := 23) rfl
end
section
/-! what a call's start must say beside the words of gT: the links to private members of nest mates; the arrays over our classes -/
def gNestL : List (String × Nat × MethodName × String) := [("ExpenseClubs", 23, ⟨"ExpenseClubs$Draft", "<init>", "()V"⟩, "ExpenseClubs"), ("ExpenseClubs", 30, ⟨"ExpenseClubs$Grouping", "<init>", "()V"⟩, "ExpenseClubs"), ("ExpenseClubs", 39, ⟨"ExpenseClubs$Club", "<init>", "()V"⟩, "ExpenseClubs"), ("ExpenseClubs$Club", 20, ⟨"ExpenseClubs$Settlement", "<init>", "()V"⟩, "ExpenseClubs"), ("ExpenseClubs$Draft", 47, ⟨"ExpenseClubs", "sumOf", "([J)J"⟩, "ExpenseClubs"), ("ExpenseClubs$Draft", 75, ⟨"ExpenseClubs", "cut", "(J[JI[J)I"⟩, "ExpenseClubs"), ("ExpenseClubs$Draft", 87, ⟨"ExpenseClubs", "portion", "(JJJ)J"⟩, "ExpenseClubs")]
def gN (U : State) : Prop := (∀ q ∈ gNestL, va_Nw (.methodLinkNest q.1 q.2.1 q.2.2.1 q.2.2.2) U) ∧ va_AO "ExpenseClubs$Club" U ∧ va_AO "ExpenseClubs$Bill" U
theorem gN.warm {s U : State} (hW : s.WarmedH U.vm) (h : gN s) : gN U := ⟨fun q hq => va_Nw.warmM hW (h.1 q hq), h.2.1.moved hW.alike, h.2.2.moved hW.alike⟩
theorem gN.same {s U : State} (e : s.vm = U.vm) (h : gN s) : gN U := ⟨fun q hq => va_Nw.same rfl e (h.1 q hq), h.2.1.moved (by rw [e]; exact Vm.Alike.refl _), h.2.2.moved (by rw [e]; exact Vm.Alike.refl _)⟩
/-! GHOST WORLDS: a world is a function from NAMES (numbers of my own) to cells; 'ad' says at which address a named cell lies. -/
abbrev gW : Type := Nat → Option va_E
def gup (u : gW) (n : Nat) (e : va_E) : gW := fun k => if k = n then some e else u k
theorem gup_self (u : gW) (n : Nat) (e : va_E) : gup u n e n = some e := if_pos rfl
theorem gup_ne {u : gW} {n k : Nat} {e : va_E} (h : k ≠ n) : gup u n e k = u k := if_neg h
def gP (E : gE) (ad : Nat → Nat) (u : gW) (H : Heap) : Prop := (∀ (n : Nat) (e : va_E), u n = some e → va_at E.1 E.2.1 (ad n, e) H) ∧ ∀ n k : Nat, u n ≠ none → u k ≠ none → ad n = ad k → n = k
def gI (A : Nat → Prop) (ad : Nat → Nat) (u : gW) : Prop := ∀ n : Nat, u n ≠ none → A (ad n)
abbrev gZ : Type := Program × Launch × Env × State × MethodId × Array Value × List Frame × Method × Code × (Nat → Prop) × Heap × (State → Prop)
def gp (Z : gZ) : Program := Z.1
def gl (Z : gZ) : Launch := Z.2.1
def ge (Z : gZ) : Env := Z.2.2.1
def gs (Z : gZ) : State := Z.2.2.2.1
def gm (Z : gZ) : MethodId := Z.2.2.2.2.1
def ga (Z : gZ) : Array Value := Z.2.2.2.2.2.1
def gb (Z : gZ) : List Frame := Z.2.2.2.2.2.2.1
def gme (Z : gZ) : Method := Z.2.2.2.2.2.2.2.1
def gc (Z : gZ) : Code := Z.2.2.2.2.2.2.2.2.1
def gA (Z : gZ) : Nat → Prop := Z.2.2.2.2.2.2.2.2.2.1
def gH (Z : gZ) : Heap := Z.2.2.2.2.2.2.2.2.2.2.1
def gQ (Z : gZ) : State → Prop := Z.2.2.2.2.2.2.2.2.2.2.2
/-- the machine at pc with locals lv, operand stack st, the world u at addresses ad in a heap of size sz, comes to gQ Z -/
def GW (Z : gZ) (R : Room) (nL : Nat) (E : gE) (ad : Nat → Nat) (u : gW) (sz : Nat) (lv : List (Nat × Value)) (cells slots pc : Nat) (st : List Value) : Prop :=
  ∀ (H : Heap) (locs : List Loc) (ls : Array Slot), H.size = sz → gP E ad u H → gI (gA Z) ad u → va_S (gA Z) (gH Z) H locs → lv_has ls nL lv →
    W (gp Z) (gl Z) (ge Z) R (gs Z) (gm Z) (ga Z) (gb Z) (gme Z) (gc Z) H locs cells slots (gQ Z) (F0 (gm Z) pc ls st)
/-- what stays the same through a method -/
def gC (Z : gZ) (cc : ByteArray) (nL : Nat) (own : String) (Ts : List Cond) (E : gE) : Prop :=
  (gp Z).tables.exec = Jvm.exec ∧ (gc Z).code = cc ∧ (gc Z).maxLocals = nL ∧ (gs Z).vm.findClass own = some (gm Z).cls ∧ (∀ w ∈ Ts, w.before (ga Z) (gs Z) = true) ∧ va_K E.1 E.2.1 E.2.2 (gs Z) ∧ (∀ q : Nat, (gH Z).size ≤ q → gA Z q) ∧ (gme Z).locks = false ∧ gN (gs Z)
/-- which addresses a method may write -/
def gAd (ad : Nat → Nat) (u : gW) (sz : Nat) : Nat → Prop := fun q => (∃ n : Nat, u n ≠ none ∧ q = ad n) ∨ sz ≤ q
def gPre (E : gE) (ad : Nat → Nat) (u : gW) (sz : Nat) (U : State) : Prop := U.heap.size = sz ∧ gP E ad u U.heap ∧ va_K E.1 E.2.1 E.2.2 U ∧ gN U
def gPost (E : gE) (ad : Nat → Nat) (A : Nat → Prop) (Post : Option Value → gW → Nat → Prop) : Array Value → State → Outcome → State → Prop := fun _ st oc t =>
  ∃ (v : Option Value) (u : gW) (sz : Nat), oc = .returned v ∧ Post v u sz ∧ t.heap.size = sz ∧ gP E ad u t.heap ∧ gI A ad u ∧ va_K E.1 E.2.1 E.2.2 t ∧ va_F A st t
/-- a contract: called with argsV in the world u at ad, heap of size sz, it returns with Post -/
def gMet (l : Launch) (E : gE) (y : MethodName) (cc : ByteArray) (maxL : Nat) (ret : Option FieldType) (rm : Room) (argsV : List Value) (ad : Nat → Nat) (u : gW) (sz : Nat) (Post : Option Value → gW → Nat → Prop) : Prop :=
  Met l y (Cond.code y cc maxL ret :: gT) rm (va_Pc argsV (gPre E ad u sz)) (gPost E ad (gAd ad u sz) Post) rm.cells rm.slots (gAd ad u sz)
/-- the end of a method: what gQ is -/
def gR (Z : gZ) (E : gE) (ad : Nat → Nat) (cells slots : Nat) (Post : Option Value → gW → Nat → Prop) : Prop :=
  gQ Z = MQ (gb Z) (gPost E ad (gA Z) Post) (ga Z) (gs Z) cells slots (gA Z) ∧ gH Z = (gs Z).heap
theorem gI_gAd {ad : Nat → Nat} {u : gW} {sz : Nat} : gI (gAd ad u sz) ad u := fun n h => Or.inl ⟨n, h, rfl⟩
theorem gMet_of {l : Launch} {E : gE} {y : MethodName} {rm : Room} {argsV : List Value} {ad : Nat → Nat} {u : gW} {sz : Nat} {Post : Option Value → gW → Nat → Prop} {cc : ByteArray} {maxL : Nat} {ret : Option FieldType}
    (own : String) (ho : y.cls = own) (hy : plainName y.cls = true) (hn : (lg_sl argsV).length ≤ maxL) {lv : List (Nat × Value)} (hlv : lv_args 0 argsV = lv)
    (body : ∀ Z : gZ, gl Z = l → gC Z cc maxL own gT E → gR Z E ad rm.cells rm.slots Post → (gme Z).sig.returnType = ret → (gme Z).name = y.name → GW Z rm maxL E ad u sz lv 0 0 0 []) : gMet l E y cc maxL ret rm argsV ad u sz Post := by
  refine Met.ofW (cc := cc) (maxL := maxL) (ret := ret) hy rfl ?_
  intro p e s m args below meth c s₁ B hml hv
  obtain ⟨rfl, hsz, hP, hK, hN⟩ := hv
  have hts := atoms_spec (ws := Cond.code y cc maxL ret :: gT) B.pre
  have hown : s.vm.findClass y.cls = some m.cls := findClass_of_methodNamed B.named
  rw [ho] at hown
  have hname := (name_of_methodNamed B.named B.method).1
  have hl := lv_entry argsV (n := maxL) hn
  rw [lg_entry_eq]
  have hA : ∀ q : Nat, s.heap.size ≤ q → gAd ad u sz q := fun q h => Or.inr (by rw [← hsz]; exact h)
  have K := body (p, l, e, s, m, argsV.toArray, below, meth, c, gAd ad u sz, s.heap, MQ below (gPost E ad (gAd ad u sz) Post) argsV.toArray s rm.cells rm.slots (gAd ad u sz)) rfl
    ⟨B.exec, B.bytes, hml, hown, fun w h => hts w (List.mem_cons_of_mem _ h), hK, hA, B.notSynchronized, hN⟩ ⟨rfl, rfl⟩ B.returns hname
  exact K s.heap [] _ hsz hP gI_gAd va_S.rf (by rw [← hlv]; exact hl)
end
section
section GR
variable {Z : gZ} {R : Room} {cc : ByteArray} {nL : Nat} {own : String} {Ts : List Cond} {E : gE} {ad : Nat → Nat} {u : gW} {sz : Nat} {lv : List (Nat × Value)} {cells slots pc : Nat} {st : List Value}
theorem g_iconst {n : Int} {v : Int32} (C : gC Z cc nL own Ts E) (hd : decode cc pc = .ok (.iconst n, 1)) (hv : Int32.ofInt n = v) (k : GW Z R nL E ad u sz lv cells slots (pc + 1) (.int v :: st)) : GW Z R nL E ad u sz lv cells slots pc st := fun H locs ls h1 h2 h3 h4 h5 => lv_iconst C.1 C.2.1 hd hv (k H locs ls h1 h2 h3 h4 h5)
theorem g_bipush {n : Int} {v : Int32} (C : gC Z cc nL own Ts E) (hd : decode cc pc = .ok (.bipush n, 2)) (hv : (Int8.ofInt n).toInt32 = v) (k : GW Z R nL E ad u sz lv cells slots (pc + 2) (.int v :: st)) : GW Z R nL E ad u sz lv cells slots pc st := fun H locs ls h1 h2 h3 h4 h5 => lv_bipush C.1 C.2.1 hd hv (k H locs ls h1 h2 h3 h4 h5)
theorem g_sipush {n : Int} {v : Int32} (C : gC Z cc nL own Ts E) (hd : decode cc pc = .ok (.sipush n, 3)) (hv : (Int16.ofInt n).toInt32 = v) (k : GW Z R nL E ad u sz lv cells slots (pc + 3) (.int v :: st)) : GW Z R nL E ad u sz lv cells slots pc st := fun H locs ls h1 h2 h3 h4 h5 => lv_sipush C.1 C.2.1 hd hv (k H locs ls h1 h2 h3 h4 h5)
theorem g_lconst {n : Fin 2} {v : Int64} (C : gC Z cc nL own Ts E) (hd : decode cc pc = .ok (.lconst n, 1)) (hv : Int64.ofNat (n : Nat) = v) (k : GW Z R nL E ad u sz lv cells slots (pc + 1) (.long v :: st)) : GW Z R nL E ad u sz lv cells slots pc st := fun H locs ls h1 h2 h3 h4 h5 => lv_lconst C.1 C.2.1 hd hv (k H locs ls h1 h2 h3 h4 h5)
theorem g_null  (C : gC Z cc nL own Ts E) (hd : decode cc pc = .ok (.aconst_null, 1))  (k : GW Z R nL E ad u sz lv cells slots (pc + 1) (.null :: st)) : GW Z R nL E ad u sz lv cells slots pc st := fun H locs ls h1 h2 h3 h4 h5 => lv_null C.1 C.2.1 hd  (k H locs ls h1 h2 h3 h4 h5)
theorem g_iload_n {j : Fin 4} {i : Nat} {x : Int32} (C : gC Z cc nL own Ts E) (hd : decode cc pc = .ok (.iload_n j, 1)) (hi : (j : Nat) = i) (q : Nat) (hq : lv[q]? = some (i, .int x)) (k : GW Z R nL E ad u sz lv cells slots (pc + 1) (.int x :: st)) : GW Z R nL E ad u sz lv cells slots pc st := fun H locs ls h1 h2 h3 h4 h5 => lv_iload_n C.1 C.2.1 hd hi (lv_at h5 q hq) (k H locs ls h1 h2 h3 h4 h5)
theorem g_iload {i : Nat} {x : Int32} (C : gC Z cc nL own Ts E) (hd : decode cc pc = .ok (.iload i, 2)) (q : Nat) (hq : lv[q]? = some (i, .int x)) (k : GW Z R nL E ad u sz lv cells slots (pc + 2) (.int x :: st)) : GW Z R nL E ad u sz lv cells slots pc st := fun H locs ls h1 h2 h3 h4 h5 => lv_iload C.1 C.2.1 hd (lv_at h5 q hq) (k H locs ls h1 h2 h3 h4 h5)
theorem g_lload_n {j : Fin 4} {i : Nat} {x : Int64} (C : gC Z cc nL own Ts E) (hd : decode cc pc = .ok (.lload_n j, 1)) (hi : (j : Nat) = i) (q : Nat) (hq : lv[q]? = some (i, .long x)) (k : GW Z R nL E ad u sz lv cells slots (pc + 1) (.long x :: st)) : GW Z R nL E ad u sz lv cells slots pc st := fun H locs ls h1 h2 h3 h4 h5 => lv_lload_n C.1 C.2.1 hd hi (lv_at h5 q hq) (k H locs ls h1 h2 h3 h4 h5)
theorem g_lload {i : Nat} {x : Int64} (C : gC Z cc nL own Ts E) (hd : decode cc pc = .ok (.lload i, 2)) (q : Nat) (hq : lv[q]? = some (i, .long x)) (k : GW Z R nL E ad u sz lv cells slots (pc + 2) (.long x :: st)) : GW Z R nL E ad u sz lv cells slots pc st := fun H locs ls h1 h2 h3 h4 h5 => lv_lload C.1 C.2.1 hd (lv_at h5 q hq) (k H locs ls h1 h2 h3 h4 h5)
theorem g_aload_n {j : Fin 4} {i : Nat} {x : Nat} (C : gC Z cc nL own Ts E) (hd : decode cc pc = .ok (.aload_n j, 1)) (hi : (j : Nat) = i) (q : Nat) (hq : lv[q]? = some (i, .ref x)) (k : GW Z R nL E ad u sz lv cells slots (pc + 1) (.ref x :: st)) : GW Z R nL E ad u sz lv cells slots pc st := fun H locs ls h1 h2 h3 h4 h5 => lv_aload_n C.1 C.2.1 hd hi (lv_at h5 q hq) (k H locs ls h1 h2 h3 h4 h5)
theorem g_aload {i : Nat} {x : Nat} (C : gC Z cc nL own Ts E) (hd : decode cc pc = .ok (.aload i, 2)) (q : Nat) (hq : lv[q]? = some (i, .ref x)) (k : GW Z R nL E ad u sz lv cells slots (pc + 2) (.ref x :: st)) : GW Z R nL E ad u sz lv cells slots pc st := fun H locs ls h1 h2 h3 h4 h5 => lv_aload C.1 C.2.1 hd (lv_at h5 q hq) (k H locs ls h1 h2 h3 h4 h5)
theorem g_aload_nN {j : Fin 4} {i : Nat} (C : gC Z cc nL own Ts E) (hd : decode cc pc = .ok (.aload_n j, 1)) (hi : (j : Nat) = i) (q : Nat) (hq : lv[q]? = some (i, .null)) (k : GW Z R nL E ad u sz lv cells slots (pc + 1) (.null :: st)) : GW Z R nL E ad u sz lv cells slots pc st := fun H locs ls h1 h2 h3 h4 h5 => lv_aload_nN C.1 C.2.1 hd hi (lv_at h5 q hq) (k H locs ls h1 h2 h3 h4 h5)
theorem g_aloadN {i : Nat} (C : gC Z cc nL own Ts E) (hd : decode cc pc = .ok (.aload i, 2)) (q : Nat) (hq : lv[q]? = some (i, .null)) (k : GW Z R nL E ad u sz lv cells slots (pc + 2) (.null :: st)) : GW Z R nL E ad u sz lv cells slots pc st := fun H locs ls h1 h2 h3 h4 h5 => lv_aloadN C.1 C.2.1 hd (lv_at h5 q hq) (k H locs ls h1 h2 h3 h4 h5)
theorem g_istore_n {j : Fin 4} {i : Nat} {x : Int32} (C : gC Z cc nL own Ts E) (hd : decode cc pc = .ok (.istore_n j, 1)) (hi : (j : Nat) = i) (lv' : List (Nat × Value)) (hn : i < nL) (hl : (i, Value.int x) :: lv.filter (fun q => !(q.1 == i) && !(q.1 + 1 == i && q.2.category == 2)) = lv') (k : GW Z R nL E ad u sz lv' cells slots (pc + 1) st) : GW Z R nL E ad u sz lv cells slots pc (Value.int x :: st) := fun H locs ls h1 h2 h3 h4 h5 => lv_istore_n C.1 C.2.1 hd hi h5 hn hl (fun ls' h5' => k H locs ls' h1 h2 h3 h4 h5')
theorem g_istore {i : Nat} {x : Int32} (C : gC Z cc nL own Ts E) (hd : decode cc pc = .ok (.istore i, 2))  (lv' : List (Nat × Value)) (hn : i < nL) (hl : (i, Value.int x) :: lv.filter (fun q => !(q.1 == i) && !(q.1 + 1 == i && q.2.category == 2)) = lv') (k : GW Z R nL E ad u sz lv' cells slots (pc + 2) st) : GW Z R nL E ad u sz lv cells slots pc (Value.int x :: st) := fun H locs ls h1 h2 h3 h4 h5 => lv_istore C.1 C.2.1 hd  h5 hn hl (fun ls' h5' => k H locs ls' h1 h2 h3 h4 h5')
theorem g_lstore_n {j : Fin 4} {i : Nat} {x : Int64} (C : gC Z cc nL own Ts E) (hd : decode cc pc = .ok (.lstore_n j, 1)) (hi : (j : Nat) = i) (lv' : List (Nat × Value)) (hn : i + 1 < nL) (hl : (i, Value.long x) :: lv.filter (fun q => !(q.1 == i) && (!(q.1 == i + 1) && !(q.1 + 1 == i && q.2.category == 2))) = lv') (k : GW Z R nL E ad u sz lv' cells slots (pc + 1) st) : GW Z R nL E ad u sz lv cells slots pc (Value.long x :: st) := fun H locs ls h1 h2 h3 h4 h5 => lv_lstore_n C.1 C.2.1 hd hi h5 hn hl (fun ls' h5' => k H locs ls' h1 h2 h3 h4 h5')
theorem g_lstore {i : Nat} {x : Int64} (C : gC Z cc nL own Ts E) (hd : decode cc pc = .ok (.lstore i, 2))  (lv' : List (Nat × Value)) (hn : i + 1 < nL) (hl : (i, Value.long x) :: lv.filter (fun q => !(q.1 == i) && (!(q.1 == i + 1) && !(q.1 + 1 == i && q.2.category == 2))) = lv') (k : GW Z R nL E ad u sz lv' cells slots (pc + 2) st) : GW Z R nL E ad u sz lv cells slots pc (Value.long x :: st) := fun H locs ls h1 h2 h3 h4 h5 => lv_lstore C.1 C.2.1 hd  h5 hn hl (fun ls' h5' => k H locs ls' h1 h2 h3 h4 h5')
theorem g_astore_n {j : Fin 4} {i : Nat} {x : Nat} (C : gC Z cc nL own Ts E) (hd : decode cc pc = .ok (.astore_n j, 1)) (hi : (j : Nat) = i) (lv' : List (Nat × Value)) (hn : i < nL) (hl : (i, Value.ref x) :: lv.filter (fun q => !(q.1 == i) && !(q.1 + 1 == i && q.2.category == 2)) = lv') (k : GW Z R nL E ad u sz lv' cells slots (pc + 1) st) : GW Z R nL E ad u sz lv cells slots pc (Value.ref x :: st) := fun H locs ls h1 h2 h3 h4 h5 => lv_astore_n C.1 C.2.1 hd hi h5 hn hl (fun ls' h5' => k H locs ls' h1 h2 h3 h4 h5')
theorem g_astore {i : Nat} {x : Nat} (C : gC Z cc nL own Ts E) (hd : decode cc pc = .ok (.astore i, 2))  (lv' : List (Nat × Value)) (hn : i < nL) (hl : (i, Value.ref x) :: lv.filter (fun q => !(q.1 == i) && !(q.1 + 1 == i && q.2.category == 2)) = lv') (k : GW Z R nL E ad u sz lv' cells slots (pc + 2) st) : GW Z R nL E ad u sz lv cells slots pc (Value.ref x :: st) := fun H locs ls h1 h2 h3 h4 h5 => lv_astore C.1 C.2.1 hd  h5 hn hl (fun ls' h5' => k H locs ls' h1 h2 h3 h4 h5')
theorem g_astore_nN {j : Fin 4} {i : Nat} (C : gC Z cc nL own Ts E) (hd : decode cc pc = .ok (.astore_n j, 1)) (hi : (j : Nat) = i) (lv' : List (Nat × Value)) (hn : i < nL) (hl : (i, Value.null) :: lv.filter (fun q => !(q.1 == i) && !(q.1 + 1 == i && q.2.category == 2)) = lv') (k : GW Z R nL E ad u sz lv' cells slots (pc + 1) st) : GW Z R nL E ad u sz lv cells slots pc (Value.null :: st) := fun H locs ls h1 h2 h3 h4 h5 => lv_astore_nN C.1 C.2.1 hd hi h5 hn hl (fun ls' h5' => k H locs ls' h1 h2 h3 h4 h5')
theorem g_astoreN {i : Nat} (C : gC Z cc nL own Ts E) (hd : decode cc pc = .ok (.astore i, 2))  (lv' : List (Nat × Value)) (hn : i < nL) (hl : (i, Value.null) :: lv.filter (fun q => !(q.1 == i) && !(q.1 + 1 == i && q.2.category == 2)) = lv') (k : GW Z R nL E ad u sz lv' cells slots (pc + 2) st) : GW Z R nL E ad u sz lv cells slots pc (Value.null :: st) := fun H locs ls h1 h2 h3 h4 h5 => lv_astoreN C.1 C.2.1 hd  h5 hn hl (fun ls' h5' => k H locs ls' h1 h2 h3 h4 h5')
theorem g_iinc {i : Nat} {n : Int} {x v : Int32} (C : gC Z cc nL own Ts E) (hd : decode cc pc = .ok (.iinc i n, 3)) (q : Nat) (hq : lv[q]? = some (i, .int x)) (hv : x + Int32.ofInt n = v) (lv' : List (Nat × Value)) (hn : i < nL) (hl : (i, Value.int v) :: lv.filter (fun q => !(q.1 == i) && !(q.1 + 1 == i && q.2.category == 2)) = lv') (k : GW Z R nL E ad u sz lv' cells slots (pc + 3) st) : GW Z R nL E ad u sz lv cells slots pc st := fun H locs ls h1 h2 h3 h4 h5 => lv_iinc C.1 C.2.1 hd h5 hq hv hn hl (fun ls' h5' => k H locs ls' h1 h2 h3 h4 h5')
theorem g_iadd {x y : Int32} (C : gC Z cc nL own Ts E) (hd : decode cc pc = .ok (.iadd, 1))  (k : GW Z R nL E ad u sz lv cells slots (pc + 1) (.int (x + y) :: st)) : GW Z R nL E ad u sz lv cells slots pc (.int y :: .int x :: st) := fun H locs ls h1 h2 h3 h4 h5 => lv_iadd C.1 C.2.1 hd  (k H locs ls h1 h2 h3 h4 h5)
theorem g_isub {x y : Int32} (C : gC Z cc nL own Ts E) (hd : decode cc pc = .ok (.isub, 1))  (k : GW Z R nL E ad u sz lv cells slots (pc + 1) (.int (x - y) :: st)) : GW Z R nL E ad u sz lv cells slots pc (.int y :: .int x :: st) := fun H locs ls h1 h2 h3 h4 h5 => lv_isub C.1 C.2.1 hd  (k H locs ls h1 h2 h3 h4 h5)
theorem g_imul {x y : Int32} (C : gC Z cc nL own Ts E) (hd : decode cc pc = .ok (.imul, 1))  (k : GW Z R nL E ad u sz lv cells slots (pc + 1) (.int (x * y) :: st)) : GW Z R nL E ad u sz lv cells slots pc (.int y :: .int x :: st) := fun H locs ls h1 h2 h3 h4 h5 => lv_imul C.1 C.2.1 hd  (k H locs ls h1 h2 h3 h4 h5)
theorem g_iand {x y : Int32} (C : gC Z cc nL own Ts E) (hd : decode cc pc = .ok (.iand, 1))  (k : GW Z R nL E ad u sz lv cells slots (pc + 1) (.int (x &&& y) :: st)) : GW Z R nL E ad u sz lv cells slots pc (.int y :: .int x :: st) := fun H locs ls h1 h2 h3 h4 h5 => lv_iand C.1 C.2.1 hd  (k H locs ls h1 h2 h3 h4 h5)
theorem g_ior {x y : Int32} (C : gC Z cc nL own Ts E) (hd : decode cc pc = .ok (.ior, 1))  (k : GW Z R nL E ad u sz lv cells slots (pc + 1) (.int (x ||| y) :: st)) : GW Z R nL E ad u sz lv cells slots pc (.int y :: .int x :: st) := fun H locs ls h1 h2 h3 h4 h5 => lv_ior C.1 C.2.1 hd  (k H locs ls h1 h2 h3 h4 h5)
theorem g_ixor {x y : Int32} (C : gC Z cc nL own Ts E) (hd : decode cc pc = .ok (.ixor, 1))  (k : GW Z R nL E ad u sz lv cells slots (pc + 1) (.int (x ^^^ y) :: st)) : GW Z R nL E ad u sz lv cells slots pc (.int y :: .int x :: st) := fun H locs ls h1 h2 h3 h4 h5 => lv_ixor C.1 C.2.1 hd  (k H locs ls h1 h2 h3 h4 h5)
theorem g_ishl {x y : Int32} (C : gC Z cc nL own Ts E) (hd : decode cc pc = .ok (.ishl, 1))  (k : GW Z R nL E ad u sz lv cells slots (pc + 1) (.int (x <<< (y &&& 31)) :: st)) : GW Z R nL E ad u sz lv cells slots pc (.int y :: .int x :: st) := fun H locs ls h1 h2 h3 h4 h5 => lv_ishl C.1 C.2.1 hd  (k H locs ls h1 h2 h3 h4 h5)
theorem g_ishr {x y : Int32} (C : gC Z cc nL own Ts E) (hd : decode cc pc = .ok (.ishr, 1))  (k : GW Z R nL E ad u sz lv cells slots (pc + 1) (.int (x >>> (y &&& 31)) :: st)) : GW Z R nL E ad u sz lv cells slots pc (.int y :: .int x :: st) := fun H locs ls h1 h2 h3 h4 h5 => lv_ishr C.1 C.2.1 hd  (k H locs ls h1 h2 h3 h4 h5)
theorem g_idiv {x y : Int32} (C : gC Z cc nL own Ts E) (hd : decode cc pc = .ok (.idiv, 1)) (hne : ¬ y = 0) (k : GW Z R nL E ad u sz lv cells slots (pc + 1) (.int (x / y) :: st)) : GW Z R nL E ad u sz lv cells slots pc (.int y :: .int x :: st) := fun H locs ls h1 h2 h3 h4 h5 => lv_idiv C.1 C.2.1 hd hne (k H locs ls h1 h2 h3 h4 h5)
theorem g_irem {x y : Int32} (C : gC Z cc nL own Ts E) (hd : decode cc pc = .ok (.irem, 1)) (hne : ¬ y = 0) (k : GW Z R nL E ad u sz lv cells slots (pc + 1) (.int (x - x / y * y) :: st)) : GW Z R nL E ad u sz lv cells slots pc (.int y :: .int x :: st) := fun H locs ls h1 h2 h3 h4 h5 => lv_irem C.1 C.2.1 hd hne (k H locs ls h1 h2 h3 h4 h5)
theorem g_ineg {x : Int32} (C : gC Z cc nL own Ts E) (hd : decode cc pc = .ok (.ineg, 1))  (k : GW Z R nL E ad u sz lv cells slots (pc + 1) (.int (-x) :: st)) : GW Z R nL E ad u sz lv cells slots pc (.int x :: st) := fun H locs ls h1 h2 h3 h4 h5 => lv_ineg C.1 C.2.1 hd  (k H locs ls h1 h2 h3 h4 h5)
theorem g_ladd {x y : Int64} (C : gC Z cc nL own Ts E) (hd : decode cc pc = .ok (.ladd, 1))  (k : GW Z R nL E ad u sz lv cells slots (pc + 1) (.long (x + y) :: st)) : GW Z R nL E ad u sz lv cells slots pc (.long y :: .long x :: st) := fun H locs ls h1 h2 h3 h4 h5 => lv_ladd C.1 C.2.1 hd  (k H locs ls h1 h2 h3 h4 h5)
theorem g_lsub {x y : Int64} (C : gC Z cc nL own Ts E) (hd : decode cc pc = .ok (.lsub, 1))  (k : GW Z R nL E ad u sz lv cells slots (pc + 1) (.long (x - y) :: st)) : GW Z R nL E ad u sz lv cells slots pc (.long y :: .long x :: st) := fun H locs ls h1 h2 h3 h4 h5 => lv_lsub C.1 C.2.1 hd  (k H locs ls h1 h2 h3 h4 h5)
theorem g_lmul {x y : Int64} (C : gC Z cc nL own Ts E) (hd : decode cc pc = .ok (.lmul, 1))  (k : GW Z R nL E ad u sz lv cells slots (pc + 1) (.long (x * y) :: st)) : GW Z R nL E ad u sz lv cells slots pc (.long y :: .long x :: st) := fun H locs ls h1 h2 h3 h4 h5 => lv_lmul C.1 C.2.1 hd  (k H locs ls h1 h2 h3 h4 h5)
theorem g_land {x y : Int64} (C : gC Z cc nL own Ts E) (hd : decode cc pc = .ok (.land, 1))  (k : GW Z R nL E ad u sz lv cells slots (pc + 1) (.long (x &&& y) :: st)) : GW Z R nL E ad u sz lv cells slots pc (.long y :: .long x :: st) := fun H locs ls h1 h2 h3 h4 h5 => lv_land C.1 C.2.1 hd  (k H locs ls h1 h2 h3 h4 h5)
theorem g_lor {x y : Int64} (C : gC Z cc nL own Ts E) (hd : decode cc pc = .ok (.lor, 1))  (k : GW Z R nL E ad u sz lv cells slots (pc + 1) (.long (x ||| y) :: st)) : GW Z R nL E ad u sz lv cells slots pc (.long y :: .long x :: st) := fun H locs ls h1 h2 h3 h4 h5 => lv_lor C.1 C.2.1 hd  (k H locs ls h1 h2 h3 h4 h5)
theorem g_lxor {x y : Int64} (C : gC Z cc nL own Ts E) (hd : decode cc pc = .ok (.lxor, 1))  (k : GW Z R nL E ad u sz lv cells slots (pc + 1) (.long (x ^^^ y) :: st)) : GW Z R nL E ad u sz lv cells slots pc (.long y :: .long x :: st) := fun H locs ls h1 h2 h3 h4 h5 => lv_lxor C.1 C.2.1 hd  (k H locs ls h1 h2 h3 h4 h5)
theorem g_ldiv {x y : Int64} (C : gC Z cc nL own Ts E) (hd : decode cc pc = .ok (.ldiv, 1)) (hne : ¬ y = 0) (k : GW Z R nL E ad u sz lv cells slots (pc + 1) (.long (x / y) :: st)) : GW Z R nL E ad u sz lv cells slots pc (.long y :: .long x :: st) := fun H locs ls h1 h2 h3 h4 h5 => lv_ldiv C.1 C.2.1 hd hne (k H locs ls h1 h2 h3 h4 h5)
theorem g_lrem {x y : Int64} (C : gC Z cc nL own Ts E) (hd : decode cc pc = .ok (.lrem, 1)) (hne : ¬ y = 0) (k : GW Z R nL E ad u sz lv cells slots (pc + 1) (.long (x - x / y * y) :: st)) : GW Z R nL E ad u sz lv cells slots pc (.long y :: .long x :: st) := fun H locs ls h1 h2 h3 h4 h5 => lv_lrem C.1 C.2.1 hd hne (k H locs ls h1 h2 h3 h4 h5)
theorem g_lneg {x : Int64} (C : gC Z cc nL own Ts E) (hd : decode cc pc = .ok (.lneg, 1))  (k : GW Z R nL E ad u sz lv cells slots (pc + 1) (.long (-x) :: st)) : GW Z R nL E ad u sz lv cells slots pc (.long x :: st) := fun H locs ls h1 h2 h3 h4 h5 => lv_lneg C.1 C.2.1 hd  (k H locs ls h1 h2 h3 h4 h5)
theorem g_i2l {x : Int32} (C : gC Z cc nL own Ts E) (hd : decode cc pc = .ok (.i2l, 1))  (k : GW Z R nL E ad u sz lv cells slots (pc + 1) (.long x.toInt64 :: st)) : GW Z R nL E ad u sz lv cells slots pc (.int x :: st) := fun H locs ls h1 h2 h3 h4 h5 => lv_i2l C.1 C.2.1 hd rfl (k H locs ls h1 h2 h3 h4 h5)
theorem g_l2i {x : Int64} (C : gC Z cc nL own Ts E) (hd : decode cc pc = .ok (.l2i, 1))  (k : GW Z R nL E ad u sz lv cells slots (pc + 1) (.int x.toInt32 :: st)) : GW Z R nL E ad u sz lv cells slots pc (.long x :: st) := fun H locs ls h1 h2 h3 h4 h5 => lv_l2i C.1 C.2.1 hd rfl (k H locs ls h1 h2 h3 h4 h5)
theorem g_lshl {x : Int64} {y : Int32} (C : gC Z cc nL own Ts E) (hd : decode cc pc = .ok (.lshl, 1))  (k : GW Z R nL E ad u sz lv cells slots (pc + 1) (.long (x <<< (y.toInt64 &&& 63)) :: st)) : GW Z R nL E ad u sz lv cells slots pc (.int y :: .long x :: st) := fun H locs ls h1 h2 h3 h4 h5 => lv_lshl C.1 C.2.1 hd rfl (k H locs ls h1 h2 h3 h4 h5)
theorem g_lshr {x : Int64} {y : Int32} (C : gC Z cc nL own Ts E) (hd : decode cc pc = .ok (.lshr, 1))  (k : GW Z R nL E ad u sz lv cells slots (pc + 1) (.long (x >>> (y.toInt64 &&& 63)) :: st)) : GW Z R nL E ad u sz lv cells slots pc (.int y :: .long x :: st) := fun H locs ls h1 h2 h3 h4 h5 => lv_lshr C.1 C.2.1 hd rfl (k H locs ls h1 h2 h3 h4 h5)
theorem g_iushr {x y : Int32} (C : gC Z cc nL own Ts E) (hd : decode cc pc = .ok (.iushr, 1))  (k : GW Z R nL E ad u sz lv cells slots (pc + 1) (.int (x.toUInt32 >>> (y.toUInt32 &&& Int32.toUInt32 31)).toInt32 :: st)) : GW Z R nL E ad u sz lv cells slots pc (.int y :: .int x :: st) := fun H locs ls h1 h2 h3 h4 h5 => lv_iushr C.1 C.2.1 hd rfl (k H locs ls h1 h2 h3 h4 h5)
theorem g_lushr {x : Int64} {y : Int32} (C : gC Z cc nL own Ts E) (hd : decode cc pc = .ok (.lushr, 1))  (k : GW Z R nL E ad u sz lv cells slots (pc + 1) (.long (x.toUInt64 >>> (y.toInt64.toUInt64 &&& Int64.toUInt64 63)).toInt64 :: st)) : GW Z R nL E ad u sz lv cells slots pc (.int y :: .long x :: st) := fun H locs ls h1 h2 h3 h4 h5 => lv_lushr C.1 C.2.1 hd rfl (k H locs ls h1 h2 h3 h4 h5)
theorem g_dup {a : Value} (C : gC Z cc nL own Ts E) (hd : decode cc pc = .ok (.dup, 1)) (ha : a.category = 1) (k : GW Z R nL E ad u sz lv cells slots (pc + 1) (a :: a :: st)) : GW Z R nL E ad u sz lv cells slots pc (a :: st) := fun H locs ls h1 h2 h3 h4 h5 => lv_dup C.1 C.2.1 hd ha (k H locs ls h1 h2 h3 h4 h5)
theorem g_pop {a : Value} (C : gC Z cc nL own Ts E) (hd : decode cc pc = .ok (.pop, 1)) (ha : a.category = 1) (k : GW Z R nL E ad u sz lv cells slots (pc + 1) st) : GW Z R nL E ad u sz lv cells slots pc (a :: st) := fun H locs ls h1 h2 h3 h4 h5 => lv_pop C.1 C.2.1 hd ha (k H locs ls h1 h2 h3 h4 h5)
theorem g_pop2_2 {a : Value} (C : gC Z cc nL own Ts E) (hd : decode cc pc = .ok (.pop2, 1)) (ha : a.category = 2) (k : GW Z R nL E ad u sz lv cells slots (pc + 1) st) : GW Z R nL E ad u sz lv cells slots pc (a :: st) := fun H locs ls h1 h2 h3 h4 h5 => lv_pop2_2 C.1 C.2.1 hd ha (k H locs ls h1 h2 h3 h4 h5)
theorem g_dup_x1 {a b : Value} (C : gC Z cc nL own Ts E) (hd : decode cc pc = .ok (.dup_x1, 1)) (ha : a.category = 1) (hb : b.category = 1) (k : GW Z R nL E ad u sz lv cells slots (pc + 1) (a :: b :: a :: st)) : GW Z R nL E ad u sz lv cells slots pc (a :: b :: st) := fun H locs ls h1 h2 h3 h4 h5 => lv_dup_x1 C.1 C.2.1 hd ha hb (k H locs ls h1 h2 h3 h4 h5)
theorem g_dup_x2 {a b d : Value} (C : gC Z cc nL own Ts E) (hd : decode cc pc = .ok (.dup_x2, 1)) (ha : a.category = 1) (hb : b.category = 1) (hd' : d.category = 1) (k : GW Z R nL E ad u sz lv cells slots (pc + 1) (a :: b :: d :: a :: st)) : GW Z R nL E ad u sz lv cells slots pc (a :: b :: d :: st) := fun H locs ls h1 h2 h3 h4 h5 => lv_dup_x2 C.1 C.2.1 hd ha hb hd' (k H locs ls h1 h2 h3 h4 h5)
theorem g_dup2_11 {a b : Value} (C : gC Z cc nL own Ts E) (hd : decode cc pc = .ok (.dup2, 1)) (ha : a.category = 1) (hb : b.category = 1) (k : GW Z R nL E ad u sz lv cells slots (pc + 1) (a :: b :: a :: b :: st)) : GW Z R nL E ad u sz lv cells slots pc (a :: b :: st) := fun H locs ls h1 h2 h3 h4 h5 => lv_dup2_11 C.1 C.2.1 hd ha hb (k H locs ls h1 h2 h3 h4 h5)
theorem g_dup2_2 {a : Value} (C : gC Z cc nL own Ts E) (hd : decode cc pc = .ok (.dup2, 1)) (ha : a.category = 2) (k : GW Z R nL E ad u sz lv cells slots (pc + 1) (a :: a :: st)) : GW Z R nL E ad u sz lv cells slots pc (a :: st) := fun H locs ls h1 h2 h3 h4 h5 => lv_dup2_2 C.1 C.2.1 hd ha (k H locs ls h1 h2 h3 h4 h5)
theorem g_dup2_x1_2 {a b : Value} (C : gC Z cc nL own Ts E) (hd : decode cc pc = .ok (.dup2_x1, 1)) (ha : a.category = 2) (hb : b.category = 1) (k : GW Z R nL E ad u sz lv cells slots (pc + 1) (a :: b :: a :: st)) : GW Z R nL E ad u sz lv cells slots pc (a :: b :: st) := fun H locs ls h1 h2 h3 h4 h5 => lv_dup2_x1_2 C.1 C.2.1 hd ha hb (k H locs ls h1 h2 h3 h4 h5)
theorem g_dup2_x2_2 {a b d : Value} (C : gC Z cc nL own Ts E) (hd : decode cc pc = .ok (.dup2_x2, 1)) (ha : a.category = 2) (hb : b.category = 1) (hd' : d.category = 1) (k : GW Z R nL E ad u sz lv cells slots (pc + 1) (a :: b :: d :: a :: st)) : GW Z R nL E ad u sz lv cells slots pc (a :: b :: d :: st) := fun H locs ls h1 h2 h3 h4 h5 => lv_dup2_x2_2 C.1 C.2.1 hd ha hb hd' (k H locs ls h1 h2 h3 h4 h5)
theorem g_lcmp {x y : Int64} (C : gC Z cc nL own Ts E) (hd : decode cc pc = .ok (.lcmp, 1)) (k : GW Z R nL E ad u sz lv cells slots (pc + 1) (.int (lg_cmp x y) :: st)) : GW Z R nL E ad u sz lv cells slots pc (.long y :: .long x :: st) := fun H locs ls h1 h2 h3 h4 h5 => W.lcmp C.1 C.2.1 hd (k H locs ls h1 h2 h3 h4 h5)
theorem g_if_eq {x : Int32} {off : Int} (tgt : Nat) (C : gC Z cc nL own Ts E) (hd : decode cc pc = .ok (.ifCond .eq off, 3)) (ht : (pc : Int) + off = (tgt : Int)) (kt : x = 0 → GW Z R nL E ad u sz lv cells slots tgt st) (kf : ¬ x = 0 → GW Z R nL E ad u sz lv cells slots (pc + 3) st) : GW Z R nL E ad u sz lv cells slots pc (.int x :: st) := fun H locs ls h1 h2 h3 h4 h5 => lv_if_eq C.1 C.2.1 hd ht (fun h => kt h H locs ls h1 h2 h3 h4 h5) (fun h => kf h H locs ls h1 h2 h3 h4 h5)
theorem g_icmp_eq {x y : Int32} {off : Int} (tgt : Nat) (C : gC Z cc nL own Ts E) (hd : decode cc pc = .ok (.if_icmp .eq off, 3)) (ht : (pc : Int) + off = (tgt : Int)) (kt : x = y → GW Z R nL E ad u sz lv cells slots tgt st) (kf : ¬ x = y → GW Z R nL E ad u sz lv cells slots (pc + 3) st) : GW Z R nL E ad u sz lv cells slots pc (.int y :: .int x :: st) := fun H locs ls h1 h2 h3 h4 h5 => lv_icmp_eq C.1 C.2.1 hd ht (fun h => kt h H locs ls h1 h2 h3 h4 h5) (fun h => kf h H locs ls h1 h2 h3 h4 h5)
theorem g_if_ne {x : Int32} {off : Int} (tgt : Nat) (C : gC Z cc nL own Ts E) (hd : decode cc pc = .ok (.ifCond .ne off, 3)) (ht : (pc : Int) + off = (tgt : Int)) (kt : ¬ x = 0 → GW Z R nL E ad u sz lv cells slots tgt st) (kf : x = 0 → GW Z R nL E ad u sz lv cells slots (pc + 3) st) : GW Z R nL E ad u sz lv cells slots pc (.int x :: st) := fun H locs ls h1 h2 h3 h4 h5 => lv_if_ne C.1 C.2.1 hd ht (fun h => kt h H locs ls h1 h2 h3 h4 h5) (fun h => kf h H locs ls h1 h2 h3 h4 h5)
theorem g_icmp_ne {x y : Int32} {off : Int} (tgt : Nat) (C : gC Z cc nL own Ts E) (hd : decode cc pc = .ok (.if_icmp .ne off, 3)) (ht : (pc : Int) + off = (tgt : Int)) (kt : ¬ x = y → GW Z R nL E ad u sz lv cells slots tgt st) (kf : x = y → GW Z R nL E ad u sz lv cells slots (pc + 3) st) : GW Z R nL E ad u sz lv cells slots pc (.int y :: .int x :: st) := fun H locs ls h1 h2 h3 h4 h5 => lv_icmp_ne C.1 C.2.1 hd ht (fun h => kt h H locs ls h1 h2 h3 h4 h5) (fun h => kf h H locs ls h1 h2 h3 h4 h5)
theorem g_if_lt {x : Int32} {off : Int} (tgt : Nat) (C : gC Z cc nL own Ts E) (hd : decode cc pc = .ok (.ifCond .lt off, 3)) (ht : (pc : Int) + off = (tgt : Int)) (kt : x < 0 → GW Z R nL E ad u sz lv cells slots tgt st) (kf : ¬ x < 0 → GW Z R nL E ad u sz lv cells slots (pc + 3) st) : GW Z R nL E ad u sz lv cells slots pc (.int x :: st) := fun H locs ls h1 h2 h3 h4 h5 => lv_if_lt C.1 C.2.1 hd ht (fun h => kt h H locs ls h1 h2 h3 h4 h5) (fun h => kf h H locs ls h1 h2 h3 h4 h5)
theorem g_icmp_lt {x y : Int32} {off : Int} (tgt : Nat) (C : gC Z cc nL own Ts E) (hd : decode cc pc = .ok (.if_icmp .lt off, 3)) (ht : (pc : Int) + off = (tgt : Int)) (kt : x < y → GW Z R nL E ad u sz lv cells slots tgt st) (kf : ¬ x < y → GW Z R nL E ad u sz lv cells slots (pc + 3) st) : GW Z R nL E ad u sz lv cells slots pc (.int y :: .int x :: st) := fun H locs ls h1 h2 h3 h4 h5 => lv_icmp_lt C.1 C.2.1 hd ht (fun h => kt h H locs ls h1 h2 h3 h4 h5) (fun h => kf h H locs ls h1 h2 h3 h4 h5)
theorem g_if_ge {x : Int32} {off : Int} (tgt : Nat) (C : gC Z cc nL own Ts E) (hd : decode cc pc = .ok (.ifCond .ge off, 3)) (ht : (pc : Int) + off = (tgt : Int)) (kt : 0 ≤ x → GW Z R nL E ad u sz lv cells slots tgt st) (kf : ¬ 0 ≤ x → GW Z R nL E ad u sz lv cells slots (pc + 3) st) : GW Z R nL E ad u sz lv cells slots pc (.int x :: st) := fun H locs ls h1 h2 h3 h4 h5 => lv_if_ge C.1 C.2.1 hd ht (fun h => kt h H locs ls h1 h2 h3 h4 h5) (fun h => kf h H locs ls h1 h2 h3 h4 h5)
theorem g_icmp_ge {x y : Int32} {off : Int} (tgt : Nat) (C : gC Z cc nL own Ts E) (hd : decode cc pc = .ok (.if_icmp .ge off, 3)) (ht : (pc : Int) + off = (tgt : Int)) (kt : y ≤ x → GW Z R nL E ad u sz lv cells slots tgt st) (kf : ¬ y ≤ x → GW Z R nL E ad u sz lv cells slots (pc + 3) st) : GW Z R nL E ad u sz lv cells slots pc (.int y :: .int x :: st) := fun H locs ls h1 h2 h3 h4 h5 => lv_icmp_ge C.1 C.2.1 hd ht (fun h => kt h H locs ls h1 h2 h3 h4 h5) (fun h => kf h H locs ls h1 h2 h3 h4 h5)
theorem g_if_gt {x : Int32} {off : Int} (tgt : Nat) (C : gC Z cc nL own Ts E) (hd : decode cc pc = .ok (.ifCond .gt off, 3)) (ht : (pc : Int) + off = (tgt : Int)) (kt : 0 < x → GW Z R nL E ad u sz lv cells slots tgt st) (kf : ¬ 0 < x → GW Z R nL E ad u sz lv cells slots (pc + 3) st) : GW Z R nL E ad u sz lv cells slots pc (.int x :: st) := fun H locs ls h1 h2 h3 h4 h5 => lv_if_gt C.1 C.2.1 hd ht (fun h => kt h H locs ls h1 h2 h3 h4 h5) (fun h => kf h H locs ls h1 h2 h3 h4 h5)
theorem g_icmp_gt {x y : Int32} {off : Int} (tgt : Nat) (C : gC Z cc nL own Ts E) (hd : decode cc pc = .ok (.if_icmp .gt off, 3)) (ht : (pc : Int) + off = (tgt : Int)) (kt : y < x → GW Z R nL E ad u sz lv cells slots tgt st) (kf : ¬ y < x → GW Z R nL E ad u sz lv cells slots (pc + 3) st) : GW Z R nL E ad u sz lv cells slots pc (.int y :: .int x :: st) := fun H locs ls h1 h2 h3 h4 h5 => lv_icmp_gt C.1 C.2.1 hd ht (fun h => kt h H locs ls h1 h2 h3 h4 h5) (fun h => kf h H locs ls h1 h2 h3 h4 h5)
theorem g_if_le {x : Int32} {off : Int} (tgt : Nat) (C : gC Z cc nL own Ts E) (hd : decode cc pc = .ok (.ifCond .le off, 3)) (ht : (pc : Int) + off = (tgt : Int)) (kt : x ≤ 0 → GW Z R nL E ad u sz lv cells slots tgt st) (kf : ¬ x ≤ 0 → GW Z R nL E ad u sz lv cells slots (pc + 3) st) : GW Z R nL E ad u sz lv cells slots pc (.int x :: st) := fun H locs ls h1 h2 h3 h4 h5 => lv_if_le C.1 C.2.1 hd ht (fun h => kt h H locs ls h1 h2 h3 h4 h5) (fun h => kf h H locs ls h1 h2 h3 h4 h5)
theorem g_icmp_le {x y : Int32} {off : Int} (tgt : Nat) (C : gC Z cc nL own Ts E) (hd : decode cc pc = .ok (.if_icmp .le off, 3)) (ht : (pc : Int) + off = (tgt : Int)) (kt : x ≤ y → GW Z R nL E ad u sz lv cells slots tgt st) (kf : ¬ x ≤ y → GW Z R nL E ad u sz lv cells slots (pc + 3) st) : GW Z R nL E ad u sz lv cells slots pc (.int y :: .int x :: st) := fun H locs ls h1 h2 h3 h4 h5 => lv_icmp_le C.1 C.2.1 hd ht (fun h => kt h H locs ls h1 h2 h3 h4 h5) (fun h => kf h H locs ls h1 h2 h3 h4 h5)
theorem g_goto {off : Int} (tgt : Nat) (C : gC Z cc nL own Ts E) (hd : decode cc pc = .ok (.goto off, 3)) (ht : (pc : Int) + off = (tgt : Int)) (k : GW Z R nL E ad u sz lv cells slots tgt st) : GW Z R nL E ad u sz lv cells slots pc st := fun H locs ls h1 h2 h3 h4 h5 => lv_goto C.1 C.2.1 hd ht (k H locs ls h1 h2 h3 h4 h5)
theorem g_ifnonnull {x : Nat} {off : Int} (tgt : Nat) (C : gC Z cc nL own Ts E) (hd : decode cc pc = .ok (.ifnonnull off, 3)) (ht : (pc : Int) + off = (tgt : Int)) (k : GW Z R nL E ad u sz lv cells slots tgt st) : GW Z R nL E ad u sz lv cells slots pc (.ref x :: st) := fun H locs ls h1 h2 h3 h4 h5 => lv_ifnonnull C.1 C.2.1 hd ht (k H locs ls h1 h2 h3 h4 h5)
theorem g_ifnonnullN {off : Int} (C : gC Z cc nL own Ts E) (hd : decode cc pc = .ok (.ifnonnull off, 3)) (k : GW Z R nL E ad u sz lv cells slots (pc + 3) st) : GW Z R nL E ad u sz lv cells slots pc (.null :: st) := fun H locs ls h1 h2 h3 h4 h5 => lv_ifnonnullN C.1 C.2.1 hd (k H locs ls h1 h2 h3 h4 h5)
theorem g_ifnull {x : Nat} {off : Int} (C : gC Z cc nL own Ts E) (hd : decode cc pc = .ok (.ifnull off, 3)) (k : GW Z R nL E ad u sz lv cells slots (pc + 3) st) : GW Z R nL E ad u sz lv cells slots pc (.ref x :: st) := fun H locs ls h1 h2 h3 h4 h5 => lv_ifnull C.1 C.2.1 hd (k H locs ls h1 h2 h3 h4 h5)
theorem g_ifnullN {off : Int} (tgt : Nat) (C : gC Z cc nL own Ts E) (hd : decode cc pc = .ok (.ifnull off, 3)) (ht : (pc : Int) + off = (tgt : Int)) (k : GW Z R nL E ad u sz lv cells slots tgt st) : GW Z R nL E ad u sz lv cells slots pc (.null :: st) := fun H locs ls h1 h2 h3 h4 h5 => lv_ifnullN C.1 C.2.1 hd ht (k H locs ls h1 h2 h3 h4 h5)
theorem g_ldc {index : Nat} {v : Int32} (C : gC Z cc nL own Ts E) (hw : Jvm.Cond.constant own index v ∈ Ts) (hd : decode cc pc = .ok (.ldc index, 2)) (k : GW Z R nL E ad u sz lv cells slots (pc + 2) (.int v :: st)) : GW Z R nL E ad u sz lv cells slots pc st := fun H locs ls h1 h2 h3 h4 h5 => lv_ldc C.1 C.2.1 C.2.2.2.1 (C.2.2.2.2.1 _ hw) hd (k H locs ls h1 h2 h3 h4 h5)
theorem g_ldc2 {index : Nat} {v : Int64} (C : gC Z cc nL own Ts E) (hw : Jvm.Cond.constantLong own index v ∈ Ts) (hd : decode cc pc = .ok (.ldc2_w index, 3)) (k : GW Z R nL E ad u sz lv cells slots (pc + 3) (.long v :: st)) : GW Z R nL E ad u sz lv cells slots pc st := fun H locs ls h1 h2 h3 h4 h5 => lv_ldc2 C.1 C.2.1 C.2.2.2.1 (C.2.2.2.2.1 _ hw) hd (k H locs ls h1 h2 h3 h4 h5)
theorem g_ldcw {index : Nat} {v : Int32} (C : gC Z cc nL own Ts E) (hw : Jvm.Cond.constant own index v ∈ Ts) (hd : decode cc pc = .ok (.ldc_w index, 3)) (k : GW Z R nL E ad u sz lv cells slots (pc + 3) (.int v :: st)) : GW Z R nL E ad u sz lv cells slots pc st := fun H locs ls h1 h2 h3 h4 h5 => lv_ldcw C.1 C.2.1 C.2.2.2.1 (C.2.2.2.2.1 _ hw) hd (k H locs ls h1 h2 h3 h4 h5)
theorem g_lookup {dflt : Int} {ps : Array (Int × Int)} {len : Nat} {x : Int32} {off : Int} (tgt : Nat) (C : gC Z cc nL own Ts E) (hd : decode cc pc = .ok (.lookupswitch dflt ps, len)) (hp : (ps.toList.zip (ps.toList.drop 1)).all (fun (a, next) => a.1 < next.1) = true) (ho : Op.lookupswitch.offset ps.toList dflt x.toInt = off) (ht : (pc : Int) + off = (tgt : Int)) (k : GW Z R nL E ad u sz lv cells slots tgt st) : GW Z R nL E ad u sz lv cells slots pc (.int x :: st) := fun H locs ls h1 h2 h3 h4 h5 => lv_lookup C.1 C.2.1 hd hp ho ht (k H locs ls h1 h2 h3 h4 h5)
theorem g_tableOut {dflt lo hi : Int} {offs : Array Int} {len : Nat} {x : Int32} (tgt : Nat) (C : gC Z cc nL own Ts E) (hd : decode cc pc = .ok (.tableswitch dflt lo hi offs, len)) (h : x.toInt < lo ∨ hi < x.toInt) (ht : (pc : Int) + dflt = (tgt : Int)) (k : GW Z R nL E ad u sz lv cells slots tgt st) : GW Z R nL E ad u sz lv cells slots pc (.int x :: st) := fun H locs ls h1 h2 h3 h4 h5 => lv_tableOut C.1 C.2.1 hd h ht (k H locs ls h1 h2 h3 h4 h5)
theorem g_tableIn {dflt lo hi : Int} {offs : Array Int} {len : Nat} {x : Int32} {off : Int} (tgt : Nat) (C : gC Z cc nL own Ts E) (hd : decode cc pc = .ok (.tableswitch dflt lo hi offs, len)) (h1 : ¬ x.toInt < lo) (h2 : ¬ hi < x.toInt) (ho : offs[(x.toInt - lo).toNat]? = some off) (ht : (pc : Int) + off = (tgt : Int)) (k : GW Z R nL E ad u sz lv cells slots tgt st) : GW Z R nL E ad u sz lv cells slots pc (.int x :: st) := fun H locs ls g1 g2 g3 g4 g5 => lv_tableIn C.1 C.2.1 hd h1 h2 ho ht (k H locs ls g1 g2 g3 g4 g5)
theorem g_topi {x : Int32} (k : ∀ y : Int32, y = x → GW Z R nL E ad u sz lv cells slots pc (.int y :: st)) : GW Z R nL E ad u sz lv cells slots pc (.int x :: st) := k x rfl
theorem g_topl {x : Int64} (k : ∀ y : Int64, y = x → GW Z R nL E ad u sz lv cells slots pc (.long y :: st)) : GW Z R nL E ad u sz lv cells slots pc (.long x :: st) := k x rfl
theorem g_widen {k n : Nat} (h1 : cells ≤ k) (h2 : slots ≤ n) (kk : GW Z R nL E ad u sz lv k n pc st) : GW Z R nL E ad u sz lv cells slots pc st := fun H locs ls g1 g2 g3 g4 g5 => W.widen h1 h2 (kk H locs ls g1 g2 g3 g4 g5)
theorem g_fewer {lv' : List (Nat × Value)} (ks : List Nat) (hl : lv_pick lv ks = lv') (k : GW Z R nL E ad u sz lv' cells slots pc st) : GW Z R nL E ad u sz lv cells slots pc st := fun H locs ls h1 h2 h3 h4 h5 => k H locs ls h1 h2 h3 h4 (lv_sub h5 ks hl)
end GR
end
section
theorem gP_one {E : gE} {ad : Nat → Nat} {u : gW} {H : Heap} {n : Nat} {e : va_E} (h : gP E ad u H) (he : u n = some e) : va_P E.1 E.2.1 [(ad n, e)] H := by
  intro k q hk
  have hz : k < 1 := (List.getElem?_eq_some_iff.mp hk).1
  rw [show k = 0 by omega] at hk
  cases hk
  exact h.1 n e he
theorem gP_set {E : gE} {ad : Nat → Nat} {u : gW} {H H1 : Heap} {n : Nat} {e0 e : va_E} (h : gP E ad u H) (hn : u n = some e0) (he : va_at E.1 E.2.1 (ad n, e) H1) (oq : ∀ q : Nat, q ≠ ad n → H1[q]? = H[q]?) : gP E ad (gup u n e) H1 := by
  have dom : ∀ k, gup u n e k ≠ none → u k ≠ none := by
    intro k hk
    by_cases hkn : k = n
    · subst hkn; rw [hn]; exact fun h => by cases h
    · rwa [gup_ne hkn] at hk
  refine ⟨fun k e' hk => ?_, fun a b ha hb hab => h.2 a b (dom a ha) (dom b hb) hab⟩
  by_cases hkn : k = n
  · subst hkn
    rw [gup_self] at hk
    cases hk
    exact he
  · rw [gup_ne hkn] at hk
    refine (h.1 k e' hk).kept (oq _ fun hq => hkn (h.2 k n (by rw [hk]; exact fun h => by cases h) (by rw [hn]; exact fun h => by cases h) hq))
theorem gI_set {A : Nat → Prop} {ad : Nat → Nat} {u : gW} {n : Nat} {e0 e : va_E} (h : gI A ad u) (hn : u n = some e0) : gI A ad (gup u n e) := by
  intro k hk
  by_cases hkn : k = n
  · subst hkn; exact h k (by rw [hn]; exact fun h => by cases h)
  · rw [gup_ne hkn] at hk; exact h k hk
theorem gI_at {A : Nat → Prop} {ad : Nat → Nat} {u : gW} {n : Nat} {e0 : va_E} (h : gI A ad u) (hn : u n = some e0) : A (ad n) := h n (by rw [hn]; exact fun h => by cases h)
theorem gP_new {E : gE} {ad : Nat → Nat} {u : gW} {H H1 : Heap} {n : Nat} {e : va_E} (h : gP E ad u H) (hn : u n = none) (ha : ad n = H.size) (he : va_at E.1 E.2.1 (ad n, e) H1) (oq : ∀ q : Nat, q < H.size → H1[q]? = H[q]?) : gP E ad (gup u n e) H1 := by
  have lt : ∀ k, u k ≠ none → ad k < H.size := by
    intro k hk
    cases hu : u k with
    | none => exact absurd hu hk
    | some e' => exact (h.1 k e' hu).lt
  refine ⟨fun k e' hk => ?_, fun a b h1 h2 hab => ?_⟩
  · by_cases hkn : k = n
    · subst hkn
      rw [gup_self] at hk
      cases hk
      exact he
    · rw [gup_ne hkn] at hk
      exact (h.1 k e' hk).kept (oq _ (h.1 k e' hk).lt)
  · by_cases ha1 : a = n
    · by_cases hb1 : b = n
      · rw [ha1, hb1]
      · rw [gup_ne hb1] at h2
        have := lt b h2
        subst ha1
        omega
    · rw [gup_ne ha1] at h1
      by_cases hb1 : b = n
      · have := lt a h1
        subst hb1
        omega
      · rw [gup_ne hb1] at h2
        exact h.2 a b h1 h2 hab
theorem gI_new {A : Nat → Prop} {ad : Nat → Nat} {u : gW} {n : Nat} {e : va_E} (h : gI A ad u) (hA : A (ad n)) : gI A ad (gup u n e) := by
  intro k hk
  by_cases hkn : k = n
  · subst hkn; exact hA
  · rw [gup_ne hkn] at hk; exact h k hk
section GH
variable {Z : gZ} {R : Room} {cc : ByteArray} {nL : Nat} {own : String} {Ts : List Cond} {E : gE} {ad : Nat → Nat} {u : gW} {sz : Nat} {lv : List (Nat × Value)} {cells slots pc : Nat} {st : List Value}
theorem g_get {ref C0 : String} {T : u_T} {N ci index : Nat} {fs : List Value} {v : Value} (n k : Nat) (C : gC Z cc nL own Ts E) (he : u n = some (.inr (ci, fs))) (hc : E.2.1[ci]? = some (C0, T, N)) (hin : ∀ w ∈ u_ws C0 T N, w ∈ Ts) (hk : k < N) (hlink : Cond.fieldLink own index ref (T k).2.1 (T k).2.2.1 ∈ Ts) (href : ref = (T k).1) (hv : fs[k]? = some v) (hd : decode cc pc = .ok (.getfield index, 3))
    (kk : GW Z R nL E ad u sz lv cells slots (pc + 3) (v :: st)) : GW Z R nL E ad u sz lv cells slots pc (.ref (ad n) :: st) := fun H locs ls h1 h2 h3 h4 h5 =>
  va_get C.1 C.2.1 C.2.2.2.2.1 hin C.2.2.2.1 C.2.2.2.2.2.1 (gP_one h2 he) 0 rfl hc k hk (C.2.2.2.2.1 _ hlink) (fun _ h9 => by rw [href]; exact h9) hv hd (kk H locs ls h1 h2 h3 h4 h5)
theorem g_put {ref C0 : String} {T : u_T} {N ci index : Nat} {fs : List Value} {v : Value} (n k : Nat) (C : gC Z cc nL own Ts E) (he : u n = some (.inr (ci, fs))) (hc : E.2.1[ci]? = some (C0, T, N)) (hin : ∀ w ∈ u_ws C0 T N, w ∈ Ts) (ty0 : Nat → FieldType) (hty : ∀ k, k < N → parseFieldDescriptor (T k).2.2.1 = some (ty0 k)) (hnm : ∀ a, a < N → ∀ b, b < N → a ≠ b → (T a).2.1 ≠ (T b).2.1) (hk : k < N) (hlink : Cond.fieldLink own index ref (T k).2.1 (T k).2.2.1 ∈ Ts) (href : ref = (T k).1) (hfin : (T k).2.2.2 = false) (hn : narrow (ty0 k) v = v) (hfit : fits (ty0 k) v = true) (hl : k < fs.length) (hd : decode cc pc = .ok (.putfield index, 3))
    (kk : GW Z R nL E ad (gup u n (.inr (ci, fs.set k v))) sz lv cells slots (pc + 3) st) : GW Z R nL E ad u sz lv cells slots pc (v :: .ref (ad n) :: st) := by
  intro H locs ls h1 h2 h3 h4 h5
  obtain ⟨hx, hb, hml, hown, hts, hK, hA, hlk⟩ := C
  have hap := va_apart (own := own) hts hin ty0 hty hnm hK hc
  obtain ⟨r, g1, cell, q1, q2, q3, q4⟩ := h2.1 n _ he
  have hr : r = (C0, T, N) := Option.some.inj (g1.symm.trans hc)
  subst hr
  obtain ⟨hS, hfc, kC, hkC, hkind⟩ := hK.1 ci _ hc
  obtain ⟨cf, kf, fi, f, hi, hsl⟩ := hS k hk
  have hlay := hts _ (hin _ (u_in_lay hk))
  unfold u_lay at hlay
  rw [if_neg (by rw [hfin]; decide)] at hlay
  have hst := (u_facts hfc hkC (u_lays hts hin hk) hi).1
  have h6 := u_store hfc hkC hkind hlay hi (hty k hk) hn hfit
  subst href
  refine W.putK hx hb (f := f) ⟨hown, hts _ hlink, ⟨_, _, _, hi⟩, hst⟩ (by rw [q2]; exact h6) q1 q3 (by rw [hsl]; exact k2_hasslot (q4 k hk)) rfl rfl hd fun H' e1 e2 e3 => ?_
  rw [hsl] at e1 ⊢
  exact kk H' _ ls (e2.trans h1) (gP_set h2 he ⟨_, hc, t_OB.to (V := updV (vp_V fs) k v) ⟨_, e1, q2, q3, t_set q4 hap hk v⟩ (fun j _ => vp_updV_set hl v j)⟩ e3) (gI_set h3 he) (h4.put e2 e3 (gI_at h3 he)) h5
theorem g_putF {ref C0 : String} {T : u_T} {N ci index : Nat} {fs : List Value} {v : Value} (n k : Nat) (C : gC Z cc nL own Ts E) (hini : (gme Z).name = "<init>") (he : u n = some (.inr (ci, fs))) (hc : E.2.1[ci]? = some (C0, T, N)) (hin : ∀ w ∈ u_ws C0 T N, w ∈ Ts) (ty0 : Nat → FieldType) (hty : ∀ k, k < N → parseFieldDescriptor (T k).2.2.1 = some (ty0 k)) (hnm : ∀ a, a < N → ∀ b, b < N → a ≠ b → (T a).2.1 ≠ (T b).2.1) (hk : k < N) (hlink : Cond.fieldLink own index ref (T k).2.1 (T k).2.2.1 ∈ Ts) (href : ref = (T k).1) (hfin : (T k).2.2.2 = true) (hdecl : (T k).1 = own) (hn : narrow (ty0 k) v = v) (hfit : fits (ty0 k) v = true) (hl : k < fs.length) (hd : decode cc pc = .ok (.putfield index, 3))
    (kk : GW Z R nL E ad (gup u n (.inr (ci, fs.set k v))) sz lv cells slots (pc + 3) st) : GW Z R nL E ad u sz lv cells slots pc (v :: .ref (ad n) :: st) := by
  intro H locs ls h1 h2 h3 h4 h5
  obtain ⟨hx, hb, hml, hown, hts, hK, hA, hlk⟩ := C
  have hap := va_apart (own := own) hts hin ty0 hty hnm hK hc
  obtain ⟨r, g1, cell, q1, q2, q3, q4⟩ := h2.1 n _ he
  have hr : r = (C0, T, N) := Option.some.inj (g1.symm.trans hc)
  subst hr
  obtain ⟨hS, hfc, kC, hkC, hkind⟩ := hK.1 ci _ hc
  obtain ⟨cf, kf, fi, f, hi, hsl⟩ := hS k hk
  have hlay := hts _ (hin _ (u_in_lay hk))
  unfold u_lay at hlay
  rw [if_pos hfin] at hlay
  have hst := (u_facts hfc hkC (u_lays hts hin hk) hi).1
  have hcf : (gm Z).cls = cf := by
    obtain ⟨_, _, c', _, _, _, -, -, hf', -, -, -, hown2, -⟩ := Cond.laysFinal_spec hlay
    have e1 : c' = cf := by have := hi.symm.trans hf'; simp at this; exact this.1.symm
    rw [hdecl] at hown2
    rw [← e1]; exact Option.some.inj (hown.symm.trans hown2)
  have h6 := u_fits hfc hkC hkind (Or.inr hlay) hi (hty k hk) hn hfit
  subst href
  refine W.putFinK hx hb hown (hts _ hlink) hi hst hcf hini (by rw [q2]; exact h6) q1 q3 (by rw [hsl]; exact k2_hasslot (q4 k hk)) rfl rfl hd fun H' e1 e2 e3 => ?_
  rw [hsl] at e1 ⊢
  exact kk H' _ ls (e2.trans h1) (gP_set h2 he ⟨_, hc, t_OB.to (V := updV (vp_V fs) k v) ⟨_, e1, q2, q3, t_set q4 hap hk v⟩ (fun j _ => vp_updV_set hl v j)⟩ e3) (gI_set h3 he) (h4.put e2 e3 (gI_at h3 he)) h5
theorem g_iald {cA : ClassId} {N : Nat} {f : Nat → Int32} {i : Int32} (n t0 : Nat) (C : gC Z cc nL own Ts E) (he : u n = some (.inl (cA, N, .inl f))) (ht : E.2.2[t0]? = some (cA, .int)) (hin : vp_in i N) (hd : decode cc pc = .ok (.iaload, 1))
    (kk : GW Z R nL E ad u sz lv cells slots (pc + 1) (.int (f i.toNatClampNeg) :: st)) : GW Z R nL E ad u sz lv cells slots pc (.int i :: .ref (ad n) :: st) := fun H locs ls h1 h2 h3 h4 h5 =>
  va_iald C.1 C.2.1 C.2.2.2.2.2.1 (gP_one h2 he) 0 t0 rfl ht hin hd (kk H locs ls h1 h2 h3 h4 h5)
theorem g_zald {cA : ClassId} {N : Nat} {f : Nat → Int32} {i : Int32} (n t0 : Nat) (C : gC Z cc nL own Ts E) (he : u n = some (.inl (cA, N, .inl f))) (ht : E.2.2[t0]? = some (cA, .boolean)) (hin : vp_in i N) (hd : decode cc pc = .ok (.baload, 1))
    (kk : GW Z R nL E ad u sz lv cells slots (pc + 1) (.int (f i.toNatClampNeg) :: st)) : GW Z R nL E ad u sz lv cells slots pc (.int i :: .ref (ad n) :: st) := fun H locs ls h1 h2 h3 h4 h5 =>
  va_zald C.1 C.2.1 C.2.2.2.2.2.1 (gP_one h2 he) 0 t0 rfl ht hin hd (kk H locs ls h1 h2 h3 h4 h5)
theorem g_lald {cA : ClassId} {N : Nat} {f : Nat → Int64} {i : Int32} (n t0 : Nat) (C : gC Z cc nL own Ts E) (he : u n = some (.inl (cA, N, .inr (.inl f)))) (ht : E.2.2[t0]? = some (cA, .long)) (hin : vp_in i N) (hd : decode cc pc = .ok (.laload, 1))
    (kk : GW Z R nL E ad u sz lv cells slots (pc + 1) (.long (f i.toNatClampNeg) :: st)) : GW Z R nL E ad u sz lv cells slots pc (.int i :: .ref (ad n) :: st) := fun H locs ls h1 h2 h3 h4 h5 =>
  va_lald C.1 C.2.1 C.2.2.2.2.2.1 (gP_one h2 he) 0 t0 rfl ht hin hd (kk H locs ls h1 h2 h3 h4 h5)
theorem g_aald {C0 : String} {cA : ClassId} {N : Nat} {f : Nat → Option Nat} {i : Int32} (n t0 : Nat) (C : gC Z cc nL own Ts E) (he : u n = some (.inl (cA, N, .inr (.inr (.inr (.inr f)))))) (ht : E.2.2[t0]? = some (cA, .object C0)) (hin : vp_in i N) (r : Option Nat) (hr : f i.toNatClampNeg = r) (hd : decode cc pc = .ok (.aaload, 1))
    (kk : GW Z R nL E ad u sz lv cells slots (pc + 1) (va_rf r :: st)) : GW Z R nL E ad u sz lv cells slots pc (.int i :: .ref (ad n) :: st) := fun H locs ls h1 h2 h3 h4 h5 =>
  va_aldq C.1 C.2.1 C.2.2.2.2.2.1 (gP_one h2 he) 0 t0 rfl ht hin hd (by rw [hr]; exact kk H locs ls h1 h2 h3 h4 h5)
theorem g_alen {cA : ClassId} {x : vp_A} {ty : FieldType} (n t0 : Nat) (v : Int32) (C : gC Z cc nL own Ts E) (he : u n = some (.inl (cA, x))) (ht : E.2.2[t0]? = some (cA, ty)) (hv : Int32.ofNat x.1 = v) (hd : decode cc pc = .ok (.arraylength, 1))
    (kk : GW Z R nL E ad u sz lv cells slots (pc + 1) (.int v :: st)) : GW Z R nL E ad u sz lv cells slots pc (.ref (ad n) :: st) := fun H locs ls h1 h2 h3 h4 h5 =>
  va_alen C.1 C.2.1 C.2.2.2.2.2.1 (gP_one h2 he) 0 t0 rfl ht hv hd (kk H locs ls h1 h2 h3 h4 h5)
theorem g_iast {cA : ClassId} {N : Nat} {f : Nat → Int32} {i x : Int32} (n t0 : Nat) (C : gC Z cc nL own Ts E) (he : u n = some (.inl (cA, N, .inl f))) (ht : E.2.2[t0]? = some (cA, .int)) (hin : vp_in i N) (hd : decode cc pc = .ok (.iastore, 1))
    (kk : GW Z R nL E ad (gup u n (.inl (cA, N, .inl (upd f i.toNatClampNeg x)))) sz lv cells slots (pc + 1) st) : GW Z R nL E ad u sz lv cells slots pc (.int x :: .int i :: .ref (ad n) :: st) := by
  intro H locs ls h1 h2 h3 h4 h5
  refine W.iast C.1 C.2.1 (h2.1 n _ he) ((C.2.2.2.2.2.1.2 t0 _ ht).1 N (fun j => .int (f j))) (fun q => by cases q) (by show ¬ (i < 0 ∨ (arrV _ _ _).slots.size ≤ _); rw [arrV_size]; exact hin) rfl rfl hd fun H1 e z oq => ?_
  refine kk H1 _ ls (z.trans h1) (gP_set h2 he ?_ oq) (gI_set h3 he) (h4.put z oq (gI_at h3 he)) h5
  show H1[ad n]? = some (vp_cell _ _)
  rw [e]
  rw [vp_cell_i, vp_cell_i, arrV_store]
  congr 2
  funext q
  by_cases hq : q = i.toNatClampNeg
  · subst hq
    simp [updV, upd]
  · simp [updV, upd, hq]
theorem g_zast {cA : ClassId} {N : Nat} {f : Nat → Int32} {i x : Int32} (n t0 : Nat) (C : gC Z cc nL own Ts E) (he : u n = some (.inl (cA, N, .inl f))) (ht : E.2.2[t0]? = some (cA, .boolean)) (hin : vp_in i N) (hd : decode cc pc = .ok (.bastore, 1))
    (kk : GW Z R nL E ad (gup u n (.inl (cA, N, .inl (upd f i.toNatClampNeg (vp_nar .boolean x))))) sz lv cells slots (pc + 1) st) : GW Z R nL E ad u sz lv cells slots pc (.int x :: .int i :: .ref (ad n) :: st) := by
  intro H locs ls h1 h2 h3 h4 h5
  refine W.zast C.1 C.2.1 (h2.1 n _ he) ((C.2.2.2.2.2.1.2 t0 _ ht).1 N (fun j => .int (f j))) (fun q => by cases q) (by show ¬ (i < 0 ∨ (arrV _ _ _).slots.size ≤ _); rw [arrV_size]; exact hin) rfl rfl hd fun H1 e z oq => ?_
  refine kk H1 _ ls (z.trans h1) (gP_set h2 he ?_ oq) (gI_set h3 he) (h4.put z oq (gI_at h3 he)) h5
  show H1[ad n]? = some (vp_cell _ _)
  rw [e]
  rw [vp_cell_i, vp_cell_i, arrV_store]
  congr 2
  funext q
  by_cases hq : q = i.toNatClampNeg
  · subst hq
    simp [updV, upd, vp_nar]
    try rfl
  · simp [updV, upd, hq]
theorem g_last {cA : ClassId} {N : Nat} {f : Nat → Int64} {i : Int32} {x : Int64} (n t0 : Nat) (C : gC Z cc nL own Ts E) (he : u n = some (.inl (cA, N, .inr (.inl f)))) (ht : E.2.2[t0]? = some (cA, .long)) (hin : vp_in i N) (hd : decode cc pc = .ok (.lastore, 1))
    (kk : GW Z R nL E ad (gup u n (.inl (cA, N, .inr (.inl (vp_updL f i.toNatClampNeg x))))) sz lv cells slots (pc + 1) st) : GW Z R nL E ad u sz lv cells slots pc (.long x :: .int i :: .ref (ad n) :: st) := by
  intro H locs ls h1 h2 h3 h4 h5
  refine W.last C.1 C.2.1 (h2.1 n _ he) ((C.2.2.2.2.2.1.2 t0 _ ht).1 N (fun j => .long (f j))) (fun q => by cases q) (by show ¬ (i < 0 ∨ (arrV _ _ _).slots.size ≤ _); rw [arrV_size]; exact hin) rfl rfl hd fun H1 e z oq => ?_
  refine kk H1 _ ls (z.trans h1) (gP_set h2 he ?_ oq) (gI_set h3 he) (h4.put z oq (gI_at h3 he)) h5
  show H1[ad n]? = some (vp_cell _ _)
  rw [e]
  rw [vp_cell_l, vp_cell_l, arrV_store]
  congr 2
  funext q
  by_cases hq : q = i.toNatClampNeg
  · subst hq
    simp [updV, vp_updL]
  · simp [updV, vp_updL, hq]
theorem g_aast {cA : ClassId} {r : vw_C} {N ci : Nat} {f : Nat → Option Nat} {vs : List Value} {i : Int32} (n k t0 : Nat) (C : gC Z cc nL own Ts E) (he : u n = some (.inl (cA, N, .inr (.inr (.inr (.inr f)))))) (ht : E.2.2[t0]? = some (cA, .object r.1)) (hv : u k = some (.inr (ci, vs))) (hc : E.2.1[ci]? = some r) (hin : vp_in i N) (hd : decode cc pc = .ok (.aastore, 1))
    (kk : GW Z R nL E ad (gup u n (.inl (cA, N, .inr (.inr (.inr (.inr (va_up f i.toNatClampNeg (some (ad k))))))))) sz lv cells slots (pc + 1) st) : GW Z R nL E ad u sz lv cells slots pc (.ref (ad k) :: .int i :: .ref (ad n) :: st) := by
  intro H locs ls h1 h2 h3 h4 h5
  obtain ⟨hx, hb, hml, hown, hts, hK, hA, hlk⟩ := C
  have hlt : i.toNatClampNeg < N := Nat.not_le.mp fun q => hin (Or.inr q)
  have h0 : ¬ i < 0 := fun q => hin (Or.inl q)
  obtain ⟨r', hr', cellV, g1, g2, g3, -⟩ := h2.1 k _ hv
  have hcls := (hK.1 ci r hc).2
  obtain ⟨kA, comp, k1, k2, k3, -⟩ := (hK.2 t0 _ ht).2
  have hcomp : comp = E.1.1 ci := Option.some.inj (k3.symm.trans hcls.1)
  subst hcomp
  obtain ⟨kC, hkC, -⟩ := hcls.2
  refine W.aast hx hb (h2.1 n _ he) (fun q h => by cases h) (fun h => by cases h) k1 k2 rfl hkC ⟨h0, by show _ < (arrV _ _ _).slots.size; rw [arrV_size]; exact hlt⟩ g1 (fun q h => by rw [g3] at h; cases h) (by rw [g2]; exact hkC) (by rw [g2]; exact va_assign hcls) rfl rfl hd fun H1 e z oq => ?_
  refine kk H1 _ ls (z.trans h1) (gP_set h2 he ?_ oq) (gI_set h3 he) (h4.put z oq (gI_at h3 he)) h5
  show H1[ad n]? = some (vp_cell _ _)
  rw [e]
  rw [vp_cell_q, vp_cell_q, arrV_store]
  congr 2
  funext q
  by_cases hq : q = i.toNatClampNeg
  · subst hq
    simp [updV, va_up, va_rf]
  · simp [updV, va_up, hq]
theorem g_new {C0 : String} {T : u_T} {N ci index : Nat} {fs : List Value} (n : Nat) (C : gC Z cc nL own Ts E) (hn : u n = none) (ha : ad n = sz) (hc : E.2.1[ci]? = some (C0, T, N)) (hin : ∀ w ∈ u_ws C0 T N, w ∈ Ts) (ty0 : Nat → FieldType) (hty : ∀ k, k < N → parseFieldDescriptor (T k).2.2.1 = some (ty0 k)) (hcl : Cond.classLink own index C0 ∈ Ts) (hinst : Cond.instantiable C0 N ∈ Ts) (hini : Cond.initialized C0 ∈ Ts) (hfs : ∀ j, j < N → defaultValue (ty0 j) = vp_V fs j) (hcells : cells + 1 ≤ R.cells) (hslots : slots + N ≤ R.slots) (hd : decode cc pc = .ok (.new index, 3))
    (kk : GW Z R nL E ad (gup u n (.inr (ci, fs))) (sz + 1) lv (cells + 1) (slots + N) (pc + 3) (.ref (ad n) :: st)) : GW Z R nL E ad u sz lv cells slots pc st := by
  intro H locs ls h1 h2 h3 h4 h5
  obtain ⟨hx, hb, hml, hown, hts, hK, hA, hlk⟩ := C
  have hKn := hK.1 ci _ hc
  have hsz : ad n = H.size := ha.trans h1.symm
  refine W.newcK hx hb hown (hts _ hcl) (hts _ hinst) (hts _ hini) rfl hd hcells hslots hKn.2.1 rfl fun H1 kC hkC e1 z1 o1 => ?_
  have K := kk H1 locs ls (by rw [z1, h1]) (gP_new h2 hn hsz (show va_at E.1 E.2.1 (ad n, .inr (ci, fs)) H1 by
    rw [hsz]
    exact ⟨_, hc, (u_born ty0 hts hin hKn hkC e1 hty).to hfs⟩) o1) (gI_new h3 (hA _ (by rw [hsz]; exact h4.1)))
    ⟨Nat.le_trans h4.1 (by omega), fun x g1 g2 => (o1 x (Nat.lt_of_lt_of_le g1 h4.1)).trans (h4.2.1 x g1 g2), h4.2.2⟩ h5
  rw [hsz] at K
  exact K
theorem g_newa {atype : ArrayType} {ty : FieldType} {i : Int32} {N : Nat} {cA : ClassId} {a0 : vp_A} (n t0 : Nat) (C : gC Z cc nL own Ts E) (hn : u n = none) (ha : ad n = sz) (harr : Cond.arrayClass (newarray.typeOf atype) ∈ Ts) (hty : newarray.typeOf atype = ty) (ht : E.2.2[t0]? = some (cA, ty)) (hcell : ∀ cA : ClassId, vp_cell cA a0 = arrV cA N (fun _ => defaultValue ty)) (hi : ¬ i < 0) (hN : i.toNatClampNeg = N) (hbytes : N * componentBytes ty ≤ 536870912) (hcells : cells + 1 ≤ R.cells) (hslots : slots + N ≤ R.slots) (hd : decode cc pc = .ok (.newarray atype, 2))
    (kk : GW Z R nL E ad (gup u n (.inl (cA, a0))) (sz + 1) lv (cells + 1) (slots + N) (pc + 2) (.ref (ad n) :: st)) : GW Z R nL E ad u sz lv cells slots pc (.int i :: st) := by
  intro H locs ls h1 h2 h3 h4 h5
  obtain ⟨hx, hb, hml, hown, hts, hK, hA, hlk⟩ := C
  have hsz : ad n = H.size := ha.trans h1.symm
  subst hty
  refine va_newaK hx hb (hts _ harr) rfl hd rfl hi hN hbytes hcells hslots rfl fun H1 cA' e1 z1 o1 hAr hNm => ?_
  have hsame : cA' = cA := by
    have h9 := (hK.2 t0 _ ht).2
    have h8 : (gs Z).vm.findClass ("[" ++ (newarray.typeOf atype).toString) = some cA := by
      cases atype <;> exact h9
    exact Option.some.inj (hNm.symm.trans h8)
  subst hsame
  have K := kk H1 locs ls (by rw [z1, h1]) (gP_new h2 hn hsz (show va_at E.1 E.2.1 (ad n, .inl (cA', a0)) H1 by
    rw [hsz]
    show H1[H.size]? = some (vp_cell _ _)
    rw [hcell]; exact e1) o1) (gI_new h3 (hA _ (by rw [hsz]; exact h4.1)))
    ⟨Nat.le_trans h4.1 (by omega), fun x g1 g2 => (o1 x (Nat.lt_of_lt_of_le g1 h4.1)).trans (h4.2.1 x g1 g2), h4.2.2⟩ h5
  rw [hsz] at K
  exact K
theorem g_objInit {idx n : Nat} (C : gC Z cc nL own Ts E) (hlink : Cond.methodLink own idx Lib.objectInit ∈ Ts) (hinst : Cond.instanceMethod Lib.objectInit ∈ Ts) (hcode : Cond.code Lib.objectInit ⟨#[0xb1]⟩ 1 none ∈ Ts) (hd : decode cc pc = .ok (.invokespecial idx, 3)) (hf : 1 ≤ R.frames) (hlo : (st.map fun v => v.category).sum + 12 ≤ R.locals)
    (kk : GW Z R nL E ad u sz lv cells slots (pc + 3) st) : GW Z R nL E ad u sz lv cells slots pc (.ref n :: st) := by
  intro H locs ls h1 h2 h3 h4 h5
  refine W.objInit C.1 C.2.1 C.2.2.2.1 (C.2.2.2.2.1 _ hlink) (C.2.2.2.2.1 _ hinst) (C.2.2.2.2.1 _ hcode) rfl (by rw [C.2.2.1]; exact h5.1) rfl hd hf ?_ ?_
  · simpa [JFrame.monitorRoom] using hlo
  · exact kk H locs ls h1 h2 h3 h4 h5
theorem g_iret {v : Int32} {Post : Option Value → gW → Nat → Prop} (C : gC Z cc nL own Ts E) (r : gR Z E ad cells slots Post) (hr : (gme Z).sig.returnType = some .int) (hp : Post (some (.int v)) u sz) (hd : decode cc pc = .ok (.ireturn, 1)) : GW Z R nL E ad u sz lv cells slots pc [.int v] := by
  intro H locs ls h1 h2 h3 h4 h5
  rw [r.1]
  exact W.iret C.1 C.2.1 hr (fun t ht hW => ⟨_, u, sz, rfl, hp, by rw [ht]; exact h1, by rw [ht]; exact h2, h3, va_K.moved hW.alike C.2.2.2.2.2.1, by have h := h4; rw [r.2] at h; exact h.F ht⟩) h4.2.2 hd C.2.2.2.2.2.2.2.1
theorem g_zret {v : Int32} {Post : Option Value → gW → Nat → Prop} (C : gC Z cc nL own Ts E) (r : gR Z E ad cells slots Post) (hr : (gme Z).sig.returnType = some .boolean) (hn : narrow .boolean (.int v) = .int v) (hp : Post (some (.int v)) u sz) (hd : decode cc pc = .ok (.ireturn, 1)) : GW Z R nL E ad u sz lv cells slots pc [.int v] := by
  intro H locs ls h1 h2 h3 h4 h5
  rw [r.1]
  exact W.zret C.1 C.2.1 hr hn (fun t ht hW => ⟨_, u, sz, rfl, hp, by rw [ht]; exact h1, by rw [ht]; exact h2, h3, va_K.moved hW.alike C.2.2.2.2.2.1, by have h := h4; rw [r.2] at h; exact h.F ht⟩) h4.2.2 hd C.2.2.2.2.2.2.2.1
theorem g_lret {v : Int64} {Post : Option Value → gW → Nat → Prop} (C : gC Z cc nL own Ts E) (r : gR Z E ad cells slots Post) (hr : (gme Z).sig.returnType = some .long) (hp : Post (some (.long v)) u sz) (hd : decode cc pc = .ok (.lreturn, 1)) : GW Z R nL E ad u sz lv cells slots pc [.long v] := by
  intro H locs ls h1 h2 h3 h4 h5
  rw [r.1]
  exact W.lret C.1 C.2.1 hr (fun t ht hW => ⟨_, u, sz, rfl, hp, by rw [ht]; exact h1, by rw [ht]; exact h2, h3, va_K.moved hW.alike C.2.2.2.2.2.1, by have h := h4; rw [r.2] at h; exact h.F ht⟩) h4.2.2 hd C.2.2.2.2.2.2.2.1
theorem g_vret {Post : Option Value → gW → Nat → Prop} (C : gC Z cc nL own Ts E) (r : gR Z E ad cells slots Post) (hr : (gme Z).sig.returnType = none) (hp : Post none u sz) (hd : decode cc pc = .ok (.return_, 1)) : GW Z R nL E ad u sz lv cells slots pc [] := by
  intro H locs ls h1 h2 h3 h4 h5
  rw [r.1]
  exact W.vret C.1 C.2.1 hr (fun t ht hW => ⟨_, u, sz, rfl, hp, by rw [ht]; exact h1, by rw [ht]; exact h2, h3, va_K.moved hW.alike C.2.2.2.2.2.1, by have h := h4; rw [r.2] at h; exact h.F ht⟩) h4.2.2 hd C.2.2.2.2.2.2.2.1
theorem g_aret {v : Value} {rt : FieldType} {Post : Option Value → gW → Nat → Prop} (C : gC Z cc nL own Ts E) (r : gR Z E ad cells slots Post) (hr : (gme Z).sig.returnType = some rt) (hrt : (∃ n, rt = .object n) ∨ ∃ t, rt = .array t) (hv : v = .null ∨ ∃ a, v = .ref a) (hp : Post (some v) u sz) (hd : decode cc pc = .ok (.areturn, 1)) : GW Z R nL E ad u sz lv cells slots pc [v] := by
  intro H locs ls h1 h2 h3 h4 h5
  rw [r.1]
  exact W.aret C.1 C.2.1 hr hrt hv (fun t ht hW => ⟨_, u, sz, rfl, hp, by rw [ht]; exact h1, by rw [ht]; exact h2, h3, va_K.moved hW.alike C.2.2.2.2.2.1, by have h := h4; rw [r.2] at h; exact h.F ht⟩) h4.2.2 hd C.2.2.2.2.2.2.2.1
end GH
end
section
theorem gGood {ws : List Cond} (h : ∀ w ∈ ws, w ∈ gT) : GoodIn gT ws := fun w hw => gT_good w (h w hw)
theorem gGoodC {c : Cond} (h : c ∈ gT) : GoodIn gT (c :: gT) := gGood fun w hw => (List.mem_cons.mp hw).elim (fun e => e ▸ h) id
theorem gGoodV {own C : String} {index : Nat} {y : MethodName} {c : Cond} (hl : Cond.methodLink own index y ∈ gT) (hin : Cond.instanceMethod y ∈ gT) (hsel : Cond.selects C y y ∈ gT) (hini : Cond.initialized C ∈ gT) (hc : c ∈ gT) : GoodIn gT (wsV own index C y (c :: gT)) := gGood fun w hw => by
  rcases List.mem_append.mp hw with h | h
  · simp only [List.mem_cons, List.not_mem_nil, or_false] at h
    rcases h with rfl | rfl | rfl | rfl <;> assumption
  · exact (List.mem_cons.mp h).elim (fun e => e ▸ hc) id
theorem gGoodS {own : String} {index : Nat} {y : MethodName} {c : Cond} (hl : Cond.methodLink own index y ∈ gT) (hin : Cond.static y ∈ gT) (hini : Cond.initialized y.cls ∈ gT) (hc : c ∈ gT) : GoodIn gT (va_wsS own index y (c :: gT)) := gGood fun w hw => by
  rcases List.mem_append.mp hw with h | h
  · simp only [List.mem_cons, List.not_mem_nil, or_false] at h
    rcases h with rfl | rfl | rfl <;> assumption
  · exact (List.mem_cons.mp h).elim (fun e => e ▸ hc) id
theorem gAd_in {A : Nat → Prop} {ad : Nat → Nat} {u : gW} {sz b : Nat} (h3 : gI A ad u) (hA : ∀ q : Nat, b ≤ q → A q) (hsz : b ≤ sz) : ∀ q, gAd ad u sz q → A q := by
  rintro q (⟨n, hn, rfl⟩ | h)
  · exact h3 n hn
  · exact hA q (Nat.le_trans hsz h)
theorem gBlind {E : gE} {ad : Nat → Nat} {u : gW} {sz : Nat} {av : List Value} : FrameBlind (va_Pc av (gPre E ad u sz)) := fun a U g mk q => by
  obtain ⟨q0, q1, q2, q3, q4⟩ := q
  exact ⟨q0, q1, q2, va_K.moved (u := U) (U := U.calling g mk a) (Vm.Alike.refl U.vm) q3, q4.same (s := U) (U := U.calling g mk a) rfl⟩
section GCALL
variable {Z : gZ} {R : Room} {cc : ByteArray} {nL : Nat} {own : String} {E : gE} {ad : Nat → Nat} {u : gW} {sz : Nat} {lv : List (Nat × Value)} {cells slots pc : Nat} {st : List Value}
theorem g_run {mc ms : Nat} {rest : List Value} {a : Array Value} {Post : Option Value → gW → Nat → Prop} (C : gC Z cc nL own gT E)
    (hr : ∀ (H : Heap) (locs : List Loc) (ls : Array Slot), H.size = sz → gP E ad u H → lv_has ls nL lv → va_Run (gp Z) (gl Z) (ge Z) R (gs Z) (gm Z) (ga Z) (gb Z) (gme Z) (gc Z) H locs cells slots mc ms (F0 (gm Z) pc ls st) rest (gPost E ad (gAd ad u sz) Post a) (gAd ad u sz))
    (k : ∀ (v : Option Value) (u' : gW) (sz' : Nat), Post v u' sz' → GW Z R nL E ad u' sz' lv (cells + mc) (slots + ms) (pc + 3) (v.toList ++ rest)) : GW Z R nL E ad u sz lv cells slots pc st := by
  intro H locs ls h1 h2 h3 h4 h5 T hT X
  obtain ⟨v, st₀, t, T', L, h0, X', hL, e1, e2, ⟨v', u', sz', hv, hp, hs', hP', hI', hK', hz, hk⟩, go⟩ := hr H locs ls h1 h2 h5 T hT X
  cases hv
  rw [h0] at hz hk
  have hin := gAd_in h3 C.2.2.2.2.2.2.1 (sz := sz) (by rw [← h1]; exact h4.1)
  obtain ⟨t2, a1, b1⟩ := k v u' sz' hp T'.heap (locs ++ L) ls (by rw [e1]; exact hs') (by rw [e1]; exact hP') (fun n hn => hin _ (hI' n hn))
    ⟨Nat.le_trans h4.1 (by rw [e1]; exact hz), fun q g1 g2 => by rw [e1, hk q (Nat.lt_of_lt_of_le g1 h4.1) (fun z => g2 (hin q z))]; exact h4.2.1 q g1 g2, fun q hq => by
      rcases List.mem_append.mp hq with h | h
      · exact h4.2.2 q h
      · exact hin _ (hL q h)⟩ h5 T' rfl X'
  exact ⟨t2, go t2 a1, b1⟩
theorem g_callV {y : MethodName} {bytes : ByteArray} {maxL index ci b N : Nat} {T : u_T} {ret : Option FieldType} {rm : Room} {As rest fs : List Value} {Post : Option Value → gW → Nat → Prop} (n : Nat) (C : gC Z cc nL own gT E)
    (hM : gMet (gl Z) E y bytes maxL ret rm (.ref (ad b) :: As) ad u sz Post) (hl : Cond.methodLink own index y ∈ gT) (hin : Cond.instanceMethod y ∈ gT) (hsel : Cond.selects y.cls y y ∈ gT) (hini : Cond.initialized y.cls ∈ gT) (hcode : Cond.code y bytes maxL ret ∈ gT)
    (hdd : y.cls ≠ "java/lang/invoke/MethodHandle" ∧ y.cls ≠ "java/lang/invoke/VarHandle" ∧ (parseMethodDescriptor y.desc).map (fun d => d.parameters.length) = some n) (hR : rm.frames + 1 ≤ R.frames ∧ 8 + (maxL + 11) + rm.locals ≤ R.locals)
    (hb : u b = some (.inr (ci, fs))) (hc : E.2.1[ci]? = some (y.cls, T, N)) (hn : As.length = n) (hst : st = As.reverse ++ .ref (ad b) :: rest) (hlo : (rest.map fun v => v.category).sum ≤ 8) (hd : decode cc pc = .ok (.invokevirtual index, 3)) (hf : cells + rm.cells ≤ R.cells ∧ slots + rm.slots ≤ R.slots)
    (k : ∀ (v : Option Value) (u' : gW) (sz' : Nat), Post v u' sz' → GW Z R nL E ad u' sz' lv (cells + rm.cells) (slots + rm.slots) (pc + 3) (v.toList ++ rest)) : GW Z R nL E ad u sz lv cells slots pc st :=
  g_run (a := (Value.ref (ad b) :: As).toArray) C (fun H locs ls h1 h2 h5 => va_runV (C := y.cls) (As := As) (rest := rest) (b := ad b) ⟨C.1, C.2.1, C.2.2.1, C.2.2.2.1, C.2.2.2.2.1⟩ hM
    (cwV n C.2.2.2.2.1 (gGoodV hl hin hsel hini hcode) rfl rfl rfl ⟨rfl, hdd⟩ hR) ⟨gBlind, va_recv C.2.2.2.2.2.1 (gP_one h2 hb) (q0 := 0) hc rfl, fun U hU hW => ⟨rfl, by rw [hU]; exact h1, by rw [hU]; exact h2, va_K.moved hW.alike C.2.2.2.2.2.1, C.2.2.2.2.2.2.2.2.warm hW⟩⟩ rfl hn h5.1 hst (lv_room hlo) hd hf) k
theorem g_callS {y : MethodName} {bytes : ByteArray} {maxL index : Nat} {ret : Option FieldType} {rm : Room} {As rest : List Value} {Post : Option Value → gW → Nat → Prop} (n : Nat) (C : gC Z cc nL own gT E)
    (hM : gMet (gl Z) E y bytes maxL ret rm As ad u sz Post) (hl : Cond.methodLink own index y ∈ gT) (hin : Cond.static y ∈ gT) (hini : Cond.initialized y.cls ∈ gT) (hcode : Cond.code y bytes maxL ret ∈ gT)
    (hdd : y.cls ≠ "java/lang/invoke/MethodHandle" ∧ y.cls ≠ "java/lang/invoke/VarHandle" ∧ (parseMethodDescriptor y.desc).map (fun d => d.parameters.length) = some n) (hR : rm.frames + 1 ≤ R.frames ∧ 8 + (maxL + 11) + rm.locals ≤ R.locals)
    (hn : As.length = n) (hst : st = As.reverse ++ rest) (hlo : (rest.map fun v => v.category).sum ≤ 8) (hd : decode cc pc = .ok (.invokestatic index, 3)) (hf : cells + rm.cells ≤ R.cells ∧ slots + rm.slots ≤ R.slots)
    (k : ∀ (v : Option Value) (u' : gW) (sz' : Nat), Post v u' sz' → GW Z R nL E ad u' sz' lv (cells + rm.cells) (slots + rm.slots) (pc + 3) (v.toList ++ rest)) : GW Z R nL E ad u sz lv cells slots pc st :=
  g_run (a := As.toArray) C (fun H locs ls h1 h2 h5 => va_runS (As := As) (rest := rest) ⟨C.1, C.2.1, C.2.2.1, C.2.2.2.1, C.2.2.2.2.1⟩ hM
    (va_cwS n C.2.2.2.2.1 (gGoodS hl hin hini hcode) rfl rfl rfl hdd hR) ⟨gBlind, fun U hU hW => ⟨rfl, by rw [hU]; exact h1, by rw [hU]; exact h2, va_K.moved hW.alike C.2.2.2.2.2.1, C.2.2.2.2.2.2.2.2.warm hW⟩⟩ rfl hn h5.1 hst (lv_room hlo) hd hf) k
theorem g_callI {y : MethodName} {bytes : ByteArray} {maxL index b : Nat} {rm : Room} {As rest : List Value} {Post : Option Value → gW → Nat → Prop} (n : Nat) (C : gC Z cc nL own gT E)
    (hM : gMet (gl Z) E y bytes maxL none rm (.ref (ad b) :: As) ad u sz Post) (hcode : Cond.code y bytes maxL none ∈ gT) (hini : Cond.initialized y.cls ∈ gT) (hl : Cond.methodLink own index y ∈ gT) (hin : Cond.instanceMethod y ∈ gT) (hy : y.name = "<init>")
    (hdd : y.cls ≠ "java/lang/invoke/MethodHandle" ∧ y.cls ≠ "java/lang/invoke/VarHandle" ∧ (parseMethodDescriptor y.desc).map (fun d => d.parameters.length) = some n) (hR : rm.frames + 1 ≤ R.frames ∧ 8 + (maxL + 11) + rm.locals ≤ R.locals)
    (hn : As.length = n) (hst : st = As.reverse ++ .ref (ad b) :: rest) (hlo : (rest.map fun v => v.category).sum ≤ 8) (hd : decode cc pc = .ok (.invokespecial index, 3)) (hf : cells + rm.cells ≤ R.cells ∧ slots + rm.slots ≤ R.slots)
    (k : ∀ (v : Option Value) (u' : gW) (sz' : Nat), Post v u' sz' → GW Z R nL E ad u' sz' lv (cells + rm.cells) (slots + rm.slots) (pc + 3) (v.toList ++ rest)) : GW Z R nL E ad u sz lv cells slots pc st :=
  g_run (a := (Value.ref (ad b) :: As).toArray) C (fun H locs ls h1 h2 h5 => va_runI (As := As) (rest := rest) (b := ad b) ⟨C.1, C.2.1, C.2.2.1, C.2.2.2.1, C.2.2.2.2.1⟩ hM
    (cwI n C.2.2.2.2.1 (gGoodC hcode) rfl rfl rfl (C.2.2.2.2.1 _ hini) (C.2.2.2.2.1 _ hl) (C.2.2.2.2.1 _ hin) hy hdd hR) ⟨gBlind, fun U hU hW => ⟨rfl, by rw [hU]; exact h1, by rw [hU]; exact h2, va_K.moved hW.alike C.2.2.2.2.2.1, C.2.2.2.2.2.2.2.2.warm hW⟩⟩ rfl hn h5.1 hst (lv_room hlo) hd hf) k
theorem g_callIN {y : MethodName} {host : String} {bytes : ByteArray} {maxL index b : Nat} {rm : Room} {As rest : List Value} {Post : Option Value → gW → Nat → Prop} (n : Nat) (C : gC Z cc nL own gT E)
    (hM : gMet (gl Z) E y bytes maxL none rm (.ref (ad b) :: As) ad u sz Post) (hcode : Cond.code y bytes maxL none ∈ gT) (hini : Cond.initialized y.cls ∈ gT) (hl : (own, index, y, host) ∈ gNestL) (hin : Cond.instanceMethod y ∈ gT) (hy : y.name = "<init>")
    (hdd : y.cls ≠ "java/lang/invoke/MethodHandle" ∧ y.cls ≠ "java/lang/invoke/VarHandle" ∧ (parseMethodDescriptor y.desc).map (fun d => d.parameters.length) = some n) (hR : rm.frames + 1 ≤ R.frames ∧ 8 + (maxL + 11) + rm.locals ≤ R.locals)
    (hn : As.length = n) (hst : st = As.reverse ++ .ref (ad b) :: rest) (hlo : (rest.map fun v => v.category).sum ≤ 8) (hd : decode cc pc = .ok (.invokespecial index, 3)) (hf : cells + rm.cells ≤ R.cells ∧ slots + rm.slots ≤ R.slots)
    (k : ∀ (v : Option Value) (u' : gW) (sz' : Nat), Post v u' sz' → GW Z R nL E ad u' sz' lv (cells + rm.cells) (slots + rm.slots) (pc + 3) (v.toList ++ rest)) : GW Z R nL E ad u sz lv cells slots pc st :=
  g_run (a := (Value.ref (ad b) :: As).toArray) C (fun H locs ls h1 h2 h5 => va_runIN (As := As) (rest := rest) (b := ad b) ⟨C.1, C.2.1, C.2.2.1, C.2.2.2.1, C.2.2.2.2.1⟩ hM
    ⟨va_cnB n C.2.2.2.2.1 (gGoodC hcode) rfl rfl rfl (C.2.2.2.2.2.2.2.2.1 _ hl) (C.2.2.2.2.1 _ hini) hdd hR, hy, C.2.2.2.2.1 _ hin⟩ ⟨gBlind, fun U hU hW => ⟨rfl, by rw [hU]; exact h1, by rw [hU]; exact h2, va_K.moved hW.alike C.2.2.2.2.2.1, C.2.2.2.2.2.2.2.2.warm hW⟩⟩ rfl hn h5.1 hst (lv_room hlo) hd hf) k
theorem g_callSN {y : MethodName} {host : String} {bytes : ByteArray} {maxL index : Nat} {ret : Option FieldType} {rm : Room} {As rest : List Value} {Post : Option Value → gW → Nat → Prop} (n : Nat) (C : gC Z cc nL own gT E)
    (hM : gMet (gl Z) E y bytes maxL ret rm As ad u sz Post) (hcode : Cond.code y bytes maxL ret ∈ gT) (hini : Cond.initialized y.cls ∈ gT) (hl : (own, index, y, host) ∈ gNestL) (hin : Cond.static y ∈ gT)
    (hdd : y.cls ≠ "java/lang/invoke/MethodHandle" ∧ y.cls ≠ "java/lang/invoke/VarHandle" ∧ (parseMethodDescriptor y.desc).map (fun d => d.parameters.length) = some n) (hR : rm.frames + 1 ≤ R.frames ∧ 8 + (maxL + 11) + rm.locals ≤ R.locals)
    (hn : As.length = n) (hst : st = As.reverse ++ rest) (hlo : (rest.map fun v => v.category).sum ≤ 8) (hd : decode cc pc = .ok (.invokestatic index, 3)) (hf : cells + rm.cells ≤ R.cells ∧ slots + rm.slots ≤ R.slots)
    (k : ∀ (v : Option Value) (u' : gW) (sz' : Nat), Post v u' sz' → GW Z R nL E ad u' sz' lv (cells + rm.cells) (slots + rm.slots) (pc + 3) (v.toList ++ rest)) : GW Z R nL E ad u sz lv cells slots pc st :=
  g_run (a := As.toArray) C (fun H locs ls h1 h2 h5 => va_runSN (As := As) (rest := rest) ⟨C.1, C.2.1, C.2.2.1, C.2.2.2.1, C.2.2.2.2.1⟩ hM
    ⟨va_cnB n C.2.2.2.2.1 (gGoodC hcode) rfl rfl rfl (C.2.2.2.2.2.2.2.2.1 _ hl) (C.2.2.2.2.1 _ hini) hdd hR, C.2.2.2.2.1 _ hin, trivial⟩ ⟨gBlind, fun U hU hW => ⟨rfl, by rw [hU]; exact h1, by rw [hU]; exact h2, va_K.moved hW.alike C.2.2.2.2.2.1, C.2.2.2.2.2.2.2.2.warm hW⟩⟩ rfl hn h5.1 hst (lv_room hlo) hd hf) k
theorem g_callVN {y : MethodName} {host : String} {bytes : ByteArray} {maxL index ci b N : Nat} {T : u_T} {ret : Option FieldType} {rm : Room} {As rest fs : List Value} {Post : Option Value → gW → Nat → Prop} (n : Nat) (C : gC Z cc nL own gT E)
    (hM : gMet (gl Z) E y bytes maxL ret rm (.ref (ad b) :: As) ad u sz Post) (hcode : Cond.code y bytes maxL ret ∈ gT) (hini : Cond.initialized y.cls ∈ gT) (hl : (own, index, y, host) ∈ gNestL) (hin : Cond.instanceMethod y ∈ gT) (hsel : Cond.selects y.cls y y ∈ gT)
    (hdd : y.cls ≠ "java/lang/invoke/MethodHandle" ∧ y.cls ≠ "java/lang/invoke/VarHandle" ∧ (parseMethodDescriptor y.desc).map (fun d => d.parameters.length) = some n) (hR : rm.frames + 1 ≤ R.frames ∧ 8 + (maxL + 11) + rm.locals ≤ R.locals)
    (hb : u b = some (.inr (ci, fs))) (hc : E.2.1[ci]? = some (y.cls, T, N)) (hn : As.length = n) (hst : st = As.reverse ++ .ref (ad b) :: rest) (hlo : (rest.map fun v => v.category).sum ≤ 8) (hd : decode cc pc = .ok (.invokevirtual index, 3)) (hf : cells + rm.cells ≤ R.cells ∧ slots + rm.slots ≤ R.slots)
    (k : ∀ (v : Option Value) (u' : gW) (sz' : Nat), Post v u' sz' → GW Z R nL E ad u' sz' lv (cells + rm.cells) (slots + rm.slots) (pc + 3) (v.toList ++ rest)) : GW Z R nL E ad u sz lv cells slots pc st :=
  g_run (a := (Value.ref (ad b) :: As).toArray) C (fun H locs ls h1 h2 h5 => va_runVN (C := y.cls) (As := As) (rest := rest) (b := ad b) ⟨C.1, C.2.1, C.2.2.1, C.2.2.2.1, C.2.2.2.2.1⟩ hM
    ⟨va_cnB n C.2.2.2.2.1 (gGoodC hcode) rfl rfl rfl (C.2.2.2.2.2.2.2.2.1 _ hl) (C.2.2.2.2.1 _ hini) hdd hR, C.2.2.2.2.1 _ hin, C.2.2.2.2.1 _ hsel⟩ ⟨gBlind, va_recv C.2.2.2.2.2.1 (gP_one h2 hb) (q0 := 0) hc rfl, fun U hU hW => ⟨rfl, by rw [hU]; exact h1, by rw [hU]; exact h2, va_K.moved hW.alike C.2.2.2.2.2.1, C.2.2.2.2.2.2.2.2.warm hW⟩⟩ rfl hn h5.1 hst (lv_room hlo) hd hf) k
end GCALL
end
section
theorem d_X_init_0 : decode c_X_init 0 = .ok (.aload_n 0, 1) := by decide +kernel
theorem d_X_init_1 : decode c_X_init 1 = .ok (.invokespecial 3, 3) := by decide +kernel
theorem d_X_init_4 : decode c_X_init 4 = .ok (.aload_n 0, 1) := by decide +kernel
theorem d_X_init_5 : decode c_X_init 5 = .ok (.iconst 4, 1) := by decide +kernel
theorem d_X_init_6 : decode c_X_init 6 = .ok (.anewarray 9, 3) := by decide +kernel
theorem d_X_init_9 : decode c_X_init 9 = .ok (.putfield 11, 3) := by decide +kernel
theorem d_X_init_12 : decode c_X_init 12 = .ok (.aload_n 0, 1) := by decide +kernel
theorem d_X_init_13 : decode c_X_init 13 = .ok (.bipush 64, 2) := by decide +kernel
theorem d_X_init_15 : decode c_X_init 15 = .ok (.anewarray 15, 3) := by decide +kernel
theorem d_X_init_18 : decode c_X_init 18 = .ok (.putfield 17, 3) := by decide +kernel
theorem d_X_init_21 : decode c_X_init 21 = .ok (.aload_n 0, 1) := by decide +kernel
theorem d_X_init_22 : decode c_X_init 22 = .ok (.new 21, 3) := by decide +kernel
theorem d_X_init_25 : decode c_X_init 25 = .ok (.dup, 1) := by decide +kernel
theorem d_X_init_26 : decode c_X_init 26 = .ok (.invokespecial 23, 3) := by decide +kernel
theorem d_X_init_29 : decode c_X_init 29 = .ok (.putfield 24, 3) := by decide +kernel
theorem d_X_init_32 : decode c_X_init 32 = .ok (.aload_n 0, 1) := by decide +kernel
theorem d_X_init_33 : decode c_X_init 33 = .ok (.new 28, 3) := by decide +kernel
theorem d_X_init_36 : decode c_X_init 36 = .ok (.dup, 1) := by decide +kernel
theorem d_X_init_37 : decode c_X_init 37 = .ok (.invokespecial 30, 3) := by decide +kernel
theorem d_X_init_40 : decode c_X_init 40 = .ok (.putfield 31, 3) := by decide +kernel
theorem d_X_init_43 : decode c_X_init 43 = .ok (.return_, 1) := by decide +kernel
theorem d_X_club_0 : decode c_X_club 0 = .ok (.aload_n 0, 1) := by decide +kernel
theorem d_X_club_1 : decode c_X_club 1 = .ok (.getfield 35, 3) := by decide +kernel
theorem d_X_club_4 : decode c_X_club 4 = .ok (.iconst 4, 1) := by decide +kernel
theorem d_X_club_5 : decode c_X_club 5 = .ok (.if_icmp .lt 5, 3) := by decide +kernel
theorem d_X_club_8 : decode c_X_club 8 = .ok (.iconst (-1), 1) := by decide +kernel
theorem d_X_club_9 : decode c_X_club 9 = .ok (.ireturn, 1) := by decide +kernel
theorem d_X_club_10 : decode c_X_club 10 = .ok (.aload_n 0, 1) := by decide +kernel
theorem d_X_club_11 : decode c_X_club 11 = .ok (.getfield 11, 3) := by decide +kernel
theorem d_X_club_14 : decode c_X_club 14 = .ok (.aload_n 0, 1) := by decide +kernel
theorem d_X_club_15 : decode c_X_club 15 = .ok (.getfield 35, 3) := by decide +kernel
theorem d_X_club_18 : decode c_X_club 18 = .ok (.new 9, 3) := by decide +kernel
theorem d_X_club_21 : decode c_X_club 21 = .ok (.dup, 1) := by decide +kernel
theorem d_X_club_22 : decode c_X_club 22 = .ok (.invokespecial 39, 3) := by decide +kernel
theorem d_X_club_25 : decode c_X_club 25 = .ok (.aastore, 1) := by decide +kernel
theorem d_X_club_26 : decode c_X_club 26 = .ok (.aload_n 0, 1) := by decide +kernel
theorem d_X_club_27 : decode c_X_club 27 = .ok (.dup, 1) := by decide +kernel
theorem d_X_club_28 : decode c_X_club 28 = .ok (.getfield 35, 3) := by decide +kernel
theorem d_X_club_31 : decode c_X_club 31 = .ok (.iconst 1, 1) := by decide +kernel
theorem d_X_club_32 : decode c_X_club 32 = .ok (.iadd, 1) := by decide +kernel
theorem d_X_club_33 : decode c_X_club 33 = .ok (.putfield 35, 3) := by decide +kernel
theorem d_X_club_36 : decode c_X_club 36 = .ok (.aload_n 0, 1) := by decide +kernel
theorem d_X_club_37 : decode c_X_club 37 = .ok (.getfield 35, 3) := by decide +kernel
theorem d_X_club_40 : decode c_X_club 40 = .ok (.iconst 1, 1) := by decide +kernel
theorem d_X_club_41 : decode c_X_club 41 = .ok (.isub, 1) := by decide +kernel
theorem d_X_club_42 : decode c_X_club 42 = .ok (.ireturn, 1) := by decide +kernel
theorem d_X_member_0 : decode c_X_member 0 = .ok (.aload_n 0, 1) := by decide +kernel
theorem d_X_member_1 : decode c_X_member 1 = .ok (.iload_n 1, 1) := by decide +kernel
theorem d_X_member_2 : decode c_X_member 2 = .ok (.invokevirtual 40, 3) := by decide +kernel
theorem d_X_member_5 : decode c_X_member 5 = .ok (.astore_n 2, 1) := by decide +kernel
theorem d_X_member_6 : decode c_X_member 6 = .ok (.aload_n 2, 1) := by decide +kernel
theorem d_X_member_7 : decode c_X_member 7 = .ok (.ifnull 12, 3) := by decide +kernel
theorem d_X_member_10 : decode c_X_member 10 = .ok (.aload_n 2, 1) := by decide +kernel
theorem d_X_member_11 : decode c_X_member 11 = .ok (.getfield 44, 3) := by decide +kernel
theorem d_X_member_14 : decode c_X_member 14 = .ok (.bipush 12, 2) := by decide +kernel
theorem d_X_member_16 : decode c_X_member 16 = .ok (.if_icmp .lt 5, 3) := by decide +kernel
theorem d_X_member_19 : decode c_X_member 19 = .ok (.iconst (-1), 1) := by decide +kernel
theorem d_X_member_20 : decode c_X_member 20 = .ok (.ireturn, 1) := by decide +kernel
theorem d_X_member_21 : decode c_X_member 21 = .ok (.aload_n 2, 1) := by decide +kernel
theorem d_X_member_22 : decode c_X_member 22 = .ok (.dup, 1) := by decide +kernel
theorem d_X_member_23 : decode c_X_member 23 = .ok (.getfield 44, 3) := by decide +kernel
theorem d_X_member_26 : decode c_X_member 26 = .ok (.iconst 1, 1) := by decide +kernel
theorem d_X_member_27 : decode c_X_member 27 = .ok (.iadd, 1) := by decide +kernel
theorem d_X_member_28 : decode c_X_member 28 = .ok (.putfield 44, 3) := by decide +kernel
theorem d_X_member_31 : decode c_X_member 31 = .ok (.aload_n 2, 1) := by decide +kernel
theorem d_X_member_32 : decode c_X_member 32 = .ok (.getfield 44, 3) := by decide +kernel
theorem d_X_member_35 : decode c_X_member 35 = .ok (.iconst 1, 1) := by decide +kernel
theorem d_X_member_36 : decode c_X_member 36 = .ok (.isub, 1) := by decide +kernel
theorem d_X_member_37 : decode c_X_member 37 = .ok (.ireturn, 1) := by decide +kernel
theorem d_X_leave_0 : decode c_X_leave 0 = .ok (.aload_n 0, 1) := by decide +kernel
theorem d_X_leave_1 : decode c_X_leave 1 = .ok (.iload_n 1, 1) := by decide +kernel
theorem d_X_leave_2 : decode c_X_leave 2 = .ok (.invokevirtual 40, 3) := by decide +kernel
theorem d_X_leave_5 : decode c_X_leave 5 = .ok (.astore_n 3, 1) := by decide +kernel
theorem d_X_leave_6 : decode c_X_leave 6 = .ok (.aload_n 3, 1) := by decide +kernel
theorem d_X_leave_7 : decode c_X_leave 7 = .ok (.ifnull 32, 3) := by decide +kernel
theorem d_X_leave_10 : decode c_X_leave 10 = .ok (.aload_n 3, 1) := by decide +kernel
theorem d_X_leave_11 : decode c_X_leave 11 = .ok (.iload_n 2, 1) := by decide +kernel
theorem d_X_leave_12 : decode c_X_leave 12 = .ok (.invokevirtual 47, 3) := by decide +kernel
theorem d_X_leave_15 : decode c_X_leave 15 = .ok (.ifCond .eq 24, 3) := by decide +kernel
theorem d_X_leave_18 : decode c_X_leave 18 = .ok (.aload_n 3, 1) := by decide +kernel
theorem d_X_leave_19 : decode c_X_leave 19 = .ok (.getfield 51, 3) := by decide +kernel
theorem d_X_leave_22 : decode c_X_leave 22 = .ok (.iload_n 2, 1) := by decide +kernel
theorem d_X_leave_23 : decode c_X_leave 23 = .ok (.laload, 1) := by decide +kernel
theorem d_X_leave_24 : decode c_X_leave 24 = .ok (.lconst 0, 1) := by decide +kernel
theorem d_X_leave_25 : decode c_X_leave 25 = .ok (.lcmp, 1) := by decide +kernel
theorem d_X_leave_26 : decode c_X_leave 26 = .ok (.ifCond .ne 13, 3) := by decide +kernel
theorem d_X_leave_29 : decode c_X_leave 29 = .ok (.aload_n 3, 1) := by decide +kernel
theorem d_X_leave_30 : decode c_X_leave 30 = .ok (.getfield 55, 3) := by decide +kernel
theorem d_X_leave_33 : decode c_X_leave 33 = .ok (.getfield 59, 3) := by decide +kernel
theorem d_X_leave_36 : decode c_X_leave 36 = .ok (.ifCond .eq 5, 3) := by decide +kernel
theorem d_X_leave_39 : decode c_X_leave 39 = .ok (.iconst 0, 1) := by decide +kernel
theorem d_X_leave_40 : decode c_X_leave 40 = .ok (.ireturn, 1) := by decide +kernel
theorem d_X_leave_41 : decode c_X_leave 41 = .ok (.aload_n 3, 1) := by decide +kernel
theorem d_X_leave_42 : decode c_X_leave 42 = .ok (.dup, 1) := by decide +kernel
theorem d_X_leave_43 : decode c_X_leave 43 = .ok (.getfield 65, 3) := by decide +kernel
theorem d_X_leave_46 : decode c_X_leave 46 = .ok (.iconst 1, 1) := by decide +kernel
theorem d_X_leave_47 : decode c_X_leave 47 = .ok (.iload_n 2, 1) := by decide +kernel
theorem d_X_leave_48 : decode c_X_leave 48 = .ok (.ishl, 1) := by decide +kernel
theorem d_X_leave_49 : decode c_X_leave 49 = .ok (.ior, 1) := by decide +kernel
theorem d_X_leave_50 : decode c_X_leave 50 = .ok (.putfield 65, 3) := by decide +kernel
theorem d_X_leave_53 : decode c_X_leave 53 = .ok (.iconst 1, 1) := by decide +kernel
theorem d_X_leave_54 : decode c_X_leave 54 = .ok (.ireturn, 1) := by decide +kernel
theorem d_X_bill_0 : decode c_X_bill 0 = .ok (.aload_n 0, 1) := by decide +kernel
theorem d_X_bill_1 : decode c_X_bill 1 = .ok (.iload_n 1, 1) := by decide +kernel
theorem d_X_bill_2 : decode c_X_bill 2 = .ok (.invokevirtual 40, 3) := by decide +kernel
theorem d_X_bill_5 : decode c_X_bill 5 = .ok (.astore 5, 2) := by decide +kernel
theorem d_X_bill_7 : decode c_X_bill 7 = .ok (.aload 5, 2) := by decide +kernel
theorem d_X_bill_9 : decode c_X_bill 9 = .ok (.ifnull 37, 3) := by decide +kernel
theorem d_X_bill_12 : decode c_X_bill 12 = .ok (.iload_n 2, 1) := by decide +kernel
theorem d_X_bill_13 : decode c_X_bill 13 = .ok (.iconst 1, 1) := by decide +kernel
theorem d_X_bill_14 : decode c_X_bill 14 = .ok (.if_icmp .lt 32, 3) := by decide +kernel
theorem d_X_bill_17 : decode c_X_bill 17 = .ok (.iload_n 2, 1) := by decide +kernel
theorem d_X_bill_18 : decode c_X_bill 18 = .ok (.iconst 5, 1) := by decide +kernel
theorem d_X_bill_19 : decode c_X_bill 19 = .ok (.if_icmp .gt 27, 3) := by decide +kernel
theorem d_X_bill_22 : decode c_X_bill 22 = .ok (.iload_n 3, 1) := by decide +kernel
theorem d_X_bill_23 : decode c_X_bill 23 = .ok (.iconst 1, 1) := by decide +kernel
theorem d_X_bill_24 : decode c_X_bill 24 = .ok (.if_icmp .lt 22, 3) := by decide +kernel
theorem d_X_bill_27 : decode c_X_bill 27 = .ok (.iload_n 3, 1) := by decide +kernel
theorem d_X_bill_28 : decode c_X_bill 28 = .ok (.ldc 68, 2) := by decide +kernel
theorem d_X_bill_30 : decode c_X_bill 30 = .ok (.if_icmp .gt 16, 3) := by decide +kernel
theorem d_X_bill_33 : decode c_X_bill 33 = .ok (.iload 4, 2) := by decide +kernel
theorem d_X_bill_35 : decode c_X_bill 35 = .ok (.iconst 1, 1) := by decide +kernel
theorem d_X_bill_36 : decode c_X_bill 36 = .ok (.if_icmp .lt 10, 3) := by decide +kernel
theorem d_X_bill_39 : decode c_X_bill 39 = .ok (.iload 4, 2) := by decide +kernel
theorem d_X_bill_41 : decode c_X_bill 41 = .ok (.ldc 69, 2) := by decide +kernel
theorem d_X_bill_43 : decode c_X_bill 43 = .ok (.if_icmp .le 5, 3) := by decide +kernel
theorem d_X_bill_46 : decode c_X_bill 46 = .ok (.iconst 0, 1) := by decide +kernel
theorem d_X_bill_47 : decode c_X_bill 47 = .ok (.ireturn, 1) := by decide +kernel
theorem d_X_bill_48 : decode c_X_bill 48 = .ok (.aload_n 0, 1) := by decide +kernel
theorem d_X_bill_49 : decode c_X_bill 49 = .ok (.getfield 24, 3) := by decide +kernel
theorem d_X_bill_52 : decode c_X_bill 52 = .ok (.aload 5, 2) := by decide +kernel
theorem d_X_bill_54 : decode c_X_bill 54 = .ok (.iload_n 2, 1) := by decide +kernel
theorem d_X_bill_55 : decode c_X_bill 55 = .ok (.iload_n 3, 1) := by decide +kernel
theorem d_X_bill_56 : decode c_X_bill 56 = .ok (.iload 4, 2) := by decide +kernel
theorem d_X_bill_58 : decode c_X_bill 58 = .ok (.invokevirtual 70, 3) := by decide +kernel
theorem d_X_bill_61 : decode c_X_bill 61 = .ok (.iconst 1, 1) := by decide +kernel
theorem d_X_bill_62 : decode c_X_bill 62 = .ok (.ireturn, 1) := by decide +kernel
theorem d_X_payer_0 : decode c_X_payer 0 = .ok (.aload_n 0, 1) := by decide +kernel
theorem d_X_payer_1 : decode c_X_payer 1 = .ok (.getfield 24, 3) := by decide +kernel
theorem d_X_payer_4 : decode c_X_payer 4 = .ok (.getfield 74, 3) := by decide +kernel
theorem d_X_payer_7 : decode c_X_payer 7 = .ok (.astore_n 3, 1) := by decide +kernel
theorem d_X_payer_8 : decode c_X_payer 8 = .ok (.aload_n 3, 1) := by decide +kernel
theorem d_X_payer_9 : decode c_X_payer 9 = .ok (.ifnull 21, 3) := by decide +kernel
theorem d_X_payer_12 : decode c_X_payer 12 = .ok (.aload_n 3, 1) := by decide +kernel
theorem d_X_payer_13 : decode c_X_payer 13 = .ok (.iload_n 1, 1) := by decide +kernel
theorem d_X_payer_14 : decode c_X_payer 14 = .ok (.invokevirtual 47, 3) := by decide +kernel
theorem d_X_payer_17 : decode c_X_payer 17 = .ok (.ifCond .eq 13, 3) := by decide +kernel
theorem d_X_payer_20 : decode c_X_payer 20 = .ok (.iload_n 2, 1) := by decide +kernel
theorem d_X_payer_21 : decode c_X_payer 21 = .ok (.ifCond .lt 9, 3) := by decide +kernel
theorem d_X_payer_24 : decode c_X_payer 24 = .ok (.iload_n 2, 1) := by decide +kernel
theorem d_X_payer_25 : decode c_X_payer 25 = .ok (.ldc 68, 2) := by decide +kernel
theorem d_X_payer_27 : decode c_X_payer 27 = .ok (.if_icmp .le 5, 3) := by decide +kernel
theorem d_X_payer_30 : decode c_X_payer 30 = .ok (.iconst 0, 1) := by decide +kernel
theorem d_X_payer_31 : decode c_X_payer 31 = .ok (.ireturn, 1) := by decide +kernel
theorem d_X_payer_32 : decode c_X_payer 32 = .ok (.aload_n 0, 1) := by decide +kernel
theorem d_X_payer_33 : decode c_X_payer 33 = .ok (.getfield 24, 3) := by decide +kernel
theorem d_X_payer_36 : decode c_X_payer 36 = .ok (.getfield 78, 3) := by decide +kernel
theorem d_X_payer_39 : decode c_X_payer 39 = .ok (.iload_n 1, 1) := by decide +kernel
theorem d_X_payer_40 : decode c_X_payer 40 = .ok (.iload_n 2, 1) := by decide +kernel
theorem d_X_payer_41 : decode c_X_payer 41 = .ok (.i2l, 1) := by decide +kernel
theorem d_X_payer_42 : decode c_X_payer 42 = .ok (.lastore, 1) := by decide +kernel
theorem d_X_payer_43 : decode c_X_payer 43 = .ok (.iconst 1, 1) := by decide +kernel
theorem d_X_payer_44 : decode c_X_payer 44 = .ok (.ireturn, 1) := by decide +kernel
theorem d_X_weight_0 : decode c_X_weight 0 = .ok (.aload_n 0, 1) := by decide +kernel
theorem d_X_weight_1 : decode c_X_weight 1 = .ok (.getfield 24, 3) := by decide +kernel
theorem d_X_weight_4 : decode c_X_weight 4 = .ok (.getfield 74, 3) := by decide +kernel
theorem d_X_weight_7 : decode c_X_weight 7 = .ok (.astore_n 3, 1) := by decide +kernel
theorem d_X_weight_8 : decode c_X_weight 8 = .ok (.aload_n 3, 1) := by decide +kernel
theorem d_X_weight_9 : decode c_X_weight 9 = .ok (.ifnull 40, 3) := by decide +kernel
theorem d_X_weight_12 : decode c_X_weight 12 = .ok (.aload_n 0, 1) := by decide +kernel
theorem d_X_weight_13 : decode c_X_weight 13 = .ok (.getfield 24, 3) := by decide +kernel
theorem d_X_weight_16 : decode c_X_weight 16 = .ok (.getfield 81, 3) := by decide +kernel
theorem d_X_weight_19 : decode c_X_weight 19 = .ok (.iconst 5, 1) := by decide +kernel
theorem d_X_weight_20 : decode c_X_weight 20 = .ok (.if_icmp .eq 29, 3) := by decide +kernel
theorem d_X_weight_23 : decode c_X_weight 23 = .ok (.aload_n 3, 1) := by decide +kernel
theorem d_X_weight_24 : decode c_X_weight 24 = .ok (.iload_n 1, 1) := by decide +kernel
theorem d_X_weight_25 : decode c_X_weight 25 = .ok (.invokevirtual 47, 3) := by decide +kernel
theorem d_X_weight_28 : decode c_X_weight 28 = .ok (.ifCond .eq 21, 3) := by decide +kernel
theorem d_X_weight_31 : decode c_X_weight 31 = .ok (.iload_n 2, 1) := by decide +kernel
theorem d_X_weight_32 : decode c_X_weight 32 = .ok (.ifCond .lt 17, 3) := by decide +kernel
theorem d_X_weight_35 : decode c_X_weight 35 = .ok (.iload_n 2, 1) := by decide +kernel
theorem d_X_weight_36 : decode c_X_weight 36 = .ok (.aload_n 0, 1) := by decide +kernel
theorem d_X_weight_37 : decode c_X_weight 37 = .ok (.getfield 24, 3) := by decide +kernel
theorem d_X_weight_40 : decode c_X_weight 40 = .ok (.getfield 81, 3) := by decide +kernel
theorem d_X_weight_43 : decode c_X_weight 43 = .ok (.invokestatic 84, 3) := by decide +kernel
theorem d_X_weight_46 : decode c_X_weight 46 = .ok (.if_icmp .le 5, 3) := by decide +kernel
theorem d_X_weight_49 : decode c_X_weight 49 = .ok (.iconst 0, 1) := by decide +kernel
theorem d_X_weight_50 : decode c_X_weight 50 = .ok (.ireturn, 1) := by decide +kernel
theorem d_X_weight_51 : decode c_X_weight 51 = .ok (.aload_n 0, 1) := by decide +kernel
theorem d_X_weight_52 : decode c_X_weight 52 = .ok (.getfield 24, 3) := by decide +kernel
theorem d_X_weight_55 : decode c_X_weight 55 = .ok (.getfield 88, 3) := by decide +kernel
theorem d_X_weight_58 : decode c_X_weight 58 = .ok (.iload_n 1, 1) := by decide +kernel
theorem d_X_weight_59 : decode c_X_weight 59 = .ok (.iload_n 2, 1) := by decide +kernel
theorem d_X_weight_60 : decode c_X_weight 60 = .ok (.i2l, 1) := by decide +kernel
theorem d_X_weight_61 : decode c_X_weight 61 = .ok (.lastore, 1) := by decide +kernel
theorem d_X_weight_62 : decode c_X_weight 62 = .ok (.iconst 1, 1) := by decide +kernel
theorem d_X_weight_63 : decode c_X_weight 63 = .ok (.ireturn, 1) := by decide +kernel
theorem d_X_line_0 : decode c_X_line 0 = .ok (.aload_n 0, 1) := by decide +kernel
theorem d_X_line_1 : decode c_X_line 1 = .ok (.getfield 24, 3) := by decide +kernel
theorem d_X_line_4 : decode c_X_line 4 = .ok (.getfield 74, 3) := by decide +kernel
theorem d_X_line_7 : decode c_X_line 7 = .ok (.astore_n 3, 1) := by decide +kernel
theorem d_X_line_8 : decode c_X_line 8 = .ok (.aload_n 3, 1) := by decide +kernel
theorem d_X_line_9 : decode c_X_line 9 = .ok (.ifnull 52, 3) := by decide +kernel
theorem d_X_line_12 : decode c_X_line 12 = .ok (.aload_n 0, 1) := by decide +kernel
theorem d_X_line_13 : decode c_X_line 13 = .ok (.getfield 24, 3) := by decide +kernel
theorem d_X_line_16 : decode c_X_line 16 = .ok (.getfield 81, 3) := by decide +kernel
theorem d_X_line_19 : decode c_X_line 19 = .ok (.iconst 5, 1) := by decide +kernel
theorem d_X_line_20 : decode c_X_line 20 = .ok (.if_icmp .ne 41, 3) := by decide +kernel
theorem d_X_line_23 : decode c_X_line 23 = .ok (.iload_n 1, 1) := by decide +kernel
theorem d_X_line_24 : decode c_X_line 24 = .ok (.iconst 1, 1) := by decide +kernel
theorem d_X_line_25 : decode c_X_line 25 = .ok (.if_icmp .lt 36, 3) := by decide +kernel
theorem d_X_line_28 : decode c_X_line 28 = .ok (.iload_n 1, 1) := by decide +kernel
theorem d_X_line_29 : decode c_X_line 29 = .ok (.ldc 68, 2) := by decide +kernel
theorem d_X_line_31 : decode c_X_line 31 = .ok (.if_icmp .gt 30, 3) := by decide +kernel
theorem d_X_line_34 : decode c_X_line 34 = .ok (.iload_n 2, 1) := by decide +kernel
theorem d_X_line_35 : decode c_X_line 35 = .ok (.ifCond .eq 26, 3) := by decide +kernel
theorem d_X_line_38 : decode c_X_line 38 = .ok (.iload_n 2, 1) := by decide +kernel
theorem d_X_line_39 : decode c_X_line 39 = .ok (.aload_n 3, 1) := by decide +kernel
theorem d_X_line_40 : decode c_X_line 40 = .ok (.invokevirtual 91, 3) := by decide +kernel
theorem d_X_line_43 : decode c_X_line 43 = .ok (.iconst (-1), 1) := by decide +kernel
theorem d_X_line_44 : decode c_X_line 44 = .ok (.ixor, 1) := by decide +kernel
theorem d_X_line_45 : decode c_X_line 45 = .ok (.iand, 1) := by decide +kernel
theorem d_X_line_46 : decode c_X_line 46 = .ok (.ifCond .ne 15, 3) := by decide +kernel
theorem d_X_line_49 : decode c_X_line 49 = .ok (.aload_n 0, 1) := by decide +kernel
theorem d_X_line_50 : decode c_X_line 50 = .ok (.getfield 24, 3) := by decide +kernel
theorem d_X_line_53 : decode c_X_line 53 = .ok (.getfield 95, 3) := by decide +kernel
theorem d_X_line_56 : decode c_X_line 56 = .ok (.bipush 16, 2) := by decide +kernel
theorem d_X_line_58 : decode c_X_line 58 = .ok (.if_icmp .lt 5, 3) := by decide +kernel
theorem d_X_line_61 : decode c_X_line 61 = .ok (.iconst 0, 1) := by decide +kernel
theorem d_X_line_62 : decode c_X_line 62 = .ok (.ireturn, 1) := by decide +kernel
theorem d_X_line_63 : decode c_X_line 63 = .ok (.aload_n 0, 1) := by decide +kernel
theorem d_X_line_64 : decode c_X_line 64 = .ok (.getfield 24, 3) := by decide +kernel
theorem d_X_line_67 : decode c_X_line 67 = .ok (.iload_n 1, 1) := by decide +kernel
theorem d_X_line_68 : decode c_X_line 68 = .ok (.iload_n 2, 1) := by decide +kernel
theorem d_X_line_69 : decode c_X_line 69 = .ok (.invokevirtual 98, 3) := by decide +kernel
theorem d_X_line_72 : decode c_X_line 72 = .ok (.iconst 1, 1) := by decide +kernel
theorem d_X_line_73 : decode c_X_line 73 = .ok (.ireturn, 1) := by decide +kernel
theorem d_X_post_0 : decode c_X_post 0 = .ok (.aload_n 0, 1) := by decide +kernel
theorem d_X_post_1 : decode c_X_post 1 = .ok (.getfield 24, 3) := by decide +kernel
theorem d_X_post_4 : decode c_X_post 4 = .ok (.getfield 74, 3) := by decide +kernel
theorem d_X_post_7 : decode c_X_post 7 = .ok (.astore_n 1, 1) := by decide +kernel
theorem d_X_post_8 : decode c_X_post 8 = .ok (.aload_n 1, 1) := by decide +kernel
theorem d_X_post_9 : decode c_X_post 9 = .ok (.ifnonnull 5, 3) := by decide +kernel
theorem d_X_post_12 : decode c_X_post 12 = .ok (.iconst (-1), 1) := by decide +kernel
theorem d_X_post_13 : decode c_X_post 13 = .ok (.ireturn, 1) := by decide +kernel
theorem d_X_post_14 : decode c_X_post 14 = .ok (.aload_n 0, 1) := by decide +kernel
theorem d_X_post_15 : decode c_X_post 15 = .ok (.aload_n 1, 1) := by decide +kernel
theorem d_X_post_16 : decode c_X_post 16 = .ok (.invokevirtual 102, 3) := by decide +kernel
theorem d_X_post_19 : decode c_X_post 19 = .ok (.istore_n 2, 1) := by decide +kernel
theorem d_X_post_20 : decode c_X_post 20 = .ok (.iload_n 2, 1) := by decide +kernel
theorem d_X_post_21 : decode c_X_post 21 = .ok (.ifCond .eq 5, 3) := by decide +kernel
theorem d_X_post_24 : decode c_X_post 24 = .ok (.iload_n 2, 1) := by decide +kernel
theorem d_X_post_25 : decode c_X_post 25 = .ok (.ireturn, 1) := by decide +kernel
theorem d_X_post_26 : decode c_X_post 26 = .ok (.aload_n 0, 1) := by decide +kernel
theorem d_X_post_27 : decode c_X_post 27 = .ok (.getfield 24, 3) := by decide +kernel
theorem d_X_post_30 : decode c_X_post 30 = .ok (.aload_n 1, 1) := by decide +kernel
theorem d_X_post_31 : decode c_X_post 31 = .ok (.invokevirtual 106, 3) := by decide +kernel
theorem d_X_post_34 : decode c_X_post 34 = .ok (.astore_n 3, 1) := by decide +kernel
theorem d_X_post_35 : decode c_X_post 35 = .ok (.aload_n 1, 1) := by decide +kernel
theorem d_X_post_36 : decode c_X_post 36 = .ok (.aload_n 3, 1) := by decide +kernel
theorem d_X_post_37 : decode c_X_post 37 = .ok (.iconst 1, 1) := by decide +kernel
theorem d_X_post_38 : decode c_X_post 38 = .ok (.invokevirtual 110, 3) := by decide +kernel
theorem d_X_post_41 : decode c_X_post 41 = .ok (.aload_n 0, 1) := by decide +kernel
theorem d_X_post_42 : decode c_X_post 42 = .ok (.getfield 24, 3) := by decide +kernel
theorem d_X_post_45 : decode c_X_post 45 = .ok (.aconst_null, 1) := by decide +kernel
theorem d_X_post_46 : decode c_X_post 46 = .ok (.putfield 74, 3) := by decide +kernel
theorem d_X_post_49 : decode c_X_post 49 = .ok (.aload_n 0, 1) := by decide +kernel
theorem d_X_post_50 : decode c_X_post 50 = .ok (.getfield 17, 3) := by decide +kernel
theorem d_X_post_53 : decode c_X_post 53 = .ok (.aload_n 0, 1) := by decide +kernel
theorem d_X_post_54 : decode c_X_post 54 = .ok (.getfield 114, 3) := by decide +kernel
theorem d_X_post_57 : decode c_X_post 57 = .ok (.aload_n 3, 1) := by decide +kernel
theorem d_X_post_58 : decode c_X_post 58 = .ok (.aastore, 1) := by decide +kernel
theorem d_X_post_59 : decode c_X_post 59 = .ok (.aload_n 0, 1) := by decide +kernel
theorem d_X_post_60 : decode c_X_post 60 = .ok (.dup, 1) := by decide +kernel
theorem d_X_post_61 : decode c_X_post 61 = .ok (.getfield 114, 3) := by decide +kernel
theorem d_X_post_64 : decode c_X_post 64 = .ok (.iconst 1, 1) := by decide +kernel
theorem d_X_post_65 : decode c_X_post 65 = .ok (.iadd, 1) := by decide +kernel
theorem d_X_post_66 : decode c_X_post 66 = .ok (.putfield 114, 3) := by decide +kernel
theorem d_X_post_69 : decode c_X_post 69 = .ok (.aload_n 0, 1) := by decide +kernel
theorem d_X_post_70 : decode c_X_post 70 = .ok (.getfield 114, 3) := by decide +kernel
theorem d_X_post_73 : decode c_X_post 73 = .ok (.iconst 1, 1) := by decide +kernel
theorem d_X_post_74 : decode c_X_post 74 = .ok (.isub, 1) := by decide +kernel
theorem d_X_post_75 : decode c_X_post 75 = .ok (.ireturn, 1) := by decide +kernel
theorem d_X_strike_0 : decode c_X_strike 0 = .ok (.aload_n 0, 1) := by decide +kernel
theorem d_X_strike_1 : decode c_X_strike 1 = .ok (.iload_n 1, 1) := by decide +kernel
theorem d_X_strike_2 : decode c_X_strike 2 = .ok (.invokevirtual 117, 3) := by decide +kernel
theorem d_X_strike_5 : decode c_X_strike 5 = .ok (.astore_n 2, 1) := by decide +kernel
theorem d_X_strike_6 : decode c_X_strike 6 = .ok (.aload_n 2, 1) := by decide +kernel
theorem d_X_strike_7 : decode c_X_strike 7 = .ok (.ifnull 23, 3) := by decide +kernel
theorem d_X_strike_10 : decode c_X_strike 10 = .ok (.aload_n 2, 1) := by decide +kernel
theorem d_X_strike_11 : decode c_X_strike 11 = .ok (.getfield 121, 3) := by decide +kernel
theorem d_X_strike_14 : decode c_X_strike 14 = .ok (.ifCond .ne 16, 3) := by decide +kernel
theorem d_X_strike_17 : decode c_X_strike 17 = .ok (.aload_n 2, 1) := by decide +kernel
theorem d_X_strike_18 : decode c_X_strike 18 = .ok (.getfield 124, 3) := by decide +kernel
theorem d_X_strike_21 : decode c_X_strike 21 = .ok (.getfield 55, 3) := by decide +kernel
theorem d_X_strike_24 : decode c_X_strike 24 = .ok (.getfield 59, 3) := by decide +kernel
theorem d_X_strike_27 : decode c_X_strike 27 = .ok (.ifCond .eq 5, 3) := by decide +kernel
theorem d_X_strike_30 : decode c_X_strike 30 = .ok (.iconst 0, 1) := by decide +kernel
theorem d_X_strike_31 : decode c_X_strike 31 = .ok (.ireturn, 1) := by decide +kernel
theorem d_X_strike_32 : decode c_X_strike 32 = .ok (.aload_n 2, 1) := by decide +kernel
theorem d_X_strike_33 : decode c_X_strike 33 = .ok (.iconst 1, 1) := by decide +kernel
theorem d_X_strike_34 : decode c_X_strike 34 = .ok (.putfield 121, 3) := by decide +kernel
theorem d_X_strike_37 : decode c_X_strike 37 = .ok (.aload_n 2, 1) := by decide +kernel
theorem d_X_strike_38 : decode c_X_strike 38 = .ok (.getfield 124, 3) := by decide +kernel
theorem d_X_strike_41 : decode c_X_strike 41 = .ok (.aload_n 2, 1) := by decide +kernel
theorem d_X_strike_42 : decode c_X_strike 42 = .ok (.iconst (-1), 1) := by decide +kernel
theorem d_X_strike_43 : decode c_X_strike 43 = .ok (.invokevirtual 110, 3) := by decide +kernel
theorem d_X_strike_46 : decode c_X_strike 46 = .ok (.iconst 1, 1) := by decide +kernel
theorem d_X_strike_47 : decode c_X_strike 47 = .ok (.ireturn, 1) := by decide +kernel
theorem d_X_about_0 : decode c_X_about 0 = .ok (.aload_n 0, 1) := by decide +kernel
theorem d_X_about_1 : decode c_X_about 1 = .ok (.iload_n 1, 1) := by decide +kernel
theorem d_X_about_2 : decode c_X_about 2 = .ok (.invokevirtual 117, 3) := by decide +kernel
theorem d_X_about_5 : decode c_X_about 5 = .ok (.astore 4, 2) := by decide +kernel
theorem d_X_about_7 : decode c_X_about 7 = .ok (.aload 4, 2) := by decide +kernel
theorem d_X_about_9 : decode c_X_about 9 = .ok (.ifnull 12, 3) := by decide +kernel
theorem d_X_about_12 : decode c_X_about 12 = .ok (.iload_n 3, 1) := by decide +kernel
theorem d_X_about_13 : decode c_X_about 13 = .ok (.ifCond .lt 8, 3) := by decide +kernel
theorem d_X_about_16 : decode c_X_about 16 = .ok (.iload_n 3, 1) := by decide +kernel
theorem d_X_about_17 : decode c_X_about 17 = .ok (.iconst 2, 1) := by decide +kernel
theorem d_X_about_18 : decode c_X_about 18 = .ok (.if_icmp .le 7, 3) := by decide +kernel
theorem d_X_about_21 : decode c_X_about 21 = .ok (.ldc2_w 127, 3) := by decide +kernel
theorem d_X_about_24 : decode c_X_about 24 = .ok (.lreturn, 1) := by decide +kernel
theorem d_X_about_25 : decode c_X_about 25 = .ok (.iload_n 2, 1) := by decide +kernel
theorem d_X_about_26 : decode c_X_about 26 = .ok (.ifCond .lt 9, 3) := by decide +kernel
theorem d_X_about_29 : decode c_X_about 29 = .ok (.iload_n 2, 1) := by decide +kernel
theorem d_X_about_30 : decode c_X_about 30 = .ok (.bipush 12, 2) := by decide +kernel
theorem d_X_about_32 : decode c_X_about 32 = .ok (.if_icmp .lt 5, 3) := by decide +kernel
theorem d_X_about_35 : decode c_X_about 35 = .ok (.lconst 0, 1) := by decide +kernel
theorem d_X_about_36 : decode c_X_about 36 = .ok (.lreturn, 1) := by decide +kernel
theorem d_X_about_37 : decode c_X_about 37 = .ok (.iload_n 3, 1) := by decide +kernel
theorem d_X_about_38 : decode c_X_about 38 = .ok (.ifCond .ne 11, 3) := by decide +kernel
theorem d_X_about_41 : decode c_X_about 41 = .ok (.aload 4, 2) := by decide +kernel
theorem d_X_about_43 : decode c_X_about 43 = .ok (.getfield 129, 3) := by decide +kernel
theorem d_X_about_46 : decode c_X_about 46 = .ok (.iload_n 2, 1) := by decide +kernel
theorem d_X_about_47 : decode c_X_about 47 = .ok (.laload, 1) := by decide +kernel
theorem d_X_about_48 : decode c_X_about 48 = .ok (.lreturn, 1) := by decide +kernel
theorem d_X_about_49 : decode c_X_about 49 = .ok (.iload_n 3, 1) := by decide +kernel
theorem d_X_about_50 : decode c_X_about 50 = .ok (.iconst 1, 1) := by decide +kernel
theorem d_X_about_51 : decode c_X_about 51 = .ok (.if_icmp .ne 13, 3) := by decide +kernel
theorem d_X_about_54 : decode c_X_about 54 = .ok (.aload 4, 2) := by decide +kernel
theorem d_X_about_56 : decode c_X_about 56 = .ok (.getfield 132, 3) := by decide +kernel
theorem d_X_about_59 : decode c_X_about 59 = .ok (.iload_n 2, 1) := by decide +kernel
theorem d_X_about_60 : decode c_X_about 60 = .ok (.laload, 1) := by decide +kernel
theorem d_X_about_61 : decode c_X_about 61 = .ok (.goto 10, 3) := by decide +kernel
theorem d_X_about_64 : decode c_X_about 64 = .ok (.aload 4, 2) := by decide +kernel
theorem d_X_about_66 : decode c_X_about 66 = .ok (.getfield 135, 3) := by decide +kernel
theorem d_X_about_69 : decode c_X_about 69 = .ok (.iload_n 2, 1) := by decide +kernel
theorem d_X_about_70 : decode c_X_about 70 = .ok (.laload, 1) := by decide +kernel
theorem d_X_about_71 : decode c_X_about 71 = .ok (.lreturn, 1) := by decide +kernel
theorem d_X_total_0 : decode c_X_total 0 = .ok (.aload_n 0, 1) := by decide +kernel
theorem d_X_total_1 : decode c_X_total 1 = .ok (.iload_n 1, 1) := by decide +kernel
theorem d_X_total_2 : decode c_X_total 2 = .ok (.invokevirtual 117, 3) := by decide +kernel
theorem d_X_total_5 : decode c_X_total 5 = .ok (.astore_n 2, 1) := by decide +kernel
theorem d_X_total_6 : decode c_X_total 6 = .ok (.aload_n 2, 1) := by decide +kernel
theorem d_X_total_7 : decode c_X_total 7 = .ok (.ifnonnull 9, 3) := by decide +kernel
theorem d_X_total_10 : decode c_X_total 10 = .ok (.ldc2_w 127, 3) := by decide +kernel
theorem d_X_total_13 : decode c_X_total 13 = .ok (.goto 7, 3) := by decide +kernel
theorem d_X_total_16 : decode c_X_total 16 = .ok (.aload_n 2, 1) := by decide +kernel
theorem d_X_total_17 : decode c_X_total 17 = .ok (.getfield 138, 3) := by decide +kernel
theorem d_X_total_20 : decode c_X_total 20 = .ok (.lreturn, 1) := by decide +kernel
theorem d_X_balance_0 : decode c_X_balance 0 = .ok (.aload_n 0, 1) := by decide +kernel
theorem d_X_balance_1 : decode c_X_balance 1 = .ok (.iload_n 1, 1) := by decide +kernel
theorem d_X_balance_2 : decode c_X_balance 2 = .ok (.invokevirtual 40, 3) := by decide +kernel
theorem d_X_balance_5 : decode c_X_balance 5 = .ok (.astore_n 3, 1) := by decide +kernel
theorem d_X_balance_6 : decode c_X_balance 6 = .ok (.aload_n 3, 1) := by decide +kernel
theorem d_X_balance_7 : decode c_X_balance 7 = .ok (.ifnull 11, 3) := by decide +kernel
theorem d_X_balance_10 : decode c_X_balance 10 = .ok (.aload_n 3, 1) := by decide +kernel
theorem d_X_balance_11 : decode c_X_balance 11 = .ok (.iload_n 2, 1) := by decide +kernel
theorem d_X_balance_12 : decode c_X_balance 12 = .ok (.invokevirtual 142, 3) := by decide +kernel
theorem d_X_balance_15 : decode c_X_balance 15 = .ok (.ifCond .ne 7, 3) := by decide +kernel
theorem d_X_balance_18 : decode c_X_balance 18 = .ok (.lconst 0, 1) := by decide +kernel
theorem d_X_balance_19 : decode c_X_balance 19 = .ok (.goto 9, 3) := by decide +kernel
theorem d_X_balance_22 : decode c_X_balance 22 = .ok (.aload_n 3, 1) := by decide +kernel
theorem d_X_balance_23 : decode c_X_balance 23 = .ok (.getfield 51, 3) := by decide +kernel
theorem d_X_balance_26 : decode c_X_balance 26 = .ok (.iload_n 2, 1) := by decide +kernel
theorem d_X_balance_27 : decode c_X_balance 27 = .ok (.laload, 1) := by decide +kernel
theorem d_X_balance_28 : decode c_X_balance 28 = .ok (.lreturn, 1) := by decide +kernel
theorem d_X_drift_0 : decode c_X_drift 0 = .ok (.aload_n 0, 1) := by decide +kernel
theorem d_X_drift_1 : decode c_X_drift 1 = .ok (.iload_n 1, 1) := by decide +kernel
theorem d_X_drift_2 : decode c_X_drift 2 = .ok (.invokevirtual 40, 3) := by decide +kernel
theorem d_X_drift_5 : decode c_X_drift 5 = .ok (.astore_n 3, 1) := by decide +kernel
theorem d_X_drift_6 : decode c_X_drift 6 = .ok (.aload_n 3, 1) := by decide +kernel
theorem d_X_drift_7 : decode c_X_drift 7 = .ok (.ifnull 11, 3) := by decide +kernel
theorem d_X_drift_10 : decode c_X_drift 10 = .ok (.aload_n 3, 1) := by decide +kernel
theorem d_X_drift_11 : decode c_X_drift 11 = .ok (.iload_n 2, 1) := by decide +kernel
theorem d_X_drift_12 : decode c_X_drift 12 = .ok (.invokevirtual 142, 3) := by decide +kernel
theorem d_X_drift_15 : decode c_X_drift 15 = .ok (.ifCond .ne 7, 3) := by decide +kernel
theorem d_X_drift_18 : decode c_X_drift 18 = .ok (.lconst 0, 1) := by decide +kernel
theorem d_X_drift_19 : decode c_X_drift 19 = .ok (.goto 9, 3) := by decide +kernel
theorem d_X_drift_22 : decode c_X_drift 22 = .ok (.aload_n 3, 1) := by decide +kernel
theorem d_X_drift_23 : decode c_X_drift 23 = .ok (.getfield 145, 3) := by decide +kernel
theorem d_X_drift_26 : decode c_X_drift 26 = .ok (.iload_n 2, 1) := by decide +kernel
theorem d_X_drift_27 : decode c_X_drift 27 = .ok (.laload, 1) := by decide +kernel
theorem d_X_drift_28 : decode c_X_drift 28 = .ok (.lreturn, 1) := by decide +kernel
theorem d_X_settle_0 : decode c_X_settle 0 = .ok (.aload_n 0, 1) := by decide +kernel
theorem d_X_settle_1 : decode c_X_settle 1 = .ok (.iload_n 1, 1) := by decide +kernel
theorem d_X_settle_2 : decode c_X_settle 2 = .ok (.invokevirtual 40, 3) := by decide +kernel
theorem d_X_settle_5 : decode c_X_settle 5 = .ok (.astore_n 2, 1) := by decide +kernel
theorem d_X_settle_6 : decode c_X_settle 6 = .ok (.aload_n 2, 1) := by decide +kernel
theorem d_X_settle_7 : decode c_X_settle 7 = .ok (.ifnull 13, 3) := by decide +kernel
theorem d_X_settle_10 : decode c_X_settle 10 = .ok (.aload_n 2, 1) := by decide +kernel
theorem d_X_settle_11 : decode c_X_settle 11 = .ok (.getfield 55, 3) := by decide +kernel
theorem d_X_settle_14 : decode c_X_settle 14 = .ok (.getfield 59, 3) := by decide +kernel
theorem d_X_settle_17 : decode c_X_settle 17 = .ok (.ifCond .eq 5, 3) := by decide +kernel
theorem d_X_settle_20 : decode c_X_settle 20 = .ok (.iconst (-1), 1) := by decide +kernel
theorem d_X_settle_21 : decode c_X_settle 21 = .ok (.ireturn, 1) := by decide +kernel
theorem d_X_settle_22 : decode c_X_settle 22 = .ok (.aload_n 0, 1) := by decide +kernel
theorem d_X_settle_23 : decode c_X_settle 23 = .ok (.getfield 31, 3) := by decide +kernel
theorem d_X_settle_26 : decode c_X_settle 26 = .ok (.aload_n 2, 1) := by decide +kernel
theorem d_X_settle_27 : decode c_X_settle 27 = .ok (.getfield 55, 3) := by decide +kernel
theorem d_X_settle_30 : decode c_X_settle 30 = .ok (.aload_n 2, 1) := by decide +kernel
theorem d_X_settle_31 : decode c_X_settle 31 = .ok (.getfield 51, 3) := by decide +kernel
theorem d_X_settle_34 : decode c_X_settle 34 = .ok (.invokevirtual 146, 3) := by decide +kernel
theorem d_X_settle_37 : decode c_X_settle 37 = .ok (.aload_n 2, 1) := by decide +kernel
theorem d_X_settle_38 : decode c_X_settle 38 = .ok (.getfield 55, 3) := by decide +kernel
theorem d_X_settle_41 : decode c_X_settle 41 = .ok (.getfield 150, 3) := by decide +kernel
theorem d_X_settle_44 : decode c_X_settle 44 = .ok (.ireturn, 1) := by decide +kernel
theorem d_X_transfer_0 : decode c_X_transfer 0 = .ok (.aload_n 0, 1) := by decide +kernel
theorem d_X_transfer_1 : decode c_X_transfer 1 = .ok (.iload_n 1, 1) := by decide +kernel
theorem d_X_transfer_2 : decode c_X_transfer 2 = .ok (.invokevirtual 40, 3) := by decide +kernel
theorem d_X_transfer_5 : decode c_X_transfer 5 = .ok (.astore 4, 2) := by decide +kernel
theorem d_X_transfer_7 : decode c_X_transfer 7 = .ok (.aload 4, 2) := by decide +kernel
theorem d_X_transfer_9 : decode c_X_transfer 9 = .ok (.ifnull 15, 3) := by decide +kernel
theorem d_X_transfer_12 : decode c_X_transfer 12 = .ok (.aload 4, 2) := by decide +kernel
theorem d_X_transfer_14 : decode c_X_transfer 14 = .ok (.getfield 55, 3) := by decide +kernel
theorem d_X_transfer_17 : decode c_X_transfer 17 = .ok (.iload_n 2, 1) := by decide +kernel
theorem d_X_transfer_18 : decode c_X_transfer 18 = .ok (.invokevirtual 153, 3) := by decide +kernel
theorem d_X_transfer_21 : decode c_X_transfer 21 = .ok (.ifCond .ne 13, 3) := by decide +kernel
theorem d_X_transfer_24 : decode c_X_transfer 24 = .ok (.new 156, 3) := by decide +kernel
theorem d_X_transfer_27 : decode c_X_transfer 27 = .ok (.dup, 1) := by decide +kernel
theorem d_X_transfer_28 : decode c_X_transfer 28 = .ok (.ldc 158, 2) := by decide +kernel
theorem d_X_transfer_30 : decode c_X_transfer 30 = .ok (.invokespecial 160, 3) := by decide +kernel
theorem d_X_transfer_33 : decode c_X_transfer 33 = .ok (.athrow, 1) := by decide +kernel
theorem d_X_transfer_34 : decode c_X_transfer 34 = .ok (.iload_n 3, 1) := by decide +kernel
theorem d_X_transfer_35 : decode c_X_transfer 35 = .ok (.tableswitch 83 0 3 #[29, 41, 53, 64], 29) := by decide +kernel
theorem d_X_transfer_64 : decode c_X_transfer 64 = .ok (.aload 4, 2) := by decide +kernel
theorem d_X_transfer_66 : decode c_X_transfer 66 = .ok (.getfield 55, 3) := by decide +kernel
theorem d_X_transfer_69 : decode c_X_transfer 69 = .ok (.getfield 163, 3) := by decide +kernel
theorem d_X_transfer_72 : decode c_X_transfer 72 = .ok (.iload_n 2, 1) := by decide +kernel
theorem d_X_transfer_73 : decode c_X_transfer 73 = .ok (.iaload, 1) := by decide +kernel
theorem d_X_transfer_74 : decode c_X_transfer 74 = .ok (.i2l, 1) := by decide +kernel
theorem d_X_transfer_75 : decode c_X_transfer 75 = .ok (.lreturn, 1) := by decide +kernel
theorem d_X_transfer_76 : decode c_X_transfer 76 = .ok (.aload 4, 2) := by decide +kernel
theorem d_X_transfer_78 : decode c_X_transfer 78 = .ok (.getfield 55, 3) := by decide +kernel
theorem d_X_transfer_81 : decode c_X_transfer 81 = .ok (.getfield 167, 3) := by decide +kernel
theorem d_X_transfer_84 : decode c_X_transfer 84 = .ok (.iload_n 2, 1) := by decide +kernel
theorem d_X_transfer_85 : decode c_X_transfer 85 = .ok (.iaload, 1) := by decide +kernel
theorem d_X_transfer_86 : decode c_X_transfer 86 = .ok (.i2l, 1) := by decide +kernel
theorem d_X_transfer_87 : decode c_X_transfer 87 = .ok (.lreturn, 1) := by decide +kernel
theorem d_X_transfer_88 : decode c_X_transfer 88 = .ok (.aload 4, 2) := by decide +kernel
theorem d_X_transfer_90 : decode c_X_transfer 90 = .ok (.getfield 55, 3) := by decide +kernel
theorem d_X_transfer_93 : decode c_X_transfer 93 = .ok (.getfield 170, 3) := by decide +kernel
theorem d_X_transfer_96 : decode c_X_transfer 96 = .ok (.iload_n 2, 1) := by decide +kernel
theorem d_X_transfer_97 : decode c_X_transfer 97 = .ok (.laload, 1) := by decide +kernel
theorem d_X_transfer_98 : decode c_X_transfer 98 = .ok (.lreturn, 1) := by decide +kernel
theorem d_X_transfer_99 : decode c_X_transfer 99 = .ok (.aload 4, 2) := by decide +kernel
theorem d_X_transfer_101 : decode c_X_transfer 101 = .ok (.getfield 55, 3) := by decide +kernel
theorem d_X_transfer_104 : decode c_X_transfer 104 = .ok (.getfield 173, 3) := by decide +kernel
theorem d_X_transfer_107 : decode c_X_transfer 107 = .ok (.iload_n 2, 1) := by decide +kernel
theorem d_X_transfer_108 : decode c_X_transfer 108 = .ok (.baload, 1) := by decide +kernel
theorem d_X_transfer_109 : decode c_X_transfer 109 = .ok (.ifCond .eq 7, 3) := by decide +kernel
theorem d_X_transfer_112 : decode c_X_transfer 112 = .ok (.lconst 1, 1) := by decide +kernel
theorem d_X_transfer_113 : decode c_X_transfer 113 = .ok (.goto 4, 3) := by decide +kernel
theorem d_X_transfer_116 : decode c_X_transfer 116 = .ok (.lconst 0, 1) := by decide +kernel
theorem d_X_transfer_117 : decode c_X_transfer 117 = .ok (.lreturn, 1) := by decide +kernel
theorem d_X_transfer_118 : decode c_X_transfer 118 = .ok (.new 177, 3) := by decide +kernel
theorem d_X_transfer_121 : decode c_X_transfer 121 = .ok (.dup, 1) := by decide +kernel
theorem d_X_transfer_122 : decode c_X_transfer 122 = .ok (.ldc 179, 2) := by decide +kernel
theorem d_X_transfer_124 : decode c_X_transfer 124 = .ok (.invokespecial 181, 3) := by decide +kernel
theorem d_X_transfer_127 : decode c_X_transfer 127 = .ok (.athrow, 1) := by decide +kernel
theorem d_X_tick_0 : decode c_X_tick 0 = .ok (.aload_n 0, 1) := by decide +kernel
theorem d_X_tick_1 : decode c_X_tick 1 = .ok (.iload_n 1, 1) := by decide +kernel
theorem d_X_tick_2 : decode c_X_tick 2 = .ok (.invokevirtual 40, 3) := by decide +kernel
theorem d_X_tick_5 : decode c_X_tick 5 = .ok (.astore_n 3, 1) := by decide +kernel
theorem d_X_tick_6 : decode c_X_tick 6 = .ok (.aload_n 3, 1) := by decide +kernel
theorem d_X_tick_7 : decode c_X_tick 7 = .ok (.ifnull 26, 3) := by decide +kernel
theorem d_X_tick_10 : decode c_X_tick 10 = .ok (.aload_n 3, 1) := by decide +kernel
theorem d_X_tick_11 : decode c_X_tick 11 = .ok (.getfield 55, 3) := by decide +kernel
theorem d_X_tick_14 : decode c_X_tick 14 = .ok (.iload_n 2, 1) := by decide +kernel
theorem d_X_tick_15 : decode c_X_tick 15 = .ok (.invokevirtual 153, 3) := by decide +kernel
theorem d_X_tick_18 : decode c_X_tick 18 = .ok (.ifCond .eq 15, 3) := by decide +kernel
theorem d_X_tick_21 : decode c_X_tick 21 = .ok (.aload_n 3, 1) := by decide +kernel
theorem d_X_tick_22 : decode c_X_tick 22 = .ok (.getfield 55, 3) := by decide +kernel
theorem d_X_tick_25 : decode c_X_tick 25 = .ok (.getfield 173, 3) := by decide +kernel
theorem d_X_tick_28 : decode c_X_tick 28 = .ok (.iload_n 2, 1) := by decide +kernel
theorem d_X_tick_29 : decode c_X_tick 29 = .ok (.baload, 1) := by decide +kernel
theorem d_X_tick_30 : decode c_X_tick 30 = .ok (.ifCond .eq 5, 3) := by decide +kernel
theorem d_X_tick_33 : decode c_X_tick 33 = .ok (.iconst 0, 1) := by decide +kernel
theorem d_X_tick_34 : decode c_X_tick 34 = .ok (.ireturn, 1) := by decide +kernel
theorem d_X_tick_35 : decode c_X_tick 35 = .ok (.aload_n 3, 1) := by decide +kernel
theorem d_X_tick_36 : decode c_X_tick 36 = .ok (.iload_n 2, 1) := by decide +kernel
theorem d_X_tick_37 : decode c_X_tick 37 = .ok (.invokevirtual 182, 3) := by decide +kernel
theorem d_X_tick_40 : decode c_X_tick 40 = .ok (.iconst 1, 1) := by decide +kernel
theorem d_X_tick_41 : decode c_X_tick 41 = .ok (.ireturn, 1) := by decide +kernel
theorem d_X_giveUp_0 : decode c_X_giveUp 0 = .ok (.aload_n 0, 1) := by decide +kernel
theorem d_X_giveUp_1 : decode c_X_giveUp 1 = .ok (.iload_n 1, 1) := by decide +kernel
theorem d_X_giveUp_2 : decode c_X_giveUp 2 = .ok (.invokevirtual 40, 3) := by decide +kernel
theorem d_X_giveUp_5 : decode c_X_giveUp 5 = .ok (.astore_n 2, 1) := by decide +kernel
theorem d_X_giveUp_6 : decode c_X_giveUp 6 = .ok (.aload_n 2, 1) := by decide +kernel
theorem d_X_giveUp_7 : decode c_X_giveUp 7 = .ok (.ifnull 13, 3) := by decide +kernel
theorem d_X_giveUp_10 : decode c_X_giveUp 10 = .ok (.aload_n 2, 1) := by decide +kernel
theorem d_X_giveUp_11 : decode c_X_giveUp 11 = .ok (.getfield 55, 3) := by decide +kernel
theorem d_X_giveUp_14 : decode c_X_giveUp 14 = .ok (.getfield 59, 3) := by decide +kernel
theorem d_X_giveUp_17 : decode c_X_giveUp 17 = .ok (.ifCond .ne 5, 3) := by decide +kernel
theorem d_X_giveUp_20 : decode c_X_giveUp 20 = .ok (.iconst (-1), 1) := by decide +kernel
theorem d_X_giveUp_21 : decode c_X_giveUp 21 = .ok (.ireturn, 1) := by decide +kernel
theorem d_X_giveUp_22 : decode c_X_giveUp 22 = .ok (.aload_n 2, 1) := by decide +kernel
theorem d_X_giveUp_23 : decode c_X_giveUp 23 = .ok (.getfield 55, 3) := by decide +kernel
theorem d_X_giveUp_26 : decode c_X_giveUp 26 = .ok (.iconst 0, 1) := by decide +kernel
theorem d_X_giveUp_27 : decode c_X_giveUp 27 = .ok (.putfield 59, 3) := by decide +kernel
theorem d_X_giveUp_30 : decode c_X_giveUp 30 = .ok (.aload_n 2, 1) := by decide +kernel
theorem d_X_giveUp_31 : decode c_X_giveUp 31 = .ok (.getfield 55, 3) := by decide +kernel
theorem d_X_giveUp_34 : decode c_X_giveUp 34 = .ok (.getfield 186, 3) := by decide +kernel
theorem d_X_giveUp_37 : decode c_X_giveUp 37 = .ok (.ireturn, 1) := by decide +kernel
theorem d_X_close_0 : decode c_X_close 0 = .ok (.aload_n 0, 1) := by decide +kernel
theorem d_X_close_1 : decode c_X_close 1 = .ok (.iload_n 1, 1) := by decide +kernel
theorem d_X_close_2 : decode c_X_close 2 = .ok (.invokevirtual 40, 3) := by decide +kernel
theorem d_X_close_5 : decode c_X_close 5 = .ok (.astore_n 2, 1) := by decide +kernel
theorem d_X_close_6 : decode c_X_close 6 = .ok (.aload_n 2, 1) := by decide +kernel
theorem d_X_close_7 : decode c_X_close 7 = .ok (.ifnull 23, 3) := by decide +kernel
theorem d_X_close_10 : decode c_X_close 10 = .ok (.aload_n 2, 1) := by decide +kernel
theorem d_X_close_11 : decode c_X_close 11 = .ok (.getfield 55, 3) := by decide +kernel
theorem d_X_close_14 : decode c_X_close 14 = .ok (.getfield 59, 3) := by decide +kernel
theorem d_X_close_17 : decode c_X_close 17 = .ok (.ifCond .eq 13, 3) := by decide +kernel
theorem d_X_close_20 : decode c_X_close 20 = .ok (.aload_n 2, 1) := by decide +kernel
theorem d_X_close_21 : decode c_X_close 21 = .ok (.getfield 55, 3) := by decide +kernel
theorem d_X_close_24 : decode c_X_close 24 = .ok (.getfield 186, 3) := by decide +kernel
theorem d_X_close_27 : decode c_X_close 27 = .ok (.ifCond .eq 5, 3) := by decide +kernel
theorem d_X_close_30 : decode c_X_close 30 = .ok (.iconst 0, 1) := by decide +kernel
theorem d_X_close_31 : decode c_X_close 31 = .ok (.ireturn, 1) := by decide +kernel
theorem d_X_close_32 : decode c_X_close 32 = .ok (.aload_n 2, 1) := by decide +kernel
theorem d_X_close_33 : decode c_X_close 33 = .ok (.getfield 55, 3) := by decide +kernel
theorem d_X_close_36 : decode c_X_close 36 = .ok (.iconst 0, 1) := by decide +kernel
theorem d_X_close_37 : decode c_X_close 37 = .ok (.putfield 59, 3) := by decide +kernel
theorem d_X_close_40 : decode c_X_close 40 = .ok (.iconst 1, 1) := by decide +kernel
theorem d_X_close_41 : decode c_X_close 41 = .ok (.ireturn, 1) := by decide +kernel
theorem d_X_count_0 : decode c_X_count 0 = .ok (.aload_n 0, 1) := by decide +kernel
theorem d_X_count_1 : decode c_X_count 1 = .ok (.iload_n 1, 1) := by decide +kernel
theorem d_X_count_2 : decode c_X_count 2 = .ok (.invokevirtual 40, 3) := by decide +kernel
theorem d_X_count_5 : decode c_X_count 5 = .ok (.astore_n 3, 1) := by decide +kernel
theorem d_X_count_6 : decode c_X_count 6 = .ok (.aload_n 3, 1) := by decide +kernel
theorem d_X_count_7 : decode c_X_count 7 = .ok (.ifnonnull 5, 3) := by decide +kernel
theorem d_X_count_10 : decode c_X_count 10 = .ok (.iconst (-1), 1) := by decide +kernel
theorem d_X_count_11 : decode c_X_count 11 = .ok (.ireturn, 1) := by decide +kernel
theorem d_X_count_12 : decode c_X_count 12 = .ok (.iload_n 2, 1) := by decide +kernel
theorem d_X_count_13 : decode c_X_count 13 = .ok (.tableswitch 85 0 3 #[31, 36, 58, 80], 31) := by decide +kernel
theorem d_X_count_44 : decode c_X_count 44 = .ok (.aload_n 3, 1) := by decide +kernel
theorem d_X_count_45 : decode c_X_count 45 = .ok (.getfield 44, 3) := by decide +kernel
theorem d_X_count_48 : decode c_X_count 48 = .ok (.ireturn, 1) := by decide +kernel
theorem d_X_count_49 : decode c_X_count 49 = .ok (.aload_n 3, 1) := by decide +kernel
theorem d_X_count_50 : decode c_X_count 50 = .ok (.getfield 55, 3) := by decide +kernel
theorem d_X_count_53 : decode c_X_count 53 = .ok (.getfield 59, 3) := by decide +kernel
theorem d_X_count_56 : decode c_X_count 56 = .ok (.ifCond .eq 13, 3) := by decide +kernel
theorem d_X_count_59 : decode c_X_count 59 = .ok (.aload_n 3, 1) := by decide +kernel
theorem d_X_count_60 : decode c_X_count 60 = .ok (.getfield 55, 3) := by decide +kernel
theorem d_X_count_63 : decode c_X_count 63 = .ok (.getfield 189, 3) := by decide +kernel
theorem d_X_count_66 : decode c_X_count 66 = .ok (.goto 4, 3) := by decide +kernel
theorem d_X_count_69 : decode c_X_count 69 = .ok (.iconst (-1), 1) := by decide +kernel
theorem d_X_count_70 : decode c_X_count 70 = .ok (.ireturn, 1) := by decide +kernel
theorem d_X_count_71 : decode c_X_count 71 = .ok (.aload_n 3, 1) := by decide +kernel
theorem d_X_count_72 : decode c_X_count 72 = .ok (.getfield 55, 3) := by decide +kernel
theorem d_X_count_75 : decode c_X_count 75 = .ok (.getfield 59, 3) := by decide +kernel
theorem d_X_count_78 : decode c_X_count 78 = .ok (.ifCond .eq 13, 3) := by decide +kernel
theorem d_X_count_81 : decode c_X_count 81 = .ok (.aload_n 3, 1) := by decide +kernel
theorem d_X_count_82 : decode c_X_count 82 = .ok (.getfield 55, 3) := by decide +kernel
theorem d_X_count_85 : decode c_X_count 85 = .ok (.getfield 186, 3) := by decide +kernel
theorem d_X_count_88 : decode c_X_count 88 = .ok (.goto 4, 3) := by decide +kernel
theorem d_X_count_91 : decode c_X_count 91 = .ok (.iconst (-1), 1) := by decide +kernel
theorem d_X_count_92 : decode c_X_count 92 = .ok (.ireturn, 1) := by decide +kernel
theorem d_X_count_93 : decode c_X_count 93 = .ok (.aload_n 3, 1) := by decide +kernel
theorem d_X_count_94 : decode c_X_count 94 = .ok (.getfield 192, 3) := by decide +kernel
theorem d_X_count_97 : decode c_X_count 97 = .ok (.ireturn, 1) := by decide +kernel
theorem d_X_count_98 : decode c_X_count 98 = .ok (.iconst (-1), 1) := by decide +kernel
theorem d_X_count_99 : decode c_X_count 99 = .ok (.ireturn, 1) := by decide +kernel
theorem d_X_groupOf_0 : decode c_X_groupOf 0 = .ok (.aload_n 0, 1) := by decide +kernel
theorem d_X_groupOf_1 : decode c_X_groupOf 1 = .ok (.iload_n 1, 1) := by decide +kernel
theorem d_X_groupOf_2 : decode c_X_groupOf 2 = .ok (.invokevirtual 40, 3) := by decide +kernel
theorem d_X_groupOf_5 : decode c_X_groupOf 5 = .ok (.astore_n 3, 1) := by decide +kernel
theorem d_X_groupOf_6 : decode c_X_groupOf 6 = .ok (.aload_n 3, 1) := by decide +kernel
theorem d_X_groupOf_7 : decode c_X_groupOf 7 = .ok (.ifnull 21, 3) := by decide +kernel
theorem d_X_groupOf_10 : decode c_X_groupOf 10 = .ok (.aload_n 3, 1) := by decide +kernel
theorem d_X_groupOf_11 : decode c_X_groupOf 11 = .ok (.getfield 55, 3) := by decide +kernel
theorem d_X_groupOf_14 : decode c_X_groupOf 14 = .ok (.getfield 59, 3) := by decide +kernel
theorem d_X_groupOf_17 : decode c_X_groupOf 17 = .ok (.ifCond .eq 11, 3) := by decide +kernel
theorem d_X_groupOf_20 : decode c_X_groupOf 20 = .ok (.aload_n 3, 1) := by decide +kernel
theorem d_X_groupOf_21 : decode c_X_groupOf 21 = .ok (.iload_n 2, 1) := by decide +kernel
theorem d_X_groupOf_22 : decode c_X_groupOf 22 = .ok (.invokevirtual 142, 3) := by decide +kernel
theorem d_X_groupOf_25 : decode c_X_groupOf 25 = .ok (.ifCond .ne 5, 3) := by decide +kernel
theorem d_X_groupOf_28 : decode c_X_groupOf 28 = .ok (.iconst (-1), 1) := by decide +kernel
theorem d_X_groupOf_29 : decode c_X_groupOf 29 = .ok (.ireturn, 1) := by decide +kernel
theorem d_X_groupOf_30 : decode c_X_groupOf 30 = .ok (.aload_n 3, 1) := by decide +kernel
theorem d_X_groupOf_31 : decode c_X_groupOf 31 = .ok (.getfield 55, 3) := by decide +kernel
theorem d_X_groupOf_34 : decode c_X_groupOf 34 = .ok (.getfield 195, 3) := by decide +kernel
theorem d_X_groupOf_37 : decode c_X_groupOf 37 = .ok (.iload_n 2, 1) := by decide +kernel
theorem d_X_groupOf_38 : decode c_X_groupOf 38 = .ok (.iaload, 1) := by decide +kernel
theorem d_X_groupOf_39 : decode c_X_groupOf 39 = .ok (.ireturn, 1) := by decide +kernel
theorem d_X_clubAt_0 : decode c_X_clubAt 0 = .ok (.iload_n 1, 1) := by decide +kernel
theorem d_X_clubAt_1 : decode c_X_clubAt 1 = .ok (.ifCond .lt 11, 3) := by decide +kernel
theorem d_X_clubAt_4 : decode c_X_clubAt 4 = .ok (.iload_n 1, 1) := by decide +kernel
theorem d_X_clubAt_5 : decode c_X_clubAt 5 = .ok (.aload_n 0, 1) := by decide +kernel
theorem d_X_clubAt_6 : decode c_X_clubAt 6 = .ok (.getfield 35, 3) := by decide +kernel
theorem d_X_clubAt_9 : decode c_X_clubAt 9 = .ok (.if_icmp .lt 7, 3) := by decide +kernel
theorem d_X_clubAt_12 : decode c_X_clubAt 12 = .ok (.aconst_null, 1) := by decide +kernel
theorem d_X_clubAt_13 : decode c_X_clubAt 13 = .ok (.goto 9, 3) := by decide +kernel
theorem d_X_clubAt_16 : decode c_X_clubAt 16 = .ok (.aload_n 0, 1) := by decide +kernel
theorem d_X_clubAt_17 : decode c_X_clubAt 17 = .ok (.getfield 11, 3) := by decide +kernel
theorem d_X_clubAt_20 : decode c_X_clubAt 20 = .ok (.iload_n 1, 1) := by decide +kernel
theorem d_X_clubAt_21 : decode c_X_clubAt 21 = .ok (.aaload, 1) := by decide +kernel
theorem d_X_clubAt_22 : decode c_X_clubAt 22 = .ok (.areturn, 1) := by decide +kernel
theorem d_X_billAt_0 : decode c_X_billAt 0 = .ok (.iload_n 1, 1) := by decide +kernel
theorem d_X_billAt_1 : decode c_X_billAt 1 = .ok (.ifCond .lt 11, 3) := by decide +kernel
theorem d_X_billAt_4 : decode c_X_billAt 4 = .ok (.iload_n 1, 1) := by decide +kernel
theorem d_X_billAt_5 : decode c_X_billAt 5 = .ok (.aload_n 0, 1) := by decide +kernel
theorem d_X_billAt_6 : decode c_X_billAt 6 = .ok (.getfield 114, 3) := by decide +kernel
theorem d_X_billAt_9 : decode c_X_billAt 9 = .ok (.if_icmp .lt 7, 3) := by decide +kernel
theorem d_X_billAt_12 : decode c_X_billAt 12 = .ok (.aconst_null, 1) := by decide +kernel
theorem d_X_billAt_13 : decode c_X_billAt 13 = .ok (.goto 9, 3) := by decide +kernel
theorem d_X_billAt_16 : decode c_X_billAt 16 = .ok (.aload_n 0, 1) := by decide +kernel
theorem d_X_billAt_17 : decode c_X_billAt 17 = .ok (.getfield 17, 3) := by decide +kernel
theorem d_X_billAt_20 : decode c_X_billAt 20 = .ok (.iload_n 1, 1) := by decide +kernel
theorem d_X_billAt_21 : decode c_X_billAt 21 = .ok (.aaload, 1) := by decide +kernel
theorem d_X_billAt_22 : decode c_X_billAt 22 = .ok (.areturn, 1) := by decide +kernel
theorem d_X_refusalOfPost_0 : decode c_X_refusalOfPost 0 = .ok (.aload_n 1, 1) := by decide +kernel
theorem d_X_refusalOfPost_1 : decode c_X_refusalOfPost 1 = .ok (.getfield 55, 3) := by decide +kernel
theorem d_X_refusalOfPost_4 : decode c_X_refusalOfPost 4 = .ok (.getfield 59, 3) := by decide +kernel
theorem d_X_refusalOfPost_7 : decode c_X_refusalOfPost 7 = .ok (.ifCond .eq 6, 3) := by decide +kernel
theorem d_X_refusalOfPost_10 : decode c_X_refusalOfPost 10 = .ok (.bipush (-2), 2) := by decide +kernel
theorem d_X_refusalOfPost_12 : decode c_X_refusalOfPost 12 = .ok (.ireturn, 1) := by decide +kernel
theorem d_X_refusalOfPost_13 : decode c_X_refusalOfPost 13 = .ok (.aload_n 0, 1) := by decide +kernel
theorem d_X_refusalOfPost_14 : decode c_X_refusalOfPost 14 = .ok (.getfield 114, 3) := by decide +kernel
theorem d_X_refusalOfPost_17 : decode c_X_refusalOfPost 17 = .ok (.bipush 64, 2) := by decide +kernel
theorem d_X_refusalOfPost_19 : decode c_X_refusalOfPost 19 = .ok (.if_icmp .lt 6, 3) := by decide +kernel
theorem d_X_refusalOfPost_22 : decode c_X_refusalOfPost 22 = .ok (.bipush (-3), 2) := by decide +kernel
theorem d_X_refusalOfPost_24 : decode c_X_refusalOfPost 24 = .ok (.ireturn, 1) := by decide +kernel
theorem d_X_refusalOfPost_25 : decode c_X_refusalOfPost 25 = .ok (.aload_n 0, 1) := by decide +kernel
theorem d_X_refusalOfPost_26 : decode c_X_refusalOfPost 26 = .ok (.getfield 24, 3) := by decide +kernel
theorem d_X_refusalOfPost_29 : decode c_X_refusalOfPost 29 = .ok (.aload_n 1, 1) := by decide +kernel
theorem d_X_refusalOfPost_30 : decode c_X_refusalOfPost 30 = .ok (.invokevirtual 198, 3) := by decide +kernel
theorem d_X_refusalOfPost_33 : decode c_X_refusalOfPost 33 = .ok (.ireturn, 1) := by decide +kernel
theorem d_X_mostWeight_0 : decode c_X_mostWeight 0 = .ok (.iload_n 0, 1) := by decide +kernel
theorem d_X_mostWeight_1 : decode c_X_mostWeight 1 = .ok (.tableswitch 44 1 4 #[31, 33, 37, 40], 31) := by decide +kernel
theorem d_X_mostWeight_32 : decode c_X_mostWeight 32 = .ok (.iconst 1, 1) := by decide +kernel
theorem d_X_mostWeight_33 : decode c_X_mostWeight 33 = .ok (.ireturn, 1) := by decide +kernel
theorem d_X_mostWeight_34 : decode c_X_mostWeight 34 = .ok (.sipush 1000, 3) := by decide +kernel
theorem d_X_mostWeight_37 : decode c_X_mostWeight 37 = .ok (.ireturn, 1) := by decide +kernel
theorem d_X_mostWeight_38 : decode c_X_mostWeight 38 = .ok (.ldc 68, 2) := by decide +kernel
theorem d_X_mostWeight_40 : decode c_X_mostWeight 40 = .ok (.ireturn, 1) := by decide +kernel
theorem d_X_mostWeight_41 : decode c_X_mostWeight 41 = .ok (.sipush 10000, 3) := by decide +kernel
theorem d_X_mostWeight_44 : decode c_X_mostWeight 44 = .ok (.ireturn, 1) := by decide +kernel
theorem d_X_mostWeight_45 : decode c_X_mostWeight 45 = .ok (.iconst 0, 1) := by decide +kernel
theorem d_X_mostWeight_46 : decode c_X_mostWeight 46 = .ok (.ireturn, 1) := by decide +kernel
theorem d_X_sumOf_0 : decode c_X_sumOf 0 = .ok (.lconst 0, 1) := by decide +kernel
theorem d_X_sumOf_1 : decode c_X_sumOf 1 = .ok (.lstore_n 1, 1) := by decide +kernel
theorem d_X_sumOf_2 : decode c_X_sumOf 2 = .ok (.iconst 0, 1) := by decide +kernel
theorem d_X_sumOf_3 : decode c_X_sumOf 3 = .ok (.istore_n 3, 1) := by decide +kernel
theorem d_X_sumOf_4 : decode c_X_sumOf 4 = .ok (.iload_n 3, 1) := by decide +kernel
theorem d_X_sumOf_5 : decode c_X_sumOf 5 = .ok (.bipush 12, 2) := by decide +kernel
theorem d_X_sumOf_7 : decode c_X_sumOf 7 = .ok (.if_icmp .ge 15, 3) := by decide +kernel
theorem d_X_sumOf_10 : decode c_X_sumOf 10 = .ok (.lload_n 1, 1) := by decide +kernel
theorem d_X_sumOf_11 : decode c_X_sumOf 11 = .ok (.aload_n 0, 1) := by decide +kernel
theorem d_X_sumOf_12 : decode c_X_sumOf 12 = .ok (.iload_n 3, 1) := by decide +kernel
theorem d_X_sumOf_13 : decode c_X_sumOf 13 = .ok (.laload, 1) := by decide +kernel
theorem d_X_sumOf_14 : decode c_X_sumOf 14 = .ok (.ladd, 1) := by decide +kernel
theorem d_X_sumOf_15 : decode c_X_sumOf 15 = .ok (.lstore_n 1, 1) := by decide +kernel
theorem d_X_sumOf_16 : decode c_X_sumOf 16 = .ok (.iinc 3 1, 3) := by decide +kernel
theorem d_X_sumOf_19 : decode c_X_sumOf 19 = .ok (.goto (-15), 3) := by decide +kernel
theorem d_X_sumOf_22 : decode c_X_sumOf 22 = .ok (.lload_n 1, 1) := by decide +kernel
theorem d_X_sumOf_23 : decode c_X_sumOf 23 = .ok (.lreturn, 1) := by decide +kernel
theorem d_X_portion_0 : decode c_X_portion 0 = .ok (.lload 4, 2) := by decide +kernel
theorem d_X_portion_2 : decode c_X_portion 2 = .ok (.lconst 0, 1) := by decide +kernel
theorem d_X_portion_3 : decode c_X_portion 3 = .ok (.lcmp, 1) := by decide +kernel
theorem d_X_portion_4 : decode c_X_portion 4 = .ok (.ifCond .gt 5, 3) := by decide +kernel
theorem d_X_portion_7 : decode c_X_portion 7 = .ok (.lconst 0, 1) := by decide +kernel
theorem d_X_portion_8 : decode c_X_portion 8 = .ok (.lreturn, 1) := by decide +kernel
theorem d_X_portion_9 : decode c_X_portion 9 = .ok (.lconst 0, 1) := by decide +kernel
theorem d_X_portion_10 : decode c_X_portion 10 = .ok (.lstore 6, 2) := by decide +kernel
theorem d_X_portion_12 : decode c_X_portion 12 = .ok (.lconst 0, 1) := by decide +kernel
theorem d_X_portion_13 : decode c_X_portion 13 = .ok (.lstore 8, 2) := by decide +kernel
theorem d_X_portion_15 : decode c_X_portion 15 = .ok (.bipush 40, 2) := by decide +kernel
theorem d_X_portion_17 : decode c_X_portion 17 = .ok (.istore 10, 2) := by decide +kernel
theorem d_X_portion_19 : decode c_X_portion 19 = .ok (.iload 10, 2) := by decide +kernel
theorem d_X_portion_21 : decode c_X_portion 21 = .ok (.ifCond .lt 51, 3) := by decide +kernel
theorem d_X_portion_24 : decode c_X_portion 24 = .ok (.lload_n 0, 1) := by decide +kernel
theorem d_X_portion_25 : decode c_X_portion 25 = .ok (.iload 10, 2) := by decide +kernel
theorem d_X_portion_27 : decode c_X_portion 27 = .ok (.lshr, 1) := by decide +kernel
theorem d_X_portion_28 : decode c_X_portion 28 = .ok (.ldc2_w 201, 3) := by decide +kernel
theorem d_X_portion_31 : decode c_X_portion 31 = .ok (.land, 1) := by decide +kernel
theorem d_X_portion_32 : decode c_X_portion 32 = .ok (.lstore 11, 2) := by decide +kernel
theorem d_X_portion_34 : decode c_X_portion 34 = .ok (.lload 8, 2) := by decide +kernel
theorem d_X_portion_36 : decode c_X_portion 36 = .ok (.bipush 20, 2) := by decide +kernel
theorem d_X_portion_38 : decode c_X_portion 38 = .ok (.lshl, 1) := by decide +kernel
theorem d_X_portion_39 : decode c_X_portion 39 = .ok (.lload 11, 2) := by decide +kernel
theorem d_X_portion_41 : decode c_X_portion 41 = .ok (.lload_n 2, 1) := by decide +kernel
theorem d_X_portion_42 : decode c_X_portion 42 = .ok (.lmul, 1) := by decide +kernel
theorem d_X_portion_43 : decode c_X_portion 43 = .ok (.ladd, 1) := by decide +kernel
theorem d_X_portion_44 : decode c_X_portion 44 = .ok (.lstore 13, 2) := by decide +kernel
theorem d_X_portion_46 : decode c_X_portion 46 = .ok (.lload 6, 2) := by decide +kernel
theorem d_X_portion_48 : decode c_X_portion 48 = .ok (.bipush 20, 2) := by decide +kernel
theorem d_X_portion_50 : decode c_X_portion 50 = .ok (.lshl, 1) := by decide +kernel
theorem d_X_portion_51 : decode c_X_portion 51 = .ok (.lload 13, 2) := by decide +kernel
theorem d_X_portion_53 : decode c_X_portion 53 = .ok (.lload 4, 2) := by decide +kernel
theorem d_X_portion_55 : decode c_X_portion 55 = .ok (.ldiv, 1) := by decide +kernel
theorem d_X_portion_56 : decode c_X_portion 56 = .ok (.ladd, 1) := by decide +kernel
theorem d_X_portion_57 : decode c_X_portion 57 = .ok (.lstore 6, 2) := by decide +kernel
theorem d_X_portion_59 : decode c_X_portion 59 = .ok (.lload 13, 2) := by decide +kernel
theorem d_X_portion_61 : decode c_X_portion 61 = .ok (.lload 4, 2) := by decide +kernel
theorem d_X_portion_63 : decode c_X_portion 63 = .ok (.lrem, 1) := by decide +kernel
theorem d_X_portion_64 : decode c_X_portion 64 = .ok (.lstore 8, 2) := by decide +kernel
theorem d_X_portion_66 : decode c_X_portion 66 = .ok (.iinc 10 (-20), 3) := by decide +kernel
theorem d_X_portion_69 : decode c_X_portion 69 = .ok (.goto (-50), 3) := by decide +kernel
theorem d_X_portion_72 : decode c_X_portion 72 = .ok (.lload 6, 2) := by decide +kernel
theorem d_X_portion_74 : decode c_X_portion 74 = .ok (.lreturn, 1) := by decide +kernel
theorem d_X_cut_0 : decode c_X_cut 0 = .ok (.aload_n 2, 1) := by decide +kernel
theorem d_X_cut_1 : decode c_X_cut 1 = .ok (.invokestatic 203, 3) := by decide +kernel
theorem d_X_cut_4 : decode c_X_cut 4 = .ok (.lstore 5, 2) := by decide +kernel
theorem d_X_cut_6 : decode c_X_cut 6 = .ok (.lload_n 0, 1) := by decide +kernel
theorem d_X_cut_7 : decode c_X_cut 7 = .ok (.lstore 7, 2) := by decide +kernel
theorem d_X_cut_9 : decode c_X_cut 9 = .ok (.iconst 0, 1) := by decide +kernel
theorem d_X_cut_10 : decode c_X_cut 10 = .ok (.istore 9, 2) := by decide +kernel
theorem d_X_cut_12 : decode c_X_cut 12 = .ok (.iload 9, 2) := by decide +kernel
theorem d_X_cut_14 : decode c_X_cut 14 = .ok (.bipush 12, 2) := by decide +kernel
theorem d_X_cut_16 : decode c_X_cut 16 = .ok (.if_icmp .ge 34, 3) := by decide +kernel
theorem d_X_cut_19 : decode c_X_cut 19 = .ok (.aload 4, 2) := by decide +kernel
theorem d_X_cut_21 : decode c_X_cut 21 = .ok (.iload 9, 2) := by decide +kernel
theorem d_X_cut_23 : decode c_X_cut 23 = .ok (.lload_n 0, 1) := by decide +kernel
theorem d_X_cut_24 : decode c_X_cut 24 = .ok (.aload_n 2, 1) := by decide +kernel
theorem d_X_cut_25 : decode c_X_cut 25 = .ok (.iload 9, 2) := by decide +kernel
theorem d_X_cut_27 : decode c_X_cut 27 = .ok (.laload, 1) := by decide +kernel
theorem d_X_cut_28 : decode c_X_cut 28 = .ok (.lload 5, 2) := by decide +kernel
theorem d_X_cut_30 : decode c_X_cut 30 = .ok (.invokestatic 207, 3) := by decide +kernel
theorem d_X_cut_33 : decode c_X_cut 33 = .ok (.lastore, 1) := by decide +kernel
theorem d_X_cut_34 : decode c_X_cut 34 = .ok (.lload 7, 2) := by decide +kernel
theorem d_X_cut_36 : decode c_X_cut 36 = .ok (.aload 4, 2) := by decide +kernel
theorem d_X_cut_38 : decode c_X_cut 38 = .ok (.iload 9, 2) := by decide +kernel
theorem d_X_cut_40 : decode c_X_cut 40 = .ok (.laload, 1) := by decide +kernel
theorem d_X_cut_41 : decode c_X_cut 41 = .ok (.lsub, 1) := by decide +kernel
theorem d_X_cut_42 : decode c_X_cut 42 = .ok (.lstore 7, 2) := by decide +kernel
theorem d_X_cut_44 : decode c_X_cut 44 = .ok (.iinc 9 1, 3) := by decide +kernel
theorem d_X_cut_47 : decode c_X_cut 47 = .ok (.goto (-35), 3) := by decide +kernel
theorem d_X_cut_50 : decode c_X_cut 50 = .ok (.iload_n 3, 1) := by decide +kernel
theorem d_X_cut_51 : decode c_X_cut 51 = .ok (.istore 9, 2) := by decide +kernel
theorem d_X_cut_53 : decode c_X_cut 53 = .ok (.iconst 0, 1) := by decide +kernel
theorem d_X_cut_54 : decode c_X_cut 54 = .ok (.istore 10, 2) := by decide +kernel
theorem d_X_cut_56 : decode c_X_cut 56 = .ok (.iload 10, 2) := by decide +kernel
theorem d_X_cut_58 : decode c_X_cut 58 = .ok (.bipush 12, 2) := by decide +kernel
theorem d_X_cut_60 : decode c_X_cut 60 = .ok (.if_icmp .ge 58, 3) := by decide +kernel
theorem d_X_cut_63 : decode c_X_cut 63 = .ok (.iload_n 3, 1) := by decide +kernel
theorem d_X_cut_64 : decode c_X_cut 64 = .ok (.iload 10, 2) := by decide +kernel
theorem d_X_cut_66 : decode c_X_cut 66 = .ok (.iadd, 1) := by decide +kernel
theorem d_X_cut_67 : decode c_X_cut 67 = .ok (.bipush 12, 2) := by decide +kernel
theorem d_X_cut_69 : decode c_X_cut 69 = .ok (.irem, 1) := by decide +kernel
theorem d_X_cut_70 : decode c_X_cut 70 = .ok (.istore 11, 2) := by decide +kernel
theorem d_X_cut_72 : decode c_X_cut 72 = .ok (.lload 7, 2) := by decide +kernel
theorem d_X_cut_74 : decode c_X_cut 74 = .ok (.lconst 0, 1) := by decide +kernel
theorem d_X_cut_75 : decode c_X_cut 75 = .ok (.lcmp, 1) := by decide +kernel
theorem d_X_cut_76 : decode c_X_cut 76 = .ok (.ifCond .le 36, 3) := by decide +kernel
theorem d_X_cut_79 : decode c_X_cut 79 = .ok (.aload_n 2, 1) := by decide +kernel
theorem d_X_cut_80 : decode c_X_cut 80 = .ok (.iload 11, 2) := by decide +kernel
theorem d_X_cut_82 : decode c_X_cut 82 = .ok (.laload, 1) := by decide +kernel
theorem d_X_cut_83 : decode c_X_cut 83 = .ok (.lconst 0, 1) := by decide +kernel
theorem d_X_cut_84 : decode c_X_cut 84 = .ok (.lcmp, 1) := by decide +kernel
theorem d_X_cut_85 : decode c_X_cut 85 = .ok (.ifCond .le 27, 3) := by decide +kernel
theorem d_X_cut_88 : decode c_X_cut 88 = .ok (.aload 4, 2) := by decide +kernel
theorem d_X_cut_90 : decode c_X_cut 90 = .ok (.iload 11, 2) := by decide +kernel
theorem d_X_cut_92 : decode c_X_cut 92 = .ok (.dup2, 1) := by decide +kernel
theorem d_X_cut_93 : decode c_X_cut 93 = .ok (.laload, 1) := by decide +kernel
theorem d_X_cut_94 : decode c_X_cut 94 = .ok (.lconst 1, 1) := by decide +kernel
theorem d_X_cut_95 : decode c_X_cut 95 = .ok (.ladd, 1) := by decide +kernel
theorem d_X_cut_96 : decode c_X_cut 96 = .ok (.lastore, 1) := by decide +kernel
theorem d_X_cut_97 : decode c_X_cut 97 = .ok (.lload 7, 2) := by decide +kernel
theorem d_X_cut_99 : decode c_X_cut 99 = .ok (.lconst 1, 1) := by decide +kernel
theorem d_X_cut_100 : decode c_X_cut 100 = .ok (.lsub, 1) := by decide +kernel
theorem d_X_cut_101 : decode c_X_cut 101 = .ok (.lstore 7, 2) := by decide +kernel
theorem d_X_cut_103 : decode c_X_cut 103 = .ok (.iload 11, 2) := by decide +kernel
theorem d_X_cut_105 : decode c_X_cut 105 = .ok (.iconst 1, 1) := by decide +kernel
theorem d_X_cut_106 : decode c_X_cut 106 = .ok (.iadd, 1) := by decide +kernel
theorem d_X_cut_107 : decode c_X_cut 107 = .ok (.bipush 12, 2) := by decide +kernel
theorem d_X_cut_109 : decode c_X_cut 109 = .ok (.irem, 1) := by decide +kernel
theorem d_X_cut_110 : decode c_X_cut 110 = .ok (.istore 9, 2) := by decide +kernel
theorem d_X_cut_112 : decode c_X_cut 112 = .ok (.iinc 10 1, 3) := by decide +kernel
theorem d_X_cut_115 : decode c_X_cut 115 = .ok (.goto (-59), 3) := by decide +kernel
theorem d_X_cut_118 : decode c_X_cut 118 = .ok (.iload 9, 2) := by decide +kernel
theorem d_X_cut_120 : decode c_X_cut 120 = .ok (.ireturn, 1) := by decide +kernel
theorem d_B_init_0 : decode c_B_init 0 = .ok (.aload_n 0, 1) := by decide +kernel
theorem d_B_init_1 : decode c_B_init 1 = .ok (.invokespecial 3, 3) := by decide +kernel
theorem d_B_init_4 : decode c_B_init 4 = .ok (.aload_n 0, 1) := by decide +kernel
theorem d_B_init_5 : decode c_B_init 5 = .ok (.bipush 12, 2) := by decide +kernel
theorem d_B_init_7 : decode c_B_init 7 = .ok (.newarray .long, 2) := by decide +kernel
theorem d_B_init_9 : decode c_B_init 9 = .ok (.putfield 9, 3) := by decide +kernel
theorem d_B_init_12 : decode c_B_init 12 = .ok (.aload_n 0, 1) := by decide +kernel
theorem d_B_init_13 : decode c_B_init 13 = .ok (.bipush 12, 2) := by decide +kernel
theorem d_B_init_15 : decode c_B_init 15 = .ok (.newarray .long, 2) := by decide +kernel
theorem d_B_init_17 : decode c_B_init 17 = .ok (.putfield 15, 3) := by decide +kernel
theorem d_B_init_20 : decode c_B_init 20 = .ok (.aload_n 0, 1) := by decide +kernel
theorem d_B_init_21 : decode c_B_init 21 = .ok (.bipush 12, 2) := by decide +kernel
theorem d_B_init_23 : decode c_B_init 23 = .ok (.newarray .long, 2) := by decide +kernel
theorem d_B_init_25 : decode c_B_init 25 = .ok (.putfield 18, 3) := by decide +kernel
theorem d_B_init_28 : decode c_B_init 28 = .ok (.aload_n 0, 1) := by decide +kernel
theorem d_B_init_29 : decode c_B_init 29 = .ok (.aload_n 1, 1) := by decide +kernel
theorem d_B_init_30 : decode c_B_init 30 = .ok (.putfield 21, 3) := by decide +kernel
theorem d_B_init_33 : decode c_B_init 33 = .ok (.aload_n 0, 1) := by decide +kernel
theorem d_B_init_34 : decode c_B_init 34 = .ok (.lload_n 2, 1) := by decide +kernel
theorem d_B_init_35 : decode c_B_init 35 = .ok (.putfield 25, 3) := by decide +kernel
theorem d_B_init_38 : decode c_B_init 38 = .ok (.return_, 1) := by decide +kernel
theorem d_C_init_0 : decode c_C_init 0 = .ok (.aload_n 0, 1) := by decide +kernel
theorem d_C_init_1 : decode c_C_init 1 = .ok (.invokespecial 3, 3) := by decide +kernel
theorem d_C_init_4 : decode c_C_init 4 = .ok (.aload_n 0, 1) := by decide +kernel
theorem d_C_init_5 : decode c_C_init 5 = .ok (.bipush 12, 2) := by decide +kernel
theorem d_C_init_7 : decode c_C_init 7 = .ok (.newarray .long, 2) := by decide +kernel
theorem d_C_init_9 : decode c_C_init 9 = .ok (.putfield 9, 3) := by decide +kernel
theorem d_C_init_12 : decode c_C_init 12 = .ok (.aload_n 0, 1) := by decide +kernel
theorem d_C_init_13 : decode c_C_init 13 = .ok (.bipush 12, 2) := by decide +kernel
theorem d_C_init_15 : decode c_C_init 15 = .ok (.newarray .long, 2) := by decide +kernel
theorem d_C_init_17 : decode c_C_init 17 = .ok (.putfield 15, 3) := by decide +kernel
theorem d_C_init_20 : decode c_C_init 20 = .ok (.aload_n 0, 1) := by decide +kernel
theorem d_C_init_21 : decode c_C_init 21 = .ok (.new 18, 3) := by decide +kernel
theorem d_C_init_24 : decode c_C_init 24 = .ok (.dup, 1) := by decide +kernel
theorem d_C_init_25 : decode c_C_init 25 = .ok (.invokespecial 20, 3) := by decide +kernel
theorem d_C_init_28 : decode c_C_init 28 = .ok (.putfield 21, 3) := by decide +kernel
theorem d_C_init_31 : decode c_C_init 31 = .ok (.return_, 1) := by decide +kernel
theorem d_C_isMember_0 : decode c_C_isMember 0 = .ok (.iload_n 1, 1) := by decide +kernel
theorem d_C_isMember_1 : decode c_C_isMember 1 = .ok (.ifCond .lt 15, 3) := by decide +kernel
theorem d_C_isMember_4 : decode c_C_isMember 4 = .ok (.iload_n 1, 1) := by decide +kernel
theorem d_C_isMember_5 : decode c_C_isMember 5 = .ok (.aload_n 0, 1) := by decide +kernel
theorem d_C_isMember_6 : decode c_C_isMember 6 = .ok (.getfield 25, 3) := by decide +kernel
theorem d_C_isMember_9 : decode c_C_isMember 9 = .ok (.if_icmp .ge 7, 3) := by decide +kernel
theorem d_C_isMember_12 : decode c_C_isMember 12 = .ok (.iconst 1, 1) := by decide +kernel
theorem d_C_isMember_13 : decode c_C_isMember 13 = .ok (.goto 4, 3) := by decide +kernel
theorem d_C_isMember_16 : decode c_C_isMember 16 = .ok (.iconst 0, 1) := by decide +kernel
theorem d_C_isMember_17 : decode c_C_isMember 17 = .ok (.ireturn, 1) := by decide +kernel
theorem d_C_isPresent_0 : decode c_C_isPresent 0 = .ok (.aload_n 0, 1) := by decide +kernel
theorem d_C_isPresent_1 : decode c_C_isPresent 1 = .ok (.iload_n 1, 1) := by decide +kernel
theorem d_C_isPresent_2 : decode c_C_isPresent 2 = .ok (.invokevirtual 29, 3) := by decide +kernel
theorem d_C_isPresent_5 : decode c_C_isPresent 5 = .ok (.ifCond .eq 15, 3) := by decide +kernel
theorem d_C_isPresent_8 : decode c_C_isPresent 8 = .ok (.aload_n 0, 1) := by decide +kernel
theorem d_C_isPresent_9 : decode c_C_isPresent 9 = .ok (.iload_n 1, 1) := by decide +kernel
theorem d_C_isPresent_10 : decode c_C_isPresent 10 = .ok (.invokevirtual 33, 3) := by decide +kernel
theorem d_C_isPresent_13 : decode c_C_isPresent 13 = .ok (.ifCond .ne 7, 3) := by decide +kernel
theorem d_C_isPresent_16 : decode c_C_isPresent 16 = .ok (.iconst 1, 1) := by decide +kernel
theorem d_C_isPresent_17 : decode c_C_isPresent 17 = .ok (.goto 4, 3) := by decide +kernel
theorem d_C_isPresent_20 : decode c_C_isPresent 20 = .ok (.iconst 0, 1) := by decide +kernel
theorem d_C_isPresent_21 : decode c_C_isPresent 21 = .ok (.ireturn, 1) := by decide +kernel
theorem d_C_isGone_0 : decode c_C_isGone 0 = .ok (.aload_n 0, 1) := by decide +kernel
theorem d_C_isGone_1 : decode c_C_isGone 1 = .ok (.getfield 36, 3) := by decide +kernel
theorem d_C_isGone_4 : decode c_C_isGone 4 = .ok (.iload_n 1, 1) := by decide +kernel
theorem d_C_isGone_5 : decode c_C_isGone 5 = .ok (.ishr, 1) := by decide +kernel
theorem d_C_isGone_6 : decode c_C_isGone 6 = .ok (.iconst 1, 1) := by decide +kernel
theorem d_C_isGone_7 : decode c_C_isGone 7 = .ok (.iand, 1) := by decide +kernel
theorem d_C_isGone_8 : decode c_C_isGone 8 = .ok (.ifCond .eq 7, 3) := by decide +kernel
theorem d_C_isGone_11 : decode c_C_isGone 11 = .ok (.iconst 1, 1) := by decide +kernel
theorem d_C_isGone_12 : decode c_C_isGone 12 = .ok (.goto 4, 3) := by decide +kernel
theorem d_C_isGone_15 : decode c_C_isGone 15 = .ok (.iconst 0, 1) := by decide +kernel
theorem d_C_isGone_16 : decode c_C_isGone 16 = .ok (.ireturn, 1) := by decide +kernel
theorem d_C_presentSet_0 : decode c_C_presentSet 0 = .ok (.iconst 1, 1) := by decide +kernel
theorem d_C_presentSet_1 : decode c_C_presentSet 1 = .ok (.aload_n 0, 1) := by decide +kernel
theorem d_C_presentSet_2 : decode c_C_presentSet 2 = .ok (.getfield 25, 3) := by decide +kernel
theorem d_C_presentSet_5 : decode c_C_presentSet 5 = .ok (.ishl, 1) := by decide +kernel
theorem d_C_presentSet_6 : decode c_C_presentSet 6 = .ok (.iconst 1, 1) := by decide +kernel
theorem d_C_presentSet_7 : decode c_C_presentSet 7 = .ok (.isub, 1) := by decide +kernel
theorem d_C_presentSet_8 : decode c_C_presentSet 8 = .ok (.aload_n 0, 1) := by decide +kernel
theorem d_C_presentSet_9 : decode c_C_presentSet 9 = .ok (.getfield 36, 3) := by decide +kernel
theorem d_C_presentSet_12 : decode c_C_presentSet 12 = .ok (.iconst (-1), 1) := by decide +kernel
theorem d_C_presentSet_13 : decode c_C_presentSet 13 = .ok (.ixor, 1) := by decide +kernel
theorem d_C_presentSet_14 : decode c_C_presentSet 14 = .ok (.iand, 1) := by decide +kernel
theorem d_C_presentSet_15 : decode c_C_presentSet 15 = .ok (.ireturn, 1) := by decide +kernel
theorem d_C_book_0 : decode c_C_book 0 = .ok (.iconst 0, 1) := by decide +kernel
theorem d_C_book_1 : decode c_C_book 1 = .ok (.istore_n 3, 1) := by decide +kernel
theorem d_C_book_2 : decode c_C_book 2 = .ok (.iload_n 3, 1) := by decide +kernel
theorem d_C_book_3 : decode c_C_book 3 = .ok (.bipush 12, 2) := by decide +kernel
theorem d_C_book_5 : decode c_C_book 5 = .ok (.if_icmp .ge 52, 3) := by decide +kernel
theorem d_C_book_8 : decode c_C_book 8 = .ok (.aload_n 0, 1) := by decide +kernel
theorem d_C_book_9 : decode c_C_book 9 = .ok (.getfield 9, 3) := by decide +kernel
theorem d_C_book_12 : decode c_C_book 12 = .ok (.iload_n 3, 1) := by decide +kernel
theorem d_C_book_13 : decode c_C_book 13 = .ok (.dup2, 1) := by decide +kernel
theorem d_C_book_14 : decode c_C_book 14 = .ok (.laload, 1) := by decide +kernel
theorem d_C_book_15 : decode c_C_book 15 = .ok (.iload_n 2, 1) := by decide +kernel
theorem d_C_book_16 : decode c_C_book 16 = .ok (.i2l, 1) := by decide +kernel
theorem d_C_book_17 : decode c_C_book 17 = .ok (.aload_n 1, 1) := by decide +kernel
theorem d_C_book_18 : decode c_C_book 18 = .ok (.getfield 39, 3) := by decide +kernel
theorem d_C_book_21 : decode c_C_book 21 = .ok (.iload_n 3, 1) := by decide +kernel
theorem d_C_book_22 : decode c_C_book 22 = .ok (.laload, 1) := by decide +kernel
theorem d_C_book_23 : decode c_C_book 23 = .ok (.aload_n 1, 1) := by decide +kernel
theorem d_C_book_24 : decode c_C_book 24 = .ok (.getfield 44, 3) := by decide +kernel
theorem d_C_book_27 : decode c_C_book 27 = .ok (.iload_n 3, 1) := by decide +kernel
theorem d_C_book_28 : decode c_C_book 28 = .ok (.laload, 1) := by decide +kernel
theorem d_C_book_29 : decode c_C_book 29 = .ok (.lsub, 1) := by decide +kernel
theorem d_C_book_30 : decode c_C_book 30 = .ok (.lmul, 1) := by decide +kernel
theorem d_C_book_31 : decode c_C_book 31 = .ok (.ladd, 1) := by decide +kernel
theorem d_C_book_32 : decode c_C_book 32 = .ok (.lastore, 1) := by decide +kernel
theorem d_C_book_33 : decode c_C_book 33 = .ok (.aload_n 0, 1) := by decide +kernel
theorem d_C_book_34 : decode c_C_book 34 = .ok (.getfield 15, 3) := by decide +kernel
theorem d_C_book_37 : decode c_C_book 37 = .ok (.iload_n 3, 1) := by decide +kernel
theorem d_C_book_38 : decode c_C_book 38 = .ok (.dup2, 1) := by decide +kernel
theorem d_C_book_39 : decode c_C_book 39 = .ok (.laload, 1) := by decide +kernel
theorem d_C_book_40 : decode c_C_book 40 = .ok (.iload_n 2, 1) := by decide +kernel
theorem d_C_book_41 : decode c_C_book 41 = .ok (.i2l, 1) := by decide +kernel
theorem d_C_book_42 : decode c_C_book 42 = .ok (.aload_n 1, 1) := by decide +kernel
theorem d_C_book_43 : decode c_C_book 43 = .ok (.getfield 47, 3) := by decide +kernel
theorem d_C_book_46 : decode c_C_book 46 = .ok (.iload_n 3, 1) := by decide +kernel
theorem d_C_book_47 : decode c_C_book 47 = .ok (.laload, 1) := by decide +kernel
theorem d_C_book_48 : decode c_C_book 48 = .ok (.lmul, 1) := by decide +kernel
theorem d_C_book_49 : decode c_C_book 49 = .ok (.ladd, 1) := by decide +kernel
theorem d_C_book_50 : decode c_C_book 50 = .ok (.lastore, 1) := by decide +kernel
theorem d_C_book_51 : decode c_C_book 51 = .ok (.iinc 3 1, 3) := by decide +kernel
theorem d_C_book_54 : decode c_C_book 54 = .ok (.goto (-52), 3) := by decide +kernel
theorem d_C_book_57 : decode c_C_book 57 = .ok (.return_, 1) := by decide +kernel
theorem d_C_makeTransfer_0 : decode c_C_makeTransfer 0 = .ok (.aload_n 0, 1) := by decide +kernel
theorem d_C_makeTransfer_1 : decode c_C_makeTransfer 1 = .ok (.getfield 21, 3) := by decide +kernel
theorem d_C_makeTransfer_4 : decode c_C_makeTransfer 4 = .ok (.getfield 48, 3) := by decide +kernel
theorem d_C_makeTransfer_7 : decode c_C_makeTransfer 7 = .ok (.iload_n 1, 1) := by decide +kernel
theorem d_C_makeTransfer_8 : decode c_C_makeTransfer 8 = .ok (.iconst 1, 1) := by decide +kernel
theorem d_C_makeTransfer_9 : decode c_C_makeTransfer 9 = .ok (.bastore, 1) := by decide +kernel
theorem d_C_makeTransfer_10 : decode c_C_makeTransfer 10 = .ok (.aload_n 0, 1) := by decide +kernel
theorem d_C_makeTransfer_11 : decode c_C_makeTransfer 11 = .ok (.getfield 21, 3) := by decide +kernel
theorem d_C_makeTransfer_14 : decode c_C_makeTransfer 14 = .ok (.dup, 1) := by decide +kernel
theorem d_C_makeTransfer_15 : decode c_C_makeTransfer 15 = .ok (.getfield 52, 3) := by decide +kernel
theorem d_C_makeTransfer_18 : decode c_C_makeTransfer 18 = .ok (.iconst 1, 1) := by decide +kernel
theorem d_C_makeTransfer_19 : decode c_C_makeTransfer 19 = .ok (.isub, 1) := by decide +kernel
theorem d_C_makeTransfer_20 : decode c_C_makeTransfer 20 = .ok (.putfield 52, 3) := by decide +kernel
theorem d_C_makeTransfer_23 : decode c_C_makeTransfer 23 = .ok (.aload_n 0, 1) := by decide +kernel
theorem d_C_makeTransfer_24 : decode c_C_makeTransfer 24 = .ok (.getfield 9, 3) := by decide +kernel
theorem d_C_makeTransfer_27 : decode c_C_makeTransfer 27 = .ok (.aload_n 0, 1) := by decide +kernel
theorem d_C_makeTransfer_28 : decode c_C_makeTransfer 28 = .ok (.getfield 21, 3) := by decide +kernel
theorem d_C_makeTransfer_31 : decode c_C_makeTransfer 31 = .ok (.getfield 55, 3) := by decide +kernel
theorem d_C_makeTransfer_34 : decode c_C_makeTransfer 34 = .ok (.iload_n 1, 1) := by decide +kernel
theorem d_C_makeTransfer_35 : decode c_C_makeTransfer 35 = .ok (.iaload, 1) := by decide +kernel
theorem d_C_makeTransfer_36 : decode c_C_makeTransfer 36 = .ok (.dup2, 1) := by decide +kernel
theorem d_C_makeTransfer_37 : decode c_C_makeTransfer 37 = .ok (.laload, 1) := by decide +kernel
theorem d_C_makeTransfer_38 : decode c_C_makeTransfer 38 = .ok (.aload_n 0, 1) := by decide +kernel
theorem d_C_makeTransfer_39 : decode c_C_makeTransfer 39 = .ok (.getfield 21, 3) := by decide +kernel
theorem d_C_makeTransfer_42 : decode c_C_makeTransfer 42 = .ok (.getfield 59, 3) := by decide +kernel
theorem d_C_makeTransfer_45 : decode c_C_makeTransfer 45 = .ok (.iload_n 1, 1) := by decide +kernel
theorem d_C_makeTransfer_46 : decode c_C_makeTransfer 46 = .ok (.laload, 1) := by decide +kernel
theorem d_C_makeTransfer_47 : decode c_C_makeTransfer 47 = .ok (.ladd, 1) := by decide +kernel
theorem d_C_makeTransfer_48 : decode c_C_makeTransfer 48 = .ok (.lastore, 1) := by decide +kernel
theorem d_C_makeTransfer_49 : decode c_C_makeTransfer 49 = .ok (.aload_n 0, 1) := by decide +kernel
theorem d_C_makeTransfer_50 : decode c_C_makeTransfer 50 = .ok (.getfield 9, 3) := by decide +kernel
theorem d_C_makeTransfer_53 : decode c_C_makeTransfer 53 = .ok (.aload_n 0, 1) := by decide +kernel
theorem d_C_makeTransfer_54 : decode c_C_makeTransfer 54 = .ok (.getfield 21, 3) := by decide +kernel
theorem d_C_makeTransfer_57 : decode c_C_makeTransfer 57 = .ok (.getfield 62, 3) := by decide +kernel
theorem d_C_makeTransfer_60 : decode c_C_makeTransfer 60 = .ok (.iload_n 1, 1) := by decide +kernel
theorem d_C_makeTransfer_61 : decode c_C_makeTransfer 61 = .ok (.iaload, 1) := by decide +kernel
theorem d_C_makeTransfer_62 : decode c_C_makeTransfer 62 = .ok (.dup2, 1) := by decide +kernel
theorem d_C_makeTransfer_63 : decode c_C_makeTransfer 63 = .ok (.laload, 1) := by decide +kernel
theorem d_C_makeTransfer_64 : decode c_C_makeTransfer 64 = .ok (.aload_n 0, 1) := by decide +kernel
theorem d_C_makeTransfer_65 : decode c_C_makeTransfer 65 = .ok (.getfield 21, 3) := by decide +kernel
theorem d_C_makeTransfer_68 : decode c_C_makeTransfer 68 = .ok (.getfield 59, 3) := by decide +kernel
theorem d_C_makeTransfer_71 : decode c_C_makeTransfer 71 = .ok (.iload_n 1, 1) := by decide +kernel
theorem d_C_makeTransfer_72 : decode c_C_makeTransfer 72 = .ok (.laload, 1) := by decide +kernel
theorem d_C_makeTransfer_73 : decode c_C_makeTransfer 73 = .ok (.lsub, 1) := by decide +kernel
theorem d_C_makeTransfer_74 : decode c_C_makeTransfer 74 = .ok (.lastore, 1) := by decide +kernel
theorem d_C_makeTransfer_75 : decode c_C_makeTransfer 75 = .ok (.return_, 1) := by decide +kernel
theorem d_D_init_0 : decode c_D_init 0 = .ok (.aload_n 0, 1) := by decide +kernel
theorem d_D_init_1 : decode c_D_init 1 = .ok (.invokespecial 3, 3) := by decide +kernel
theorem d_D_init_4 : decode c_D_init 4 = .ok (.aload_n 0, 1) := by decide +kernel
theorem d_D_init_5 : decode c_D_init 5 = .ok (.bipush 12, 2) := by decide +kernel
theorem d_D_init_7 : decode c_D_init 7 = .ok (.newarray .long, 2) := by decide +kernel
theorem d_D_init_9 : decode c_D_init 9 = .ok (.putfield 9, 3) := by decide +kernel
theorem d_D_init_12 : decode c_D_init 12 = .ok (.aload_n 0, 1) := by decide +kernel
theorem d_D_init_13 : decode c_D_init 13 = .ok (.bipush 12, 2) := by decide +kernel
theorem d_D_init_15 : decode c_D_init 15 = .ok (.newarray .long, 2) := by decide +kernel
theorem d_D_init_17 : decode c_D_init 17 = .ok (.putfield 15, 3) := by decide +kernel
theorem d_D_init_20 : decode c_D_init 20 = .ok (.return_, 1) := by decide +kernel
theorem d_D_begin_0 : decode c_D_begin 0 = .ok (.aload_n 0, 1) := by decide +kernel
theorem d_D_begin_1 : decode c_D_begin 1 = .ok (.aload_n 1, 1) := by decide +kernel
theorem d_D_begin_2 : decode c_D_begin 2 = .ok (.putfield 18, 3) := by decide +kernel
theorem d_D_begin_5 : decode c_D_begin 5 = .ok (.aload_n 0, 1) := by decide +kernel
theorem d_D_begin_6 : decode c_D_begin 6 = .ok (.iload_n 2, 1) := by decide +kernel
theorem d_D_begin_7 : decode c_D_begin 7 = .ok (.putfield 22, 3) := by decide +kernel
theorem d_D_begin_10 : decode c_D_begin 10 = .ok (.aload_n 0, 1) := by decide +kernel
theorem d_D_begin_11 : decode c_D_begin 11 = .ok (.iload_n 3, 1) := by decide +kernel
theorem d_D_begin_12 : decode c_D_begin 12 = .ok (.putfield 26, 3) := by decide +kernel
theorem d_D_begin_15 : decode c_D_begin 15 = .ok (.aload_n 0, 1) := by decide +kernel
theorem d_D_begin_16 : decode c_D_begin 16 = .ok (.iload 4, 2) := by decide +kernel
theorem d_D_begin_18 : decode c_D_begin 18 = .ok (.putfield 29, 3) := by decide +kernel
theorem d_D_begin_21 : decode c_D_begin 21 = .ok (.aload_n 0, 1) := by decide +kernel
theorem d_D_begin_22 : decode c_D_begin 22 = .ok (.iconst 0, 1) := by decide +kernel
theorem d_D_begin_23 : decode c_D_begin 23 = .ok (.putfield 32, 3) := by decide +kernel
theorem d_D_begin_26 : decode c_D_begin 26 = .ok (.iconst 0, 1) := by decide +kernel
theorem d_D_begin_27 : decode c_D_begin 27 = .ok (.istore 5, 2) := by decide +kernel
theorem d_D_begin_29 : decode c_D_begin 29 = .ok (.iload 5, 2) := by decide +kernel
theorem d_D_begin_31 : decode c_D_begin 31 = .ok (.bipush 12, 2) := by decide +kernel
theorem d_D_begin_33 : decode c_D_begin 33 = .ok (.if_icmp .ge 25, 3) := by decide +kernel
theorem d_D_begin_36 : decode c_D_begin 36 = .ok (.aload_n 0, 1) := by decide +kernel
theorem d_D_begin_37 : decode c_D_begin 37 = .ok (.getfield 9, 3) := by decide +kernel
theorem d_D_begin_40 : decode c_D_begin 40 = .ok (.iload 5, 2) := by decide +kernel
theorem d_D_begin_42 : decode c_D_begin 42 = .ok (.lconst 0, 1) := by decide +kernel
theorem d_D_begin_43 : decode c_D_begin 43 = .ok (.lastore, 1) := by decide +kernel
theorem d_D_begin_44 : decode c_D_begin 44 = .ok (.aload_n 0, 1) := by decide +kernel
theorem d_D_begin_45 : decode c_D_begin 45 = .ok (.getfield 15, 3) := by decide +kernel
theorem d_D_begin_48 : decode c_D_begin 48 = .ok (.iload 5, 2) := by decide +kernel
theorem d_D_begin_50 : decode c_D_begin 50 = .ok (.lconst 0, 1) := by decide +kernel
theorem d_D_begin_51 : decode c_D_begin 51 = .ok (.lastore, 1) := by decide +kernel
theorem d_D_begin_52 : decode c_D_begin 52 = .ok (.iinc 5 1, 3) := by decide +kernel
theorem d_D_begin_55 : decode c_D_begin 55 = .ok (.goto (-26), 3) := by decide +kernel
theorem d_D_begin_58 : decode c_D_begin 58 = .ok (.return_, 1) := by decide +kernel
theorem d_D_addLine_0 : decode c_D_addLine 0 = .ok (.iload_n 2, 1) := by decide +kernel
theorem d_D_addLine_1 : decode c_D_addLine 1 = .ok (.invokestatic 35, 3) := by decide +kernel
theorem d_D_addLine_4 : decode c_D_addLine 4 = .ok (.istore_n 3, 1) := by decide +kernel
theorem d_D_addLine_5 : decode c_D_addLine 5 = .ok (.iload_n 3, 1) := by decide +kernel
theorem d_D_addLine_6 : decode c_D_addLine 6 = .ok (.ifCond .ne 4, 3) := by decide +kernel
theorem d_D_addLine_9 : decode c_D_addLine 9 = .ok (.return_, 1) := by decide +kernel
theorem d_D_addLine_10 : decode c_D_addLine 10 = .ok (.sipush 27720, 3) := by decide +kernel
theorem d_D_addLine_13 : decode c_D_addLine 13 = .ok (.iload_n 3, 1) := by decide +kernel
theorem d_D_addLine_14 : decode c_D_addLine 14 = .ok (.idiv, 1) := by decide +kernel
theorem d_D_addLine_15 : decode c_D_addLine 15 = .ok (.i2l, 1) := by decide +kernel
theorem d_D_addLine_16 : decode c_D_addLine 16 = .ok (.iload_n 1, 1) := by decide +kernel
theorem d_D_addLine_17 : decode c_D_addLine 17 = .ok (.i2l, 1) := by decide +kernel
theorem d_D_addLine_18 : decode c_D_addLine 18 = .ok (.lmul, 1) := by decide +kernel
theorem d_D_addLine_19 : decode c_D_addLine 19 = .ok (.lstore 4, 2) := by decide +kernel
theorem d_D_addLine_21 : decode c_D_addLine 21 = .ok (.iconst 0, 1) := by decide +kernel
theorem d_D_addLine_22 : decode c_D_addLine 22 = .ok (.istore 6, 2) := by decide +kernel
theorem d_D_addLine_24 : decode c_D_addLine 24 = .ok (.iload 6, 2) := by decide +kernel
theorem d_D_addLine_26 : decode c_D_addLine 26 = .ok (.bipush 12, 2) := by decide +kernel
theorem d_D_addLine_28 : decode c_D_addLine 28 = .ok (.if_icmp .ge 30, 3) := by decide +kernel
theorem d_D_addLine_31 : decode c_D_addLine 31 = .ok (.iload_n 2, 1) := by decide +kernel
theorem d_D_addLine_32 : decode c_D_addLine 32 = .ok (.iload 6, 2) := by decide +kernel
theorem d_D_addLine_34 : decode c_D_addLine 34 = .ok (.ishr, 1) := by decide +kernel
theorem d_D_addLine_35 : decode c_D_addLine 35 = .ok (.iconst 1, 1) := by decide +kernel
theorem d_D_addLine_36 : decode c_D_addLine 36 = .ok (.iand, 1) := by decide +kernel
theorem d_D_addLine_37 : decode c_D_addLine 37 = .ok (.ifCond .eq 15, 3) := by decide +kernel
theorem d_D_addLine_40 : decode c_D_addLine 40 = .ok (.aload_n 0, 1) := by decide +kernel
theorem d_D_addLine_41 : decode c_D_addLine 41 = .ok (.getfield 15, 3) := by decide +kernel
theorem d_D_addLine_44 : decode c_D_addLine 44 = .ok (.iload 6, 2) := by decide +kernel
theorem d_D_addLine_46 : decode c_D_addLine 46 = .ok (.dup2, 1) := by decide +kernel
theorem d_D_addLine_47 : decode c_D_addLine 47 = .ok (.laload, 1) := by decide +kernel
theorem d_D_addLine_48 : decode c_D_addLine 48 = .ok (.lload 4, 2) := by decide +kernel
theorem d_D_addLine_50 : decode c_D_addLine 50 = .ok (.ladd, 1) := by decide +kernel
theorem d_D_addLine_51 : decode c_D_addLine 51 = .ok (.lastore, 1) := by decide +kernel
theorem d_D_addLine_52 : decode c_D_addLine 52 = .ok (.iinc 6 1, 3) := by decide +kernel
theorem d_D_addLine_55 : decode c_D_addLine 55 = .ok (.goto (-31), 3) := by decide +kernel
theorem d_D_addLine_58 : decode c_D_addLine 58 = .ok (.aload_n 0, 1) := by decide +kernel
theorem d_D_addLine_59 : decode c_D_addLine 59 = .ok (.dup, 1) := by decide +kernel
theorem d_D_addLine_60 : decode c_D_addLine 60 = .ok (.getfield 32, 3) := by decide +kernel
theorem d_D_addLine_63 : decode c_D_addLine 63 = .ok (.iconst 1, 1) := by decide +kernel
theorem d_D_addLine_64 : decode c_D_addLine 64 = .ok (.iadd, 1) := by decide +kernel
theorem d_D_addLine_65 : decode c_D_addLine 65 = .ok (.putfield 32, 3) := by decide +kernel
theorem d_D_addLine_68 : decode c_D_addLine 68 = .ok (.return_, 1) := by decide +kernel
theorem d_D_refusalFor_0 : decode c_D_refusalFor 0 = .ok (.iconst 0, 1) := by decide +kernel
theorem d_D_refusalFor_1 : decode c_D_refusalFor 1 = .ok (.istore_n 2, 1) := by decide +kernel
theorem d_D_refusalFor_2 : decode c_D_refusalFor 2 = .ok (.iload_n 2, 1) := by decide +kernel
theorem d_D_refusalFor_3 : decode c_D_refusalFor 3 = .ok (.bipush 12, 2) := by decide +kernel
theorem d_D_refusalFor_5 : decode c_D_refusalFor 5 = .ok (.if_icmp .ge 42, 3) := by decide +kernel
theorem d_D_refusalFor_8 : decode c_D_refusalFor 8 = .ok (.aload_n 1, 1) := by decide +kernel
theorem d_D_refusalFor_9 : decode c_D_refusalFor 9 = .ok (.iload_n 2, 1) := by decide +kernel
theorem d_D_refusalFor_10 : decode c_D_refusalFor 10 = .ok (.invokevirtual 41, 3) := by decide +kernel
theorem d_D_refusalFor_13 : decode c_D_refusalFor 13 = .ok (.ifCond .eq 28, 3) := by decide +kernel
theorem d_D_refusalFor_16 : decode c_D_refusalFor 16 = .ok (.aload_n 0, 1) := by decide +kernel
theorem d_D_refusalFor_17 : decode c_D_refusalFor 17 = .ok (.getfield 9, 3) := by decide +kernel
theorem d_D_refusalFor_20 : decode c_D_refusalFor 20 = .ok (.iload_n 2, 1) := by decide +kernel
theorem d_D_refusalFor_21 : decode c_D_refusalFor 21 = .ok (.laload, 1) := by decide +kernel
theorem d_D_refusalFor_22 : decode c_D_refusalFor 22 = .ok (.lconst 0, 1) := by decide +kernel
theorem d_D_refusalFor_23 : decode c_D_refusalFor 23 = .ok (.lcmp, 1) := by decide +kernel
theorem d_D_refusalFor_24 : decode c_D_refusalFor 24 = .ok (.ifCond .gt 14, 3) := by decide +kernel
theorem d_D_refusalFor_27 : decode c_D_refusalFor 27 = .ok (.aload_n 0, 1) := by decide +kernel
theorem d_D_refusalFor_28 : decode c_D_refusalFor 28 = .ok (.getfield 15, 3) := by decide +kernel
theorem d_D_refusalFor_31 : decode c_D_refusalFor 31 = .ok (.iload_n 2, 1) := by decide +kernel
theorem d_D_refusalFor_32 : decode c_D_refusalFor 32 = .ok (.laload, 1) := by decide +kernel
theorem d_D_refusalFor_33 : decode c_D_refusalFor 33 = .ok (.lconst 0, 1) := by decide +kernel
theorem d_D_refusalFor_34 : decode c_D_refusalFor 34 = .ok (.lcmp, 1) := by decide +kernel
theorem d_D_refusalFor_35 : decode c_D_refusalFor 35 = .ok (.ifCond .le 6, 3) := by decide +kernel
theorem d_D_refusalFor_38 : decode c_D_refusalFor 38 = .ok (.bipush (-4), 2) := by decide +kernel
theorem d_D_refusalFor_40 : decode c_D_refusalFor 40 = .ok (.ireturn, 1) := by decide +kernel
theorem d_D_refusalFor_41 : decode c_D_refusalFor 41 = .ok (.iinc 2 1, 3) := by decide +kernel
theorem d_D_refusalFor_44 : decode c_D_refusalFor 44 = .ok (.goto (-42), 3) := by decide +kernel
theorem d_D_refusalFor_47 : decode c_D_refusalFor 47 = .ok (.aload_n 0, 1) := by decide +kernel
theorem d_D_refusalFor_48 : decode c_D_refusalFor 48 = .ok (.getfield 9, 3) := by decide +kernel
theorem d_D_refusalFor_51 : decode c_D_refusalFor 51 = .ok (.invokestatic 47, 3) := by decide +kernel
theorem d_D_refusalFor_54 : decode c_D_refusalFor 54 = .ok (.aload_n 0, 1) := by decide +kernel
theorem d_D_refusalFor_55 : decode c_D_refusalFor 55 = .ok (.getfield 26, 3) := by decide +kernel
theorem d_D_refusalFor_58 : decode c_D_refusalFor 58 = .ok (.i2l, 1) := by decide +kernel
theorem d_D_refusalFor_59 : decode c_D_refusalFor 59 = .ok (.lcmp, 1) := by decide +kernel
theorem d_D_refusalFor_60 : decode c_D_refusalFor 60 = .ok (.ifCond .eq 6, 3) := by decide +kernel
theorem d_D_refusalFor_63 : decode c_D_refusalFor 63 = .ok (.bipush (-5), 2) := by decide +kernel
theorem d_D_refusalFor_65 : decode c_D_refusalFor 65 = .ok (.ireturn, 1) := by decide +kernel
theorem d_D_refusalFor_66 : decode c_D_refusalFor 66 = .ok (.aload_n 0, 1) := by decide +kernel
theorem d_D_refusalFor_67 : decode c_D_refusalFor 67 = .ok (.getfield 15, 3) := by decide +kernel
theorem d_D_refusalFor_70 : decode c_D_refusalFor 70 = .ok (.invokestatic 47, 3) := by decide +kernel
theorem d_D_refusalFor_73 : decode c_D_refusalFor 73 = .ok (.lstore_n 2, 1) := by decide +kernel
theorem d_D_refusalFor_74 : decode c_D_refusalFor 74 = .ok (.lload_n 2, 1) := by decide +kernel
theorem d_D_refusalFor_75 : decode c_D_refusalFor 75 = .ok (.lconst 0, 1) := by decide +kernel
theorem d_D_refusalFor_76 : decode c_D_refusalFor 76 = .ok (.lcmp, 1) := by decide +kernel
theorem d_D_refusalFor_77 : decode c_D_refusalFor 77 = .ok (.ifCond .ne 6, 3) := by decide +kernel
theorem d_D_refusalFor_80 : decode c_D_refusalFor 80 = .ok (.bipush (-6), 2) := by decide +kernel
theorem d_D_refusalFor_82 : decode c_D_refusalFor 82 = .ok (.ireturn, 1) := by decide +kernel
theorem d_D_refusalFor_83 : decode c_D_refusalFor 83 = .ok (.lload_n 2, 1) := by decide +kernel
theorem d_D_refusalFor_84 : decode c_D_refusalFor 84 = .ok (.aload_n 0, 1) := by decide +kernel
theorem d_D_refusalFor_85 : decode c_D_refusalFor 85 = .ok (.lload_n 2, 1) := by decide +kernel
theorem d_D_refusalFor_86 : decode c_D_refusalFor 86 = .ok (.invokevirtual 51, 3) := by decide +kernel
theorem d_D_refusalFor_89 : decode c_D_refusalFor 89 = .ok (.lcmp, 1) := by decide +kernel
theorem d_D_refusalFor_90 : decode c_D_refusalFor 90 = .ok (.ifCond .ne 7, 3) := by decide +kernel
theorem d_D_refusalFor_93 : decode c_D_refusalFor 93 = .ok (.iconst 0, 1) := by decide +kernel
theorem d_D_refusalFor_94 : decode c_D_refusalFor 94 = .ok (.goto 5, 3) := by decide +kernel
theorem d_D_refusalFor_97 : decode c_D_refusalFor 97 = .ok (.bipush (-7), 2) := by decide +kernel
theorem d_D_refusalFor_99 : decode c_D_refusalFor 99 = .ok (.ireturn, 1) := by decide +kernel
theorem d_D_dueSum_0 : decode c_D_dueSum 0 = .ok (.aload_n 0, 1) := by decide +kernel
theorem d_D_dueSum_1 : decode c_D_dueSum 1 = .ok (.getfield 22, 3) := by decide +kernel
theorem d_D_dueSum_4 : decode c_D_dueSum 4 = .ok (.tableswitch 48 3 5 #[28, 34, 38], 28) := by decide +kernel
theorem d_D_dueSum_32 : decode c_D_dueSum 32 = .ok (.aload_n 0, 1) := by decide +kernel
theorem d_D_dueSum_33 : decode c_D_dueSum 33 = .ok (.getfield 26, 3) := by decide +kernel
theorem d_D_dueSum_36 : decode c_D_dueSum 36 = .ok (.i2l, 1) := by decide +kernel
theorem d_D_dueSum_37 : decode c_D_dueSum 37 = .ok (.lreturn, 1) := by decide +kernel
theorem d_D_dueSum_38 : decode c_D_dueSum 38 = .ok (.ldc2_w 55, 3) := by decide +kernel
theorem d_D_dueSum_41 : decode c_D_dueSum 41 = .ok (.lreturn, 1) := by decide +kernel
theorem d_D_dueSum_42 : decode c_D_dueSum 42 = .ok (.ldc2_w 57, 3) := by decide +kernel
theorem d_D_dueSum_45 : decode c_D_dueSum 45 = .ok (.aload_n 0, 1) := by decide +kernel
theorem d_D_dueSum_46 : decode c_D_dueSum 46 = .ok (.getfield 26, 3) := by decide +kernel
theorem d_D_dueSum_49 : decode c_D_dueSum 49 = .ok (.i2l, 1) := by decide +kernel
theorem d_D_dueSum_50 : decode c_D_dueSum 50 = .ok (.lmul, 1) := by decide +kernel
theorem d_D_dueSum_51 : decode c_D_dueSum 51 = .ok (.lreturn, 1) := by decide +kernel
theorem d_D_dueSum_52 : decode c_D_dueSum 52 = .ok (.lload_n 1, 1) := by decide +kernel
theorem d_D_dueSum_53 : decode c_D_dueSum 53 = .ok (.lreturn, 1) := by decide +kernel
theorem d_D_toBill_0 : decode c_D_toBill 0 = .ok (.new 59, 3) := by decide +kernel
theorem d_D_toBill_3 : decode c_D_toBill 3 = .ok (.dup, 1) := by decide +kernel
theorem d_D_toBill_4 : decode c_D_toBill 4 = .ok (.aload_n 1, 1) := by decide +kernel
theorem d_D_toBill_5 : decode c_D_toBill 5 = .ok (.aload_n 0, 1) := by decide +kernel
theorem d_D_toBill_6 : decode c_D_toBill 6 = .ok (.getfield 26, 3) := by decide +kernel
theorem d_D_toBill_9 : decode c_D_toBill 9 = .ok (.i2l, 1) := by decide +kernel
theorem d_D_toBill_10 : decode c_D_toBill 10 = .ok (.aload_n 0, 1) := by decide +kernel
theorem d_D_toBill_11 : decode c_D_toBill 11 = .ok (.getfield 29, 3) := by decide +kernel
theorem d_D_toBill_14 : decode c_D_toBill 14 = .ok (.i2l, 1) := by decide +kernel
theorem d_D_toBill_15 : decode c_D_toBill 15 = .ok (.lmul, 1) := by decide +kernel
theorem d_D_toBill_16 : decode c_D_toBill 16 = .ok (.ldc2_w 61, 3) := by decide +kernel
theorem d_D_toBill_19 : decode c_D_toBill 19 = .ok (.ladd, 1) := by decide +kernel
theorem d_D_toBill_20 : decode c_D_toBill 20 = .ok (.ldc2_w 63, 3) := by decide +kernel
theorem d_D_toBill_23 : decode c_D_toBill 23 = .ok (.ldiv, 1) := by decide +kernel
theorem d_D_toBill_24 : decode c_D_toBill 24 = .ok (.invokespecial 65, 3) := by decide +kernel
theorem d_D_toBill_27 : decode c_D_toBill 27 = .ok (.astore_n 2, 1) := by decide +kernel
theorem d_D_toBill_28 : decode c_D_toBill 28 = .ok (.aload_n 2, 1) := by decide +kernel
theorem d_D_toBill_29 : decode c_D_toBill 29 = .ok (.getfield 68, 3) := by decide +kernel
theorem d_D_toBill_32 : decode c_D_toBill 32 = .ok (.aload_n 0, 1) := by decide +kernel
theorem d_D_toBill_33 : decode c_D_toBill 33 = .ok (.getfield 9, 3) := by decide +kernel
theorem d_D_toBill_36 : decode c_D_toBill 36 = .ok (.iconst 0, 1) := by decide +kernel
theorem d_D_toBill_37 : decode c_D_toBill 37 = .ok (.aload_n 2, 1) := by decide +kernel
theorem d_D_toBill_38 : decode c_D_toBill 38 = .ok (.getfield 72, 3) := by decide +kernel
theorem d_D_toBill_41 : decode c_D_toBill 41 = .ok (.invokestatic 75, 3) := by decide +kernel
theorem d_D_toBill_44 : decode c_D_toBill 44 = .ok (.pop, 1) := by decide +kernel
theorem d_D_toBill_45 : decode c_D_toBill 45 = .ok (.aload_n 1, 1) := by decide +kernel
theorem d_D_toBill_46 : decode c_D_toBill 46 = .ok (.aload_n 2, 1) := by decide +kernel
theorem d_D_toBill_47 : decode c_D_toBill 47 = .ok (.getfield 68, 3) := by decide +kernel
theorem d_D_toBill_50 : decode c_D_toBill 50 = .ok (.aload_n 0, 1) := by decide +kernel
theorem d_D_toBill_51 : decode c_D_toBill 51 = .ok (.getfield 15, 3) := by decide +kernel
theorem d_D_toBill_54 : decode c_D_toBill 54 = .ok (.aload_n 1, 1) := by decide +kernel
theorem d_D_toBill_55 : decode c_D_toBill 55 = .ok (.getfield 79, 3) := by decide +kernel
theorem d_D_toBill_58 : decode c_D_toBill 58 = .ok (.aload_n 2, 1) := by decide +kernel
theorem d_D_toBill_59 : decode c_D_toBill 59 = .ok (.getfield 82, 3) := by decide +kernel
theorem d_D_toBill_62 : decode c_D_toBill 62 = .ok (.invokestatic 75, 3) := by decide +kernel
theorem d_D_toBill_65 : decode c_D_toBill 65 = .ok (.putfield 79, 3) := by decide +kernel
theorem d_D_toBill_68 : decode c_D_toBill 68 = .ok (.aload_n 0, 1) := by decide +kernel
theorem d_D_toBill_69 : decode c_D_toBill 69 = .ok (.getfield 15, 3) := by decide +kernel
theorem d_D_toBill_72 : decode c_D_toBill 72 = .ok (.invokestatic 47, 3) := by decide +kernel
theorem d_D_toBill_75 : decode c_D_toBill 75 = .ok (.lstore_n 3, 1) := by decide +kernel
theorem d_D_toBill_76 : decode c_D_toBill 76 = .ok (.iconst 0, 1) := by decide +kernel
theorem d_D_toBill_77 : decode c_D_toBill 77 = .ok (.istore 5, 2) := by decide +kernel
theorem d_D_toBill_79 : decode c_D_toBill 79 = .ok (.iload 5, 2) := by decide +kernel
theorem d_D_toBill_81 : decode c_D_toBill 81 = .ok (.bipush 12, 2) := by decide +kernel
theorem d_D_toBill_83 : decode c_D_toBill 83 = .ok (.if_icmp .ge 51, 3) := by decide +kernel
theorem d_D_toBill_86 : decode c_D_toBill 86 = .ok (.ldc2_w 85, 3) := by decide +kernel
theorem d_D_toBill_89 : decode c_D_toBill 89 = .ok (.aload_n 2, 1) := by decide +kernel
theorem d_D_toBill_90 : decode c_D_toBill 90 = .ok (.getfield 68, 3) := by decide +kernel
theorem d_D_toBill_93 : decode c_D_toBill 93 = .ok (.lmul, 1) := by decide +kernel
theorem d_D_toBill_94 : decode c_D_toBill 94 = .ok (.aload_n 0, 1) := by decide +kernel
theorem d_D_toBill_95 : decode c_D_toBill 95 = .ok (.getfield 15, 3) := by decide +kernel
theorem d_D_toBill_98 : decode c_D_toBill 98 = .ok (.iload 5, 2) := by decide +kernel
theorem d_D_toBill_100 : decode c_D_toBill 100 = .ok (.laload, 1) := by decide +kernel
theorem d_D_toBill_101 : decode c_D_toBill 101 = .ok (.lload_n 3, 1) := by decide +kernel
theorem d_D_toBill_102 : decode c_D_toBill 102 = .ok (.invokestatic 87, 3) := by decide +kernel
theorem d_D_toBill_105 : decode c_D_toBill 105 = .ok (.lstore 6, 2) := by decide +kernel
theorem d_D_toBill_107 : decode c_D_toBill 107 = .ok (.aload_n 2, 1) := by decide +kernel
theorem d_D_toBill_108 : decode c_D_toBill 108 = .ok (.getfield 91, 3) := by decide +kernel
theorem d_D_toBill_111 : decode c_D_toBill 111 = .ok (.iload 5, 2) := by decide +kernel
theorem d_D_toBill_113 : decode c_D_toBill 113 = .ok (.ldc2_w 85, 3) := by decide +kernel
theorem d_D_toBill_116 : decode c_D_toBill 116 = .ok (.aload_n 2, 1) := by decide +kernel
theorem d_D_toBill_117 : decode c_D_toBill 117 = .ok (.getfield 82, 3) := by decide +kernel
theorem d_D_toBill_120 : decode c_D_toBill 120 = .ok (.iload 5, 2) := by decide +kernel
theorem d_D_toBill_122 : decode c_D_toBill 122 = .ok (.laload, 1) := by decide +kernel
theorem d_D_toBill_123 : decode c_D_toBill 123 = .ok (.lmul, 1) := by decide +kernel
theorem d_D_toBill_124 : decode c_D_toBill 124 = .ok (.lload 6, 2) := by decide +kernel
theorem d_D_toBill_126 : decode c_D_toBill 126 = .ok (.lsub, 1) := by decide +kernel
theorem d_D_toBill_127 : decode c_D_toBill 127 = .ok (.lastore, 1) := by decide +kernel
theorem d_D_toBill_128 : decode c_D_toBill 128 = .ok (.iinc 5 1, 3) := by decide +kernel
theorem d_D_toBill_131 : decode c_D_toBill 131 = .ok (.goto (-52), 3) := by decide +kernel
theorem d_D_toBill_134 : decode c_D_toBill 134 = .ok (.aload_n 2, 1) := by decide +kernel
theorem d_D_toBill_135 : decode c_D_toBill 135 = .ok (.areturn, 1) := by decide +kernel
theorem d_G_init_0 : decode c_G_init 0 = .ok (.aload_n 0, 1) := by decide +kernel
theorem d_G_init_1 : decode c_G_init 1 = .ok (.invokespecial 3, 3) := by decide +kernel
theorem d_G_init_4 : decode c_G_init 4 = .ok (.aload_n 0, 1) := by decide +kernel
theorem d_G_init_5 : decode c_G_init 5 = .ok (.bipush 12, 2) := by decide +kernel
theorem d_G_init_7 : decode c_G_init 7 = .ok (.newarray .int, 2) := by decide +kernel
theorem d_G_init_9 : decode c_G_init 9 = .ok (.putfield 9, 3) := by decide +kernel
theorem d_G_init_12 : decode c_G_init 12 = .ok (.aload_n 0, 1) := by decide +kernel
theorem d_G_init_13 : decode c_G_init 13 = .ok (.bipush 12, 2) := by decide +kernel
theorem d_G_init_15 : decode c_G_init 15 = .ok (.newarray .long, 2) := by decide +kernel
theorem d_G_init_17 : decode c_G_init 17 = .ok (.putfield 15, 3) := by decide +kernel
theorem d_G_init_20 : decode c_G_init 20 = .ok (.aload_n 0, 1) := by decide +kernel
theorem d_G_init_21 : decode c_G_init 21 = .ok (.sipush 4096, 3) := by decide +kernel
theorem d_G_init_24 : decode c_G_init 24 = .ok (.newarray .int, 2) := by decide +kernel
theorem d_G_init_26 : decode c_G_init 26 = .ok (.putfield 19, 3) := by decide +kernel
theorem d_G_init_29 : decode c_G_init 29 = .ok (.return_, 1) := by decide +kernel
theorem d_G_fill_0 : decode c_G_fill 0 = .ok (.aload_n 0, 1) := by decide +kernel
theorem d_G_fill_1 : decode c_G_fill 1 = .ok (.aload_n 2, 1) := by decide +kernel
theorem d_G_fill_2 : decode c_G_fill 2 = .ok (.invokevirtual 22, 3) := by decide +kernel
theorem d_G_fill_5 : decode c_G_fill 5 = .ok (.aload_n 0, 1) := by decide +kernel
theorem d_G_fill_6 : decode c_G_fill 6 = .ok (.invokevirtual 26, 3) := by decide +kernel
theorem d_G_fill_9 : decode c_G_fill 9 = .ok (.aload_n 1, 1) := by decide +kernel
theorem d_G_fill_10 : decode c_G_fill 10 = .ok (.invokevirtual 29, 3) := by decide +kernel
theorem d_G_fill_13 : decode c_G_fill 13 = .ok (.iconst 1, 1) := by decide +kernel
theorem d_G_fill_14 : decode c_G_fill 14 = .ok (.aload_n 0, 1) := by decide +kernel
theorem d_G_fill_15 : decode c_G_fill 15 = .ok (.getfield 34, 3) := by decide +kernel
theorem d_G_fill_18 : decode c_G_fill 18 = .ok (.ishl, 1) := by decide +kernel
theorem d_G_fill_19 : decode c_G_fill 19 = .ok (.iconst 1, 1) := by decide +kernel
theorem d_G_fill_20 : decode c_G_fill 20 = .ok (.isub, 1) := by decide +kernel
theorem d_G_fill_21 : decode c_G_fill 21 = .ok (.istore_n 3, 1) := by decide +kernel
theorem d_G_fill_22 : decode c_G_fill 22 = .ok (.iconst 0, 1) := by decide +kernel
theorem d_G_fill_23 : decode c_G_fill 23 = .ok (.istore 4, 2) := by decide +kernel
theorem d_G_fill_25 : decode c_G_fill 25 = .ok (.iload 4, 2) := by decide +kernel
theorem d_G_fill_27 : decode c_G_fill 27 = .ok (.bipush 12, 2) := by decide +kernel
theorem d_G_fill_29 : decode c_G_fill 29 = .ok (.if_icmp .ge 34, 3) := by decide +kernel
theorem d_G_fill_32 : decode c_G_fill 32 = .ok (.iload_n 3, 1) := by decide +kernel
theorem d_G_fill_33 : decode c_G_fill 33 = .ok (.ifCond .eq 30, 3) := by decide +kernel
theorem d_G_fill_36 : decode c_G_fill 36 = .ok (.aload_n 0, 1) := by decide +kernel
theorem d_G_fill_37 : decode c_G_fill 37 = .ok (.iload_n 3, 1) := by decide +kernel
theorem d_G_fill_38 : decode c_G_fill 38 = .ok (.invokevirtual 38, 3) := by decide +kernel
theorem d_G_fill_41 : decode c_G_fill 41 = .ok (.istore 5, 2) := by decide +kernel
theorem d_G_fill_43 : decode c_G_fill 43 = .ok (.aload_n 0, 1) := by decide +kernel
theorem d_G_fill_44 : decode c_G_fill 44 = .ok (.aload_n 1, 1) := by decide +kernel
theorem d_G_fill_45 : decode c_G_fill 45 = .ok (.iload 5, 2) := by decide +kernel
theorem d_G_fill_47 : decode c_G_fill 47 = .ok (.invokevirtual 42, 3) := by decide +kernel
theorem d_G_fill_50 : decode c_G_fill 50 = .ok (.iload_n 3, 1) := by decide +kernel
theorem d_G_fill_51 : decode c_G_fill 51 = .ok (.iload 5, 2) := by decide +kernel
theorem d_G_fill_53 : decode c_G_fill 53 = .ok (.iconst (-1), 1) := by decide +kernel
theorem d_G_fill_54 : decode c_G_fill 54 = .ok (.ixor, 1) := by decide +kernel
theorem d_G_fill_55 : decode c_G_fill 55 = .ok (.iand, 1) := by decide +kernel
theorem d_G_fill_56 : decode c_G_fill 56 = .ok (.istore_n 3, 1) := by decide +kernel
theorem d_G_fill_57 : decode c_G_fill 57 = .ok (.iinc 4 1, 3) := by decide +kernel
theorem d_G_fill_60 : decode c_G_fill 60 = .ok (.goto (-35), 3) := by decide +kernel
theorem d_G_fill_63 : decode c_G_fill 63 = .ok (.return_, 1) := by decide +kernel
theorem d_G_gather_0 : decode c_G_gather 0 = .ok (.aload_n 0, 1) := by decide +kernel
theorem d_G_gather_1 : decode c_G_gather 1 = .ok (.iconst 0, 1) := by decide +kernel
theorem d_G_gather_2 : decode c_G_gather 2 = .ok (.putfield 34, 3) := by decide +kernel
theorem d_G_gather_5 : decode c_G_gather 5 = .ok (.iconst 0, 1) := by decide +kernel
theorem d_G_gather_6 : decode c_G_gather 6 = .ok (.istore_n 2, 1) := by decide +kernel
theorem d_G_gather_7 : decode c_G_gather 7 = .ok (.iload_n 2, 1) := by decide +kernel
theorem d_G_gather_8 : decode c_G_gather 8 = .ok (.bipush 12, 2) := by decide +kernel
theorem d_G_gather_10 : decode c_G_gather 10 = .ok (.if_icmp .ge 49, 3) := by decide +kernel
theorem d_G_gather_13 : decode c_G_gather 13 = .ok (.aload_n 1, 1) := by decide +kernel
theorem d_G_gather_14 : decode c_G_gather 14 = .ok (.iload_n 2, 1) := by decide +kernel
theorem d_G_gather_15 : decode c_G_gather 15 = .ok (.laload, 1) := by decide +kernel
theorem d_G_gather_16 : decode c_G_gather 16 = .ok (.lconst 0, 1) := by decide +kernel
theorem d_G_gather_17 : decode c_G_gather 17 = .ok (.lcmp, 1) := by decide +kernel
theorem d_G_gather_18 : decode c_G_gather 18 = .ok (.ifCond .eq 35, 3) := by decide +kernel
theorem d_G_gather_21 : decode c_G_gather 21 = .ok (.aload_n 0, 1) := by decide +kernel
theorem d_G_gather_22 : decode c_G_gather 22 = .ok (.getfield 9, 3) := by decide +kernel
theorem d_G_gather_25 : decode c_G_gather 25 = .ok (.aload_n 0, 1) := by decide +kernel
theorem d_G_gather_26 : decode c_G_gather 26 = .ok (.getfield 34, 3) := by decide +kernel
theorem d_G_gather_29 : decode c_G_gather 29 = .ok (.iload_n 2, 1) := by decide +kernel
theorem d_G_gather_30 : decode c_G_gather 30 = .ok (.iastore, 1) := by decide +kernel
theorem d_G_gather_31 : decode c_G_gather 31 = .ok (.aload_n 0, 1) := by decide +kernel
theorem d_G_gather_32 : decode c_G_gather 32 = .ok (.getfield 15, 3) := by decide +kernel
theorem d_G_gather_35 : decode c_G_gather 35 = .ok (.aload_n 0, 1) := by decide +kernel
theorem d_G_gather_36 : decode c_G_gather 36 = .ok (.getfield 34, 3) := by decide +kernel
theorem d_G_gather_39 : decode c_G_gather 39 = .ok (.aload_n 1, 1) := by decide +kernel
theorem d_G_gather_40 : decode c_G_gather 40 = .ok (.iload_n 2, 1) := by decide +kernel
theorem d_G_gather_41 : decode c_G_gather 41 = .ok (.laload, 1) := by decide +kernel
theorem d_G_gather_42 : decode c_G_gather 42 = .ok (.lastore, 1) := by decide +kernel
theorem d_G_gather_43 : decode c_G_gather 43 = .ok (.aload_n 0, 1) := by decide +kernel
theorem d_G_gather_44 : decode c_G_gather 44 = .ok (.dup, 1) := by decide +kernel
theorem d_G_gather_45 : decode c_G_gather 45 = .ok (.getfield 34, 3) := by decide +kernel
theorem d_G_gather_48 : decode c_G_gather 48 = .ok (.iconst 1, 1) := by decide +kernel
theorem d_G_gather_49 : decode c_G_gather 49 = .ok (.iadd, 1) := by decide +kernel
theorem d_G_gather_50 : decode c_G_gather 50 = .ok (.putfield 34, 3) := by decide +kernel
theorem d_G_gather_53 : decode c_G_gather 53 = .ok (.iinc 2 1, 3) := by decide +kernel
theorem d_G_gather_56 : decode c_G_gather 56 = .ok (.goto (-49), 3) := by decide +kernel
theorem d_G_gather_59 : decode c_G_gather 59 = .ok (.return_, 1) := by decide +kernel
theorem d_G_countMost_0 : decode c_G_countMost 0 = .ok (.aload_n 0, 1) := by decide +kernel
theorem d_G_countMost_1 : decode c_G_countMost 1 = .ok (.getfield 19, 3) := by decide +kernel
theorem d_G_countMost_4 : decode c_G_countMost 4 = .ok (.iconst 0, 1) := by decide +kernel
theorem d_G_countMost_5 : decode c_G_countMost 5 = .ok (.iconst 0, 1) := by decide +kernel
theorem d_G_countMost_6 : decode c_G_countMost 6 = .ok (.iastore, 1) := by decide +kernel
theorem d_G_countMost_7 : decode c_G_countMost 7 = .ok (.iconst 1, 1) := by decide +kernel
theorem d_G_countMost_8 : decode c_G_countMost 8 = .ok (.istore_n 1, 1) := by decide +kernel
theorem d_G_countMost_9 : decode c_G_countMost 9 = .ok (.iload_n 1, 1) := by decide +kernel
theorem d_G_countMost_10 : decode c_G_countMost 10 = .ok (.iconst 1, 1) := by decide +kernel
theorem d_G_countMost_11 : decode c_G_countMost 11 = .ok (.aload_n 0, 1) := by decide +kernel
theorem d_G_countMost_12 : decode c_G_countMost 12 = .ok (.getfield 34, 3) := by decide +kernel
theorem d_G_countMost_15 : decode c_G_countMost 15 = .ok (.ishl, 1) := by decide +kernel
theorem d_G_countMost_16 : decode c_G_countMost 16 = .ok (.if_icmp .ge 90, 3) := by decide +kernel
theorem d_G_countMost_19 : decode c_G_countMost 19 = .ok (.lconst 0, 1) := by decide +kernel
theorem d_G_countMost_20 : decode c_G_countMost 20 = .ok (.lstore_n 2, 1) := by decide +kernel
theorem d_G_countMost_21 : decode c_G_countMost 21 = .ok (.iconst 0, 1) := by decide +kernel
theorem d_G_countMost_22 : decode c_G_countMost 22 = .ok (.istore 4, 2) := by decide +kernel
theorem d_G_countMost_24 : decode c_G_countMost 24 = .ok (.iconst 0, 1) := by decide +kernel
theorem d_G_countMost_25 : decode c_G_countMost 25 = .ok (.istore 5, 2) := by decide +kernel
theorem d_G_countMost_27 : decode c_G_countMost 27 = .ok (.iload 5, 2) := by decide +kernel
theorem d_G_countMost_29 : decode c_G_countMost 29 = .ok (.aload_n 0, 1) := by decide +kernel
theorem d_G_countMost_30 : decode c_G_countMost 30 = .ok (.getfield 34, 3) := by decide +kernel
theorem d_G_countMost_33 : decode c_G_countMost 33 = .ok (.if_icmp .ge 46, 3) := by decide +kernel
theorem d_G_countMost_36 : decode c_G_countMost 36 = .ok (.iload_n 1, 1) := by decide +kernel
theorem d_G_countMost_37 : decode c_G_countMost 37 = .ok (.iload 5, 2) := by decide +kernel
theorem d_G_countMost_39 : decode c_G_countMost 39 = .ok (.ishr, 1) := by decide +kernel
theorem d_G_countMost_40 : decode c_G_countMost 40 = .ok (.iconst 1, 1) := by decide +kernel
theorem d_G_countMost_41 : decode c_G_countMost 41 = .ok (.iand, 1) := by decide +kernel
theorem d_G_countMost_42 : decode c_G_countMost 42 = .ok (.ifCond .eq 31, 3) := by decide +kernel
theorem d_G_countMost_45 : decode c_G_countMost 45 = .ok (.lload_n 2, 1) := by decide +kernel
theorem d_G_countMost_46 : decode c_G_countMost 46 = .ok (.aload_n 0, 1) := by decide +kernel
theorem d_G_countMost_47 : decode c_G_countMost 47 = .ok (.getfield 15, 3) := by decide +kernel
theorem d_G_countMost_50 : decode c_G_countMost 50 = .ok (.iload 5, 2) := by decide +kernel
theorem d_G_countMost_52 : decode c_G_countMost 52 = .ok (.laload, 1) := by decide +kernel
theorem d_G_countMost_53 : decode c_G_countMost 53 = .ok (.ladd, 1) := by decide +kernel
theorem d_G_countMost_54 : decode c_G_countMost 54 = .ok (.lstore_n 2, 1) := by decide +kernel
theorem d_G_countMost_55 : decode c_G_countMost 55 = .ok (.iload 4, 2) := by decide +kernel
theorem d_G_countMost_57 : decode c_G_countMost 57 = .ok (.aload_n 0, 1) := by decide +kernel
theorem d_G_countMost_58 : decode c_G_countMost 58 = .ok (.getfield 19, 3) := by decide +kernel
theorem d_G_countMost_61 : decode c_G_countMost 61 = .ok (.iload_n 1, 1) := by decide +kernel
theorem d_G_countMost_62 : decode c_G_countMost 62 = .ok (.iconst 1, 1) := by decide +kernel
theorem d_G_countMost_63 : decode c_G_countMost 63 = .ok (.iload 5, 2) := by decide +kernel
theorem d_G_countMost_65 : decode c_G_countMost 65 = .ok (.ishl, 1) := by decide +kernel
theorem d_G_countMost_66 : decode c_G_countMost 66 = .ok (.ixor, 1) := by decide +kernel
theorem d_G_countMost_67 : decode c_G_countMost 67 = .ok (.iaload, 1) := by decide +kernel
theorem d_G_countMost_68 : decode c_G_countMost 68 = .ok (.invokestatic 46, 3) := by decide +kernel
theorem d_G_countMost_71 : decode c_G_countMost 71 = .ok (.istore 4, 2) := by decide +kernel
theorem d_G_countMost_73 : decode c_G_countMost 73 = .ok (.iinc 5 1, 3) := by decide +kernel
theorem d_G_countMost_76 : decode c_G_countMost 76 = .ok (.goto (-49), 3) := by decide +kernel
theorem d_G_countMost_79 : decode c_G_countMost 79 = .ok (.aload_n 0, 1) := by decide +kernel
theorem d_G_countMost_80 : decode c_G_countMost 80 = .ok (.getfield 19, 3) := by decide +kernel
theorem d_G_countMost_83 : decode c_G_countMost 83 = .ok (.iload_n 1, 1) := by decide +kernel
theorem d_G_countMost_84 : decode c_G_countMost 84 = .ok (.lload_n 2, 1) := by decide +kernel
theorem d_G_countMost_85 : decode c_G_countMost 85 = .ok (.lconst 0, 1) := by decide +kernel
theorem d_G_countMost_86 : decode c_G_countMost 86 = .ok (.lcmp, 1) := by decide +kernel
theorem d_G_countMost_87 : decode c_G_countMost 87 = .ok (.ifCond .ne 10, 3) := by decide +kernel
theorem d_G_countMost_90 : decode c_G_countMost 90 = .ok (.iload 4, 2) := by decide +kernel
theorem d_G_countMost_92 : decode c_G_countMost 92 = .ok (.iconst 1, 1) := by decide +kernel
theorem d_G_countMost_93 : decode c_G_countMost 93 = .ok (.iadd, 1) := by decide +kernel
theorem d_G_countMost_94 : decode c_G_countMost 94 = .ok (.goto 5, 3) := by decide +kernel
theorem d_G_countMost_97 : decode c_G_countMost 97 = .ok (.iload 4, 2) := by decide +kernel
theorem d_G_countMost_99 : decode c_G_countMost 99 = .ok (.iastore, 1) := by decide +kernel
theorem d_G_countMost_100 : decode c_G_countMost 100 = .ok (.iinc 1 1, 3) := by decide +kernel
theorem d_G_countMost_103 : decode c_G_countMost 103 = .ok (.goto (-94), 3) := by decide +kernel
theorem d_G_countMost_106 : decode c_G_countMost 106 = .ok (.return_, 1) := by decide +kernel
theorem d_G_firstGroup_0 : decode c_G_firstGroup 0 = .ok (.iload_n 1, 1) := by decide +kernel
theorem d_G_firstGroup_1 : decode c_G_firstGroup 1 = .ok (.iload_n 1, 1) := by decide +kernel
theorem d_G_firstGroup_2 : decode c_G_firstGroup 2 = .ok (.ineg, 1) := by decide +kernel
theorem d_G_firstGroup_3 : decode c_G_firstGroup 3 = .ok (.iand, 1) := by decide +kernel
theorem d_G_firstGroup_4 : decode c_G_firstGroup 4 = .ok (.istore_n 2, 1) := by decide +kernel
theorem d_G_firstGroup_5 : decode c_G_firstGroup 5 = .ok (.iload_n 2, 1) := by decide +kernel
theorem d_G_firstGroup_6 : decode c_G_firstGroup 6 = .ok (.istore_n 3, 1) := by decide +kernel
theorem d_G_firstGroup_7 : decode c_G_firstGroup 7 = .ok (.iload_n 3, 1) := by decide +kernel
theorem d_G_firstGroup_8 : decode c_G_firstGroup 8 = .ok (.iload_n 1, 1) := by decide +kernel
theorem d_G_firstGroup_9 : decode c_G_firstGroup 9 = .ok (.if_icmp .ge 54, 3) := by decide +kernel
theorem d_G_firstGroup_12 : decode c_G_firstGroup 12 = .ok (.iload_n 3, 1) := by decide +kernel
theorem d_G_firstGroup_13 : decode c_G_firstGroup 13 = .ok (.iload_n 2, 1) := by decide +kernel
theorem d_G_firstGroup_14 : decode c_G_firstGroup 14 = .ok (.iand, 1) := by decide +kernel
theorem d_G_firstGroup_15 : decode c_G_firstGroup 15 = .ok (.ifCond .eq 42, 3) := by decide +kernel
theorem d_G_firstGroup_18 : decode c_G_firstGroup 18 = .ok (.iload_n 3, 1) := by decide +kernel
theorem d_G_firstGroup_19 : decode c_G_firstGroup 19 = .ok (.iload_n 1, 1) := by decide +kernel
theorem d_G_firstGroup_20 : decode c_G_firstGroup 20 = .ok (.iconst (-1), 1) := by decide +kernel
theorem d_G_firstGroup_21 : decode c_G_firstGroup 21 = .ok (.ixor, 1) := by decide +kernel
theorem d_G_firstGroup_22 : decode c_G_firstGroup 22 = .ok (.iand, 1) := by decide +kernel
theorem d_G_firstGroup_23 : decode c_G_firstGroup 23 = .ok (.ifCond .ne 34, 3) := by decide +kernel
theorem d_G_firstGroup_26 : decode c_G_firstGroup 26 = .ok (.aload_n 0, 1) := by decide +kernel
theorem d_G_firstGroup_27 : decode c_G_firstGroup 27 = .ok (.getfield 19, 3) := by decide +kernel
theorem d_G_firstGroup_30 : decode c_G_firstGroup 30 = .ok (.iload_n 1, 1) := by decide +kernel
theorem d_G_firstGroup_31 : decode c_G_firstGroup 31 = .ok (.iload_n 3, 1) := by decide +kernel
theorem d_G_firstGroup_32 : decode c_G_firstGroup 32 = .ok (.ixor, 1) := by decide +kernel
theorem d_G_firstGroup_33 : decode c_G_firstGroup 33 = .ok (.iaload, 1) := by decide +kernel
theorem d_G_firstGroup_34 : decode c_G_firstGroup 34 = .ok (.aload_n 0, 1) := by decide +kernel
theorem d_G_firstGroup_35 : decode c_G_firstGroup 35 = .ok (.getfield 19, 3) := by decide +kernel
theorem d_G_firstGroup_38 : decode c_G_firstGroup 38 = .ok (.iload_n 1, 1) := by decide +kernel
theorem d_G_firstGroup_39 : decode c_G_firstGroup 39 = .ok (.iaload, 1) := by decide +kernel
theorem d_G_firstGroup_40 : decode c_G_firstGroup 40 = .ok (.iconst 1, 1) := by decide +kernel
theorem d_G_firstGroup_41 : decode c_G_firstGroup 41 = .ok (.isub, 1) := by decide +kernel
theorem d_G_firstGroup_42 : decode c_G_firstGroup 42 = .ok (.if_icmp .ne 15, 3) := by decide +kernel
theorem d_G_firstGroup_45 : decode c_G_firstGroup 45 = .ok (.aload_n 0, 1) := by decide +kernel
theorem d_G_firstGroup_46 : decode c_G_firstGroup 46 = .ok (.iload_n 3, 1) := by decide +kernel
theorem d_G_firstGroup_47 : decode c_G_firstGroup 47 = .ok (.invokevirtual 52, 3) := by decide +kernel
theorem d_G_firstGroup_50 : decode c_G_firstGroup 50 = .ok (.lconst 0, 1) := by decide +kernel
theorem d_G_firstGroup_51 : decode c_G_firstGroup 51 = .ok (.lcmp, 1) := by decide +kernel
theorem d_G_firstGroup_52 : decode c_G_firstGroup 52 = .ok (.ifCond .ne 5, 3) := by decide +kernel
theorem d_G_firstGroup_55 : decode c_G_firstGroup 55 = .ok (.iload_n 3, 1) := by decide +kernel
theorem d_G_firstGroup_56 : decode c_G_firstGroup 56 = .ok (.ireturn, 1) := by decide +kernel
theorem d_G_firstGroup_57 : decode c_G_firstGroup 57 = .ok (.iinc 3 1, 3) := by decide +kernel
theorem d_G_firstGroup_60 : decode c_G_firstGroup 60 = .ok (.goto (-53), 3) := by decide +kernel
theorem d_G_firstGroup_63 : decode c_G_firstGroup 63 = .ok (.iload_n 1, 1) := by decide +kernel
theorem d_G_firstGroup_64 : decode c_G_firstGroup 64 = .ok (.ireturn, 1) := by decide +kernel
theorem d_G_sumOfSet_0 : decode c_G_sumOfSet 0 = .ok (.lconst 0, 1) := by decide +kernel
theorem d_G_sumOfSet_1 : decode c_G_sumOfSet 1 = .ok (.lstore_n 2, 1) := by decide +kernel
theorem d_G_sumOfSet_2 : decode c_G_sumOfSet 2 = .ok (.iconst 0, 1) := by decide +kernel
theorem d_G_sumOfSet_3 : decode c_G_sumOfSet 3 = .ok (.istore 4, 2) := by decide +kernel
theorem d_G_sumOfSet_5 : decode c_G_sumOfSet 5 = .ok (.iload 4, 2) := by decide +kernel
theorem d_G_sumOfSet_7 : decode c_G_sumOfSet 7 = .ok (.aload_n 0, 1) := by decide +kernel
theorem d_G_sumOfSet_8 : decode c_G_sumOfSet 8 = .ok (.getfield 34, 3) := by decide +kernel
theorem d_G_sumOfSet_11 : decode c_G_sumOfSet 11 = .ok (.if_icmp .ge 28, 3) := by decide +kernel
theorem d_G_sumOfSet_14 : decode c_G_sumOfSet 14 = .ok (.iload_n 1, 1) := by decide +kernel
theorem d_G_sumOfSet_15 : decode c_G_sumOfSet 15 = .ok (.iload 4, 2) := by decide +kernel
theorem d_G_sumOfSet_17 : decode c_G_sumOfSet 17 = .ok (.ishr, 1) := by decide +kernel
theorem d_G_sumOfSet_18 : decode c_G_sumOfSet 18 = .ok (.iconst 1, 1) := by decide +kernel
theorem d_G_sumOfSet_19 : decode c_G_sumOfSet 19 = .ok (.iand, 1) := by decide +kernel
theorem d_G_sumOfSet_20 : decode c_G_sumOfSet 20 = .ok (.ifCond .eq 13, 3) := by decide +kernel
theorem d_G_sumOfSet_23 : decode c_G_sumOfSet 23 = .ok (.lload_n 2, 1) := by decide +kernel
theorem d_G_sumOfSet_24 : decode c_G_sumOfSet 24 = .ok (.aload_n 0, 1) := by decide +kernel
theorem d_G_sumOfSet_25 : decode c_G_sumOfSet 25 = .ok (.getfield 15, 3) := by decide +kernel
theorem d_G_sumOfSet_28 : decode c_G_sumOfSet 28 = .ok (.iload 4, 2) := by decide +kernel
theorem d_G_sumOfSet_30 : decode c_G_sumOfSet 30 = .ok (.laload, 1) := by decide +kernel
theorem d_G_sumOfSet_31 : decode c_G_sumOfSet 31 = .ok (.ladd, 1) := by decide +kernel
theorem d_G_sumOfSet_32 : decode c_G_sumOfSet 32 = .ok (.lstore_n 2, 1) := by decide +kernel
theorem d_G_sumOfSet_33 : decode c_G_sumOfSet 33 = .ok (.iinc 4 1, 3) := by decide +kernel
theorem d_G_sumOfSet_36 : decode c_G_sumOfSet 36 = .ok (.goto (-31), 3) := by decide +kernel
theorem d_G_sumOfSet_39 : decode c_G_sumOfSet 39 = .ok (.lload_n 2, 1) := by decide +kernel
theorem d_G_sumOfSet_40 : decode c_G_sumOfSet 40 = .ok (.lreturn, 1) := by decide +kernel
theorem d_G_addGroup_0 : decode c_G_addGroup 0 = .ok (.lconst 0, 1) := by decide +kernel
theorem d_G_addGroup_1 : decode c_G_addGroup 1 = .ok (.lstore_n 3, 1) := by decide +kernel
theorem d_G_addGroup_2 : decode c_G_addGroup 2 = .ok (.iconst (-1), 1) := by decide +kernel
theorem d_G_addGroup_3 : decode c_G_addGroup 3 = .ok (.istore 5, 2) := by decide +kernel
theorem d_G_addGroup_5 : decode c_G_addGroup 5 = .ok (.iconst 0, 1) := by decide +kernel
theorem d_G_addGroup_6 : decode c_G_addGroup 6 = .ok (.istore 6, 2) := by decide +kernel
theorem d_G_addGroup_8 : decode c_G_addGroup 8 = .ok (.iload 6, 2) := by decide +kernel
theorem d_G_addGroup_10 : decode c_G_addGroup 10 = .ok (.aload_n 0, 1) := by decide +kernel
theorem d_G_addGroup_11 : decode c_G_addGroup 11 = .ok (.getfield 34, 3) := by decide +kernel
theorem d_G_addGroup_14 : decode c_G_addGroup 14 = .ok (.if_icmp .ge 73, 3) := by decide +kernel
theorem d_G_addGroup_17 : decode c_G_addGroup 17 = .ok (.iload_n 2, 1) := by decide +kernel
theorem d_G_addGroup_18 : decode c_G_addGroup 18 = .ok (.iload 6, 2) := by decide +kernel
theorem d_G_addGroup_20 : decode c_G_addGroup 20 = .ok (.ishr, 1) := by decide +kernel
theorem d_G_addGroup_21 : decode c_G_addGroup 21 = .ok (.iconst 1, 1) := by decide +kernel
theorem d_G_addGroup_22 : decode c_G_addGroup 22 = .ok (.iand, 1) := by decide +kernel
theorem d_G_addGroup_23 : decode c_G_addGroup 23 = .ok (.ifCond .eq 58, 3) := by decide +kernel
theorem d_G_addGroup_26 : decode c_G_addGroup 26 = .ok (.iload 5, 2) := by decide +kernel
theorem d_G_addGroup_28 : decode c_G_addGroup 28 = .ok (.iconst (-1), 1) := by decide +kernel
theorem d_G_addGroup_29 : decode c_G_addGroup 29 = .ok (.if_icmp .eq 17, 3) := by decide +kernel
theorem d_G_addGroup_32 : decode c_G_addGroup 32 = .ok (.aload_n 1, 1) := by decide +kernel
theorem d_G_addGroup_33 : decode c_G_addGroup 33 = .ok (.iload 5, 2) := by decide +kernel
theorem d_G_addGroup_35 : decode c_G_addGroup 35 = .ok (.aload_n 0, 1) := by decide +kernel
theorem d_G_addGroup_36 : decode c_G_addGroup 36 = .ok (.getfield 9, 3) := by decide +kernel
theorem d_G_addGroup_39 : decode c_G_addGroup 39 = .ok (.iload 6, 2) := by decide +kernel
theorem d_G_addGroup_41 : decode c_G_addGroup 41 = .ok (.iaload, 1) := by decide +kernel
theorem d_G_addGroup_42 : decode c_G_addGroup 42 = .ok (.lload_n 3, 1) := by decide +kernel
theorem d_G_addGroup_43 : decode c_G_addGroup 43 = .ok (.invokevirtual 56, 3) := by decide +kernel
theorem d_G_addGroup_46 : decode c_G_addGroup 46 = .ok (.aload_n 1, 1) := by decide +kernel
theorem d_G_addGroup_47 : decode c_G_addGroup 47 = .ok (.getfield 60, 3) := by decide +kernel
theorem d_G_addGroup_50 : decode c_G_addGroup 50 = .ok (.aload_n 0, 1) := by decide +kernel
theorem d_G_addGroup_51 : decode c_G_addGroup 51 = .ok (.getfield 9, 3) := by decide +kernel
theorem d_G_addGroup_54 : decode c_G_addGroup 54 = .ok (.iload 6, 2) := by decide +kernel
theorem d_G_addGroup_56 : decode c_G_addGroup 56 = .ok (.iaload, 1) := by decide +kernel
theorem d_G_addGroup_57 : decode c_G_addGroup 57 = .ok (.aload_n 1, 1) := by decide +kernel
theorem d_G_addGroup_58 : decode c_G_addGroup 58 = .ok (.getfield 63, 3) := by decide +kernel
theorem d_G_addGroup_61 : decode c_G_addGroup 61 = .ok (.iastore, 1) := by decide +kernel
theorem d_G_addGroup_62 : decode c_G_addGroup 62 = .ok (.aload_n 0, 1) := by decide +kernel
theorem d_G_addGroup_63 : decode c_G_addGroup 63 = .ok (.getfield 9, 3) := by decide +kernel
theorem d_G_addGroup_66 : decode c_G_addGroup 66 = .ok (.iload 6, 2) := by decide +kernel
theorem d_G_addGroup_68 : decode c_G_addGroup 68 = .ok (.iaload, 1) := by decide +kernel
theorem d_G_addGroup_69 : decode c_G_addGroup 69 = .ok (.istore 5, 2) := by decide +kernel
theorem d_G_addGroup_71 : decode c_G_addGroup 71 = .ok (.lload_n 3, 1) := by decide +kernel
theorem d_G_addGroup_72 : decode c_G_addGroup 72 = .ok (.aload_n 0, 1) := by decide +kernel
theorem d_G_addGroup_73 : decode c_G_addGroup 73 = .ok (.getfield 15, 3) := by decide +kernel
theorem d_G_addGroup_76 : decode c_G_addGroup 76 = .ok (.iload 6, 2) := by decide +kernel
theorem d_G_addGroup_78 : decode c_G_addGroup 78 = .ok (.laload, 1) := by decide +kernel
theorem d_G_addGroup_79 : decode c_G_addGroup 79 = .ok (.ladd, 1) := by decide +kernel
theorem d_G_addGroup_80 : decode c_G_addGroup 80 = .ok (.lstore_n 3, 1) := by decide +kernel
theorem d_G_addGroup_81 : decode c_G_addGroup 81 = .ok (.iinc 6 1, 3) := by decide +kernel
theorem d_G_addGroup_84 : decode c_G_addGroup 84 = .ok (.goto (-76), 3) := by decide +kernel
theorem d_G_addGroup_87 : decode c_G_addGroup 87 = .ok (.aload_n 1, 1) := by decide +kernel
theorem d_G_addGroup_88 : decode c_G_addGroup 88 = .ok (.dup, 1) := by decide +kernel
theorem d_G_addGroup_89 : decode c_G_addGroup 89 = .ok (.getfield 63, 3) := by decide +kernel
theorem d_G_addGroup_92 : decode c_G_addGroup 92 = .ok (.iconst 1, 1) := by decide +kernel
theorem d_G_addGroup_93 : decode c_G_addGroup 93 = .ok (.iadd, 1) := by decide +kernel
theorem d_G_addGroup_94 : decode c_G_addGroup 94 = .ok (.putfield 63, 3) := by decide +kernel
theorem d_G_addGroup_97 : decode c_G_addGroup 97 = .ok (.return_, 1) := by decide +kernel
theorem d_S_init_0 : decode c_S_init 0 = .ok (.aload_n 0, 1) := by decide +kernel
theorem d_S_init_1 : decode c_S_init 1 = .ok (.invokespecial 3, 3) := by decide +kernel
theorem d_S_init_4 : decode c_S_init 4 = .ok (.aload_n 0, 1) := by decide +kernel
theorem d_S_init_5 : decode c_S_init 5 = .ok (.bipush 12, 2) := by decide +kernel
theorem d_S_init_7 : decode c_S_init 7 = .ok (.newarray .int, 2) := by decide +kernel
theorem d_S_init_9 : decode c_S_init 9 = .ok (.putfield 9, 3) := by decide +kernel
theorem d_S_init_12 : decode c_S_init 12 = .ok (.aload_n 0, 1) := by decide +kernel
theorem d_S_init_13 : decode c_S_init 13 = .ok (.bipush 12, 2) := by decide +kernel
theorem d_S_init_15 : decode c_S_init 15 = .ok (.newarray .int, 2) := by decide +kernel
theorem d_S_init_17 : decode c_S_init 17 = .ok (.putfield 15, 3) := by decide +kernel
theorem d_S_init_20 : decode c_S_init 20 = .ok (.aload_n 0, 1) := by decide +kernel
theorem d_S_init_21 : decode c_S_init 21 = .ok (.bipush 12, 2) := by decide +kernel
theorem d_S_init_23 : decode c_S_init 23 = .ok (.newarray .int, 2) := by decide +kernel
theorem d_S_init_25 : decode c_S_init 25 = .ok (.putfield 18, 3) := by decide +kernel
theorem d_S_init_28 : decode c_S_init 28 = .ok (.aload_n 0, 1) := by decide +kernel
theorem d_S_init_29 : decode c_S_init 29 = .ok (.bipush 12, 2) := by decide +kernel
theorem d_S_init_31 : decode c_S_init 31 = .ok (.newarray .long, 2) := by decide +kernel
theorem d_S_init_33 : decode c_S_init 33 = .ok (.putfield 21, 3) := by decide +kernel
theorem d_S_init_36 : decode c_S_init 36 = .ok (.aload_n 0, 1) := by decide +kernel
theorem d_S_init_37 : decode c_S_init 37 = .ok (.bipush 12, 2) := by decide +kernel
theorem d_S_init_39 : decode c_S_init 39 = .ok (.newarray .boolean, 2) := by decide +kernel
theorem d_S_init_41 : decode c_S_init 41 = .ok (.putfield 25, 3) := by decide +kernel
theorem d_S_init_44 : decode c_S_init 44 = .ok (.return_, 1) := by decide +kernel
theorem d_S_begin_0 : decode c_S_begin 0 = .ok (.aload_n 0, 1) := by decide +kernel
theorem d_S_begin_1 : decode c_S_begin 1 = .ok (.iconst 1, 1) := by decide +kernel
theorem d_S_begin_2 : decode c_S_begin 2 = .ok (.putfield 29, 3) := by decide +kernel
theorem d_S_begin_5 : decode c_S_begin 5 = .ok (.aload_n 0, 1) := by decide +kernel
theorem d_S_begin_6 : decode c_S_begin 6 = .ok (.iconst 0, 1) := by decide +kernel
theorem d_S_begin_7 : decode c_S_begin 7 = .ok (.putfield 33, 3) := by decide +kernel
theorem d_S_begin_10 : decode c_S_begin 10 = .ok (.aload_n 0, 1) := by decide +kernel
theorem d_S_begin_11 : decode c_S_begin 11 = .ok (.iconst 0, 1) := by decide +kernel
theorem d_S_begin_12 : decode c_S_begin 12 = .ok (.putfield 37, 3) := by decide +kernel
theorem d_S_begin_15 : decode c_S_begin 15 = .ok (.aload_n 0, 1) := by decide +kernel
theorem d_S_begin_16 : decode c_S_begin 16 = .ok (.iconst 0, 1) := by decide +kernel
theorem d_S_begin_17 : decode c_S_begin 17 = .ok (.putfield 40, 3) := by decide +kernel
theorem d_S_begin_20 : decode c_S_begin 20 = .ok (.iconst 0, 1) := by decide +kernel
theorem d_S_begin_21 : decode c_S_begin 21 = .ok (.istore_n 1, 1) := by decide +kernel
theorem d_S_begin_22 : decode c_S_begin 22 = .ok (.iload_n 1, 1) := by decide +kernel
theorem d_S_begin_23 : decode c_S_begin 23 = .ok (.bipush 12, 2) := by decide +kernel
theorem d_S_begin_25 : decode c_S_begin 25 = .ok (.if_icmp .ge 16, 3) := by decide +kernel
theorem d_S_begin_28 : decode c_S_begin 28 = .ok (.aload_n 0, 1) := by decide +kernel
theorem d_S_begin_29 : decode c_S_begin 29 = .ok (.getfield 9, 3) := by decide +kernel
theorem d_S_begin_32 : decode c_S_begin 32 = .ok (.iload_n 1, 1) := by decide +kernel
theorem d_S_begin_33 : decode c_S_begin 33 = .ok (.iconst (-1), 1) := by decide +kernel
theorem d_S_begin_34 : decode c_S_begin 34 = .ok (.iastore, 1) := by decide +kernel
theorem d_S_begin_35 : decode c_S_begin 35 = .ok (.iinc 1 1, 3) := by decide +kernel
theorem d_S_begin_38 : decode c_S_begin 38 = .ok (.goto (-16), 3) := by decide +kernel
theorem d_S_begin_41 : decode c_S_begin 41 = .ok (.return_, 1) := by decide +kernel
theorem d_S_hasTransfer_0 : decode c_S_hasTransfer 0 = .ok (.aload_n 0, 1) := by decide +kernel
theorem d_S_hasTransfer_1 : decode c_S_hasTransfer 1 = .ok (.getfield 29, 3) := by decide +kernel
theorem d_S_hasTransfer_4 : decode c_S_hasTransfer 4 = .ok (.ifCond .eq 19, 3) := by decide +kernel
theorem d_S_hasTransfer_7 : decode c_S_hasTransfer 7 = .ok (.iload_n 1, 1) := by decide +kernel
theorem d_S_hasTransfer_8 : decode c_S_hasTransfer 8 = .ok (.ifCond .lt 15, 3) := by decide +kernel
theorem d_S_hasTransfer_11 : decode c_S_hasTransfer 11 = .ok (.iload_n 1, 1) := by decide +kernel
theorem d_S_hasTransfer_12 : decode c_S_hasTransfer 12 = .ok (.aload_n 0, 1) := by decide +kernel
theorem d_S_hasTransfer_13 : decode c_S_hasTransfer 13 = .ok (.getfield 37, 3) := by decide +kernel
theorem d_S_hasTransfer_16 : decode c_S_hasTransfer 16 = .ok (.if_icmp .ge 7, 3) := by decide +kernel
theorem d_S_hasTransfer_19 : decode c_S_hasTransfer 19 = .ok (.iconst 1, 1) := by decide +kernel
theorem d_S_hasTransfer_20 : decode c_S_hasTransfer 20 = .ok (.goto 4, 3) := by decide +kernel
theorem d_S_hasTransfer_23 : decode c_S_hasTransfer 23 = .ok (.iconst 0, 1) := by decide +kernel
theorem d_S_hasTransfer_24 : decode c_S_hasTransfer 24 = .ok (.ireturn, 1) := by decide +kernel
theorem d_S_addTransfer_0 : decode c_S_addTransfer 0 = .ok (.aload_n 0, 1) := by decide +kernel
theorem d_S_addTransfer_1 : decode c_S_addTransfer 1 = .ok (.getfield 37, 3) := by decide +kernel
theorem d_S_addTransfer_4 : decode c_S_addTransfer 4 = .ok (.bipush 12, 2) := by decide +kernel
theorem d_S_addTransfer_6 : decode c_S_addTransfer 6 = .ok (.if_icmp .lt 4, 3) := by decide +kernel
theorem d_S_addTransfer_9 : decode c_S_addTransfer 9 = .ok (.return_, 1) := by decide +kernel
theorem d_S_addTransfer_10 : decode c_S_addTransfer 10 = .ok (.aload_n 0, 1) := by decide +kernel
theorem d_S_addTransfer_11 : decode c_S_addTransfer 11 = .ok (.getfield 15, 3) := by decide +kernel
theorem d_S_addTransfer_14 : decode c_S_addTransfer 14 = .ok (.aload_n 0, 1) := by decide +kernel
theorem d_S_addTransfer_15 : decode c_S_addTransfer 15 = .ok (.getfield 37, 3) := by decide +kernel
theorem d_S_addTransfer_18 : decode c_S_addTransfer 18 = .ok (.lload_n 3, 1) := by decide +kernel
theorem d_S_addTransfer_19 : decode c_S_addTransfer 19 = .ok (.lconst 0, 1) := by decide +kernel
theorem d_S_addTransfer_20 : decode c_S_addTransfer 20 = .ok (.lcmp, 1) := by decide +kernel
theorem d_S_addTransfer_21 : decode c_S_addTransfer 21 = .ok (.ifCond .ge 7, 3) := by decide +kernel
theorem d_S_addTransfer_24 : decode c_S_addTransfer 24 = .ok (.iload_n 1, 1) := by decide +kernel
theorem d_S_addTransfer_25 : decode c_S_addTransfer 25 = .ok (.goto 4, 3) := by decide +kernel
theorem d_S_addTransfer_28 : decode c_S_addTransfer 28 = .ok (.iload_n 2, 1) := by decide +kernel
theorem d_S_addTransfer_29 : decode c_S_addTransfer 29 = .ok (.iastore, 1) := by decide +kernel
theorem d_S_addTransfer_30 : decode c_S_addTransfer 30 = .ok (.aload_n 0, 1) := by decide +kernel
theorem d_S_addTransfer_31 : decode c_S_addTransfer 31 = .ok (.getfield 18, 3) := by decide +kernel
theorem d_S_addTransfer_34 : decode c_S_addTransfer 34 = .ok (.aload_n 0, 1) := by decide +kernel
theorem d_S_addTransfer_35 : decode c_S_addTransfer 35 = .ok (.getfield 37, 3) := by decide +kernel
theorem d_S_addTransfer_38 : decode c_S_addTransfer 38 = .ok (.lload_n 3, 1) := by decide +kernel
theorem d_S_addTransfer_39 : decode c_S_addTransfer 39 = .ok (.lconst 0, 1) := by decide +kernel
theorem d_S_addTransfer_40 : decode c_S_addTransfer 40 = .ok (.lcmp, 1) := by decide +kernel
theorem d_S_addTransfer_41 : decode c_S_addTransfer 41 = .ok (.ifCond .ge 7, 3) := by decide +kernel
theorem d_S_addTransfer_44 : decode c_S_addTransfer 44 = .ok (.iload_n 2, 1) := by decide +kernel
theorem d_S_addTransfer_45 : decode c_S_addTransfer 45 = .ok (.goto 4, 3) := by decide +kernel
theorem d_S_addTransfer_48 : decode c_S_addTransfer 48 = .ok (.iload_n 1, 1) := by decide +kernel
theorem d_S_addTransfer_49 : decode c_S_addTransfer 49 = .ok (.iastore, 1) := by decide +kernel
theorem d_S_addTransfer_50 : decode c_S_addTransfer 50 = .ok (.aload_n 0, 1) := by decide +kernel
theorem d_S_addTransfer_51 : decode c_S_addTransfer 51 = .ok (.getfield 21, 3) := by decide +kernel
theorem d_S_addTransfer_54 : decode c_S_addTransfer 54 = .ok (.aload_n 0, 1) := by decide +kernel
theorem d_S_addTransfer_55 : decode c_S_addTransfer 55 = .ok (.getfield 37, 3) := by decide +kernel
theorem d_S_addTransfer_58 : decode c_S_addTransfer 58 = .ok (.lload_n 3, 1) := by decide +kernel
theorem d_S_addTransfer_59 : decode c_S_addTransfer 59 = .ok (.lconst 0, 1) := by decide +kernel
theorem d_S_addTransfer_60 : decode c_S_addTransfer 60 = .ok (.lcmp, 1) := by decide +kernel
theorem d_S_addTransfer_61 : decode c_S_addTransfer 61 = .ok (.ifCond .ge 8, 3) := by decide +kernel
theorem d_S_addTransfer_64 : decode c_S_addTransfer 64 = .ok (.lload_n 3, 1) := by decide +kernel
theorem d_S_addTransfer_65 : decode c_S_addTransfer 65 = .ok (.lneg, 1) := by decide +kernel
theorem d_S_addTransfer_66 : decode c_S_addTransfer 66 = .ok (.goto 4, 3) := by decide +kernel
theorem d_S_addTransfer_69 : decode c_S_addTransfer 69 = .ok (.lload_n 3, 1) := by decide +kernel
theorem d_S_addTransfer_70 : decode c_S_addTransfer 70 = .ok (.lastore, 1) := by decide +kernel
theorem d_S_addTransfer_71 : decode c_S_addTransfer 71 = .ok (.aload_n 0, 1) := by decide +kernel
theorem d_S_addTransfer_72 : decode c_S_addTransfer 72 = .ok (.getfield 25, 3) := by decide +kernel
theorem d_S_addTransfer_75 : decode c_S_addTransfer 75 = .ok (.aload_n 0, 1) := by decide +kernel
theorem d_S_addTransfer_76 : decode c_S_addTransfer 76 = .ok (.getfield 37, 3) := by decide +kernel
theorem d_S_addTransfer_79 : decode c_S_addTransfer 79 = .ok (.iconst 0, 1) := by decide +kernel
theorem d_S_addTransfer_80 : decode c_S_addTransfer 80 = .ok (.bastore, 1) := by decide +kernel
theorem d_S_addTransfer_81 : decode c_S_addTransfer 81 = .ok (.aload_n 0, 1) := by decide +kernel
theorem d_S_addTransfer_82 : decode c_S_addTransfer 82 = .ok (.dup, 1) := by decide +kernel
theorem d_S_addTransfer_83 : decode c_S_addTransfer 83 = .ok (.getfield 37, 3) := by decide +kernel
theorem d_S_addTransfer_86 : decode c_S_addTransfer 86 = .ok (.iconst 1, 1) := by decide +kernel
theorem d_S_addTransfer_87 : decode c_S_addTransfer 87 = .ok (.iadd, 1) := by decide +kernel
theorem d_S_addTransfer_88 : decode c_S_addTransfer 88 = .ok (.putfield 37, 3) := by decide +kernel
theorem d_S_addTransfer_91 : decode c_S_addTransfer 91 = .ok (.aload_n 0, 1) := by decide +kernel
theorem d_S_addTransfer_92 : decode c_S_addTransfer 92 = .ok (.dup, 1) := by decide +kernel
theorem d_S_addTransfer_93 : decode c_S_addTransfer 93 = .ok (.getfield 40, 3) := by decide +kernel
theorem d_S_addTransfer_96 : decode c_S_addTransfer 96 = .ok (.iconst 1, 1) := by decide +kernel
theorem d_S_addTransfer_97 : decode c_S_addTransfer 97 = .ok (.iadd, 1) := by decide +kernel
theorem d_S_addTransfer_98 : decode c_S_addTransfer 98 = .ok (.putfield 40, 3) := by decide +kernel
theorem d_S_addTransfer_101 : decode c_S_addTransfer 101 = .ok (.return_, 1) := by decide +kernel
end
section
theorem d_M_init_0 : decode c_M_init 0 = .ok (.aload_n 0, 1) := by decide +kernel
theorem d_M_init_1 : decode c_M_init 1 = .ok (.invokespecial 1, 3) := by decide +kernel
theorem d_M_init_4 : decode c_M_init 4 = .ok (.aload_n 0, 1) := by decide +kernel
theorem d_M_init_5 : decode c_M_init 5 = .ok (.iconst 4, 1) := by decide +kernel
theorem d_M_init_6 : decode c_M_init 6 = .ok (.newarray .int, 2) := by decide +kernel
theorem d_M_init_8 : decode c_M_init 8 = .ok (.putfield 7, 3) := by decide +kernel
theorem d_M_init_11 : decode c_M_init 11 = .ok (.aload_n 0, 1) := by decide +kernel
theorem d_M_init_12 : decode c_M_init 12 = .ok (.iconst 4, 1) := by decide +kernel
theorem d_M_init_13 : decode c_M_init 13 = .ok (.newarray .int, 2) := by decide +kernel
theorem d_M_init_15 : decode c_M_init 15 = .ok (.putfield 13, 3) := by decide +kernel
theorem d_M_init_18 : decode c_M_init 18 = .ok (.aload_n 0, 1) := by decide +kernel
theorem d_M_init_19 : decode c_M_init 19 = .ok (.bipush 48, 2) := by decide +kernel
theorem d_M_init_21 : decode c_M_init 21 = .ok (.newarray .boolean, 2) := by decide +kernel
theorem d_M_init_23 : decode c_M_init 23 = .ok (.putfield 16, 3) := by decide +kernel
theorem d_M_init_26 : decode c_M_init 26 = .ok (.aload_n 0, 1) := by decide +kernel
theorem d_M_init_27 : decode c_M_init 27 = .ok (.iconst (-1), 1) := by decide +kernel
theorem d_M_init_28 : decode c_M_init 28 = .ok (.putfield 20, 3) := by decide +kernel
theorem d_M_init_31 : decode c_M_init 31 = .ok (.aload_n 0, 1) := by decide +kernel
theorem d_M_init_32 : decode c_M_init 32 = .ok (.bipush 12, 2) := by decide +kernel
theorem d_M_init_34 : decode c_M_init 34 = .ok (.newarray .int, 2) := by decide +kernel
theorem d_M_init_36 : decode c_M_init 36 = .ok (.putfield 24, 3) := by decide +kernel
theorem d_M_init_39 : decode c_M_init 39 = .ok (.aload_n 0, 1) := by decide +kernel
theorem d_M_init_40 : decode c_M_init 40 = .ok (.bipush 12, 2) := by decide +kernel
theorem d_M_init_42 : decode c_M_init 42 = .ok (.newarray .int, 2) := by decide +kernel
theorem d_M_init_44 : decode c_M_init 44 = .ok (.putfield 27, 3) := by decide +kernel
theorem d_M_init_47 : decode c_M_init 47 = .ok (.aload_n 0, 1) := by decide +kernel
theorem d_M_init_48 : decode c_M_init 48 = .ok (.bipush 16, 2) := by decide +kernel
theorem d_M_init_50 : decode c_M_init 50 = .ok (.newarray .int, 2) := by decide +kernel
theorem d_M_init_52 : decode c_M_init 52 = .ok (.putfield 30, 3) := by decide +kernel
theorem d_M_init_55 : decode c_M_init 55 = .ok (.aload_n 0, 1) := by decide +kernel
theorem d_M_init_56 : decode c_M_init 56 = .ok (.bipush 16, 2) := by decide +kernel
theorem d_M_init_58 : decode c_M_init 58 = .ok (.newarray .int, 2) := by decide +kernel
theorem d_M_init_60 : decode c_M_init 60 = .ok (.putfield 33, 3) := by decide +kernel
theorem d_M_init_63 : decode c_M_init 63 = .ok (.aload_n 0, 1) := by decide +kernel
theorem d_M_init_64 : decode c_M_init 64 = .ok (.bipush 12, 2) := by decide +kernel
theorem d_M_init_66 : decode c_M_init 66 = .ok (.newarray .long, 2) := by decide +kernel
theorem d_M_init_68 : decode c_M_init 68 = .ok (.putfield 36, 3) := by decide +kernel
theorem d_M_init_71 : decode c_M_init 71 = .ok (.aload_n 0, 1) := by decide +kernel
theorem d_M_init_72 : decode c_M_init 72 = .ok (.bipush 64, 2) := by decide +kernel
theorem d_M_init_74 : decode c_M_init 74 = .ok (.newarray .int, 2) := by decide +kernel
theorem d_M_init_76 : decode c_M_init 76 = .ok (.putfield 40, 3) := by decide +kernel
theorem d_M_init_79 : decode c_M_init 79 = .ok (.aload_n 0, 1) := by decide +kernel
theorem d_M_init_80 : decode c_M_init 80 = .ok (.bipush 64, 2) := by decide +kernel
theorem d_M_init_82 : decode c_M_init 82 = .ok (.newarray .long, 2) := by decide +kernel
theorem d_M_init_84 : decode c_M_init 84 = .ok (.putfield 43, 3) := by decide +kernel
theorem d_M_init_87 : decode c_M_init 87 = .ok (.aload_n 0, 1) := by decide +kernel
theorem d_M_init_88 : decode c_M_init 88 = .ok (.bipush 64, 2) := by decide +kernel
theorem d_M_init_90 : decode c_M_init 90 = .ok (.newarray .boolean, 2) := by decide +kernel
theorem d_M_init_92 : decode c_M_init 92 = .ok (.putfield 46, 3) := by decide +kernel
theorem d_M_init_95 : decode c_M_init 95 = .ok (.aload_n 0, 1) := by decide +kernel
theorem d_M_init_96 : decode c_M_init 96 = .ok (.sipush 768, 3) := by decide +kernel
theorem d_M_init_99 : decode c_M_init 99 = .ok (.newarray .long, 2) := by decide +kernel
theorem d_M_init_101 : decode c_M_init 101 = .ok (.putfield 49, 3) := by decide +kernel
theorem d_M_init_104 : decode c_M_init 104 = .ok (.aload_n 0, 1) := by decide +kernel
theorem d_M_init_105 : decode c_M_init 105 = .ok (.sipush 768, 3) := by decide +kernel
theorem d_M_init_108 : decode c_M_init 108 = .ok (.newarray .long, 2) := by decide +kernel
theorem d_M_init_110 : decode c_M_init 110 = .ok (.putfield 52, 3) := by decide +kernel
theorem d_M_init_113 : decode c_M_init 113 = .ok (.aload_n 0, 1) := by decide +kernel
theorem d_M_init_114 : decode c_M_init 114 = .ok (.sipush 768, 3) := by decide +kernel
theorem d_M_init_117 : decode c_M_init 117 = .ok (.newarray .long, 2) := by decide +kernel
theorem d_M_init_119 : decode c_M_init 119 = .ok (.putfield 55, 3) := by decide +kernel
theorem d_M_init_122 : decode c_M_init 122 = .ok (.aload_n 0, 1) := by decide +kernel
theorem d_M_init_123 : decode c_M_init 123 = .ok (.bipush 48, 2) := by decide +kernel
theorem d_M_init_125 : decode c_M_init 125 = .ok (.newarray .long, 2) := by decide +kernel
theorem d_M_init_127 : decode c_M_init 127 = .ok (.putfield 58, 3) := by decide +kernel
theorem d_M_init_130 : decode c_M_init 130 = .ok (.aload_n 0, 1) := by decide +kernel
theorem d_M_init_131 : decode c_M_init 131 = .ok (.iconst 4, 1) := by decide +kernel
theorem d_M_init_132 : decode c_M_init 132 = .ok (.newarray .boolean, 2) := by decide +kernel
theorem d_M_init_134 : decode c_M_init 134 = .ok (.putfield 61, 3) := by decide +kernel
theorem d_M_init_137 : decode c_M_init 137 = .ok (.aload_n 0, 1) := by decide +kernel
theorem d_M_init_138 : decode c_M_init 138 = .ok (.iconst 4, 1) := by decide +kernel
theorem d_M_init_139 : decode c_M_init 139 = .ok (.newarray .int, 2) := by decide +kernel
theorem d_M_init_141 : decode c_M_init 141 = .ok (.putfield 64, 3) := by decide +kernel
theorem d_M_init_144 : decode c_M_init 144 = .ok (.aload_n 0, 1) := by decide +kernel
theorem d_M_init_145 : decode c_M_init 145 = .ok (.bipush 48, 2) := by decide +kernel
theorem d_M_init_147 : decode c_M_init 147 = .ok (.newarray .int, 2) := by decide +kernel
theorem d_M_init_149 : decode c_M_init 149 = .ok (.putfield 67, 3) := by decide +kernel
theorem d_M_init_152 : decode c_M_init 152 = .ok (.aload_n 0, 1) := by decide +kernel
theorem d_M_init_153 : decode c_M_init 153 = .ok (.iconst 4, 1) := by decide +kernel
theorem d_M_init_154 : decode c_M_init 154 = .ok (.newarray .int, 2) := by decide +kernel
theorem d_M_init_156 : decode c_M_init 156 = .ok (.putfield 70, 3) := by decide +kernel
theorem d_M_init_159 : decode c_M_init 159 = .ok (.aload_n 0, 1) := by decide +kernel
theorem d_M_init_160 : decode c_M_init 160 = .ok (.bipush 44, 2) := by decide +kernel
theorem d_M_init_162 : decode c_M_init 162 = .ok (.newarray .int, 2) := by decide +kernel
theorem d_M_init_164 : decode c_M_init 164 = .ok (.putfield 73, 3) := by decide +kernel
theorem d_M_init_167 : decode c_M_init 167 = .ok (.aload_n 0, 1) := by decide +kernel
theorem d_M_init_168 : decode c_M_init 168 = .ok (.bipush 44, 2) := by decide +kernel
theorem d_M_init_170 : decode c_M_init 170 = .ok (.newarray .int, 2) := by decide +kernel
theorem d_M_init_172 : decode c_M_init 172 = .ok (.putfield 76, 3) := by decide +kernel
theorem d_M_init_175 : decode c_M_init 175 = .ok (.aload_n 0, 1) := by decide +kernel
theorem d_M_init_176 : decode c_M_init 176 = .ok (.bipush 44, 2) := by decide +kernel
theorem d_M_init_178 : decode c_M_init 178 = .ok (.newarray .long, 2) := by decide +kernel
theorem d_M_init_180 : decode c_M_init 180 = .ok (.putfield 79, 3) := by decide +kernel
theorem d_M_init_183 : decode c_M_init 183 = .ok (.aload_n 0, 1) := by decide +kernel
theorem d_M_init_184 : decode c_M_init 184 = .ok (.bipush 44, 2) := by decide +kernel
theorem d_M_init_186 : decode c_M_init 186 = .ok (.newarray .boolean, 2) := by decide +kernel
theorem d_M_init_188 : decode c_M_init 188 = .ok (.putfield 82, 3) := by decide +kernel
theorem d_M_init_191 : decode c_M_init 191 = .ok (.aload_n 0, 1) := by decide +kernel
theorem d_M_init_192 : decode c_M_init 192 = .ok (.sipush 4096, 3) := by decide +kernel
theorem d_M_init_195 : decode c_M_init 195 = .ok (.newarray .long, 2) := by decide +kernel
theorem d_M_init_197 : decode c_M_init 197 = .ok (.putfield 85, 3) := by decide +kernel
theorem d_M_init_200 : decode c_M_init 200 = .ok (.aload_n 0, 1) := by decide +kernel
theorem d_M_init_201 : decode c_M_init 201 = .ok (.sipush 4096, 3) := by decide +kernel
theorem d_M_init_204 : decode c_M_init 204 = .ok (.newarray .int, 2) := by decide +kernel
theorem d_M_init_206 : decode c_M_init 206 = .ok (.putfield 88, 3) := by decide +kernel
theorem d_M_init_209 : decode c_M_init 209 = .ok (.return_, 1) := by decide +kernel
theorem d_M_thrown_0 : decode c_M_thrown 0 = .ok (.aload_n 0, 1) := by decide +kernel
theorem d_M_thrown_1 : decode c_M_thrown 1 = .ok (.getfield 91, 3) := by decide +kernel
theorem d_M_thrown_4 : decode c_M_thrown 4 = .ok (.ireturn, 1) := by decide +kernel
theorem d_M_isClub_0 : decode c_M_isClub 0 = .ok (.iload_n 1, 1) := by decide +kernel
theorem d_M_isClub_1 : decode c_M_isClub 1 = .ok (.ifCond .lt 15, 3) := by decide +kernel
theorem d_M_isClub_4 : decode c_M_isClub 4 = .ok (.iload_n 1, 1) := by decide +kernel
theorem d_M_isClub_5 : decode c_M_isClub 5 = .ok (.aload_n 0, 1) := by decide +kernel
theorem d_M_isClub_6 : decode c_M_isClub 6 = .ok (.getfield 94, 3) := by decide +kernel
theorem d_M_isClub_9 : decode c_M_isClub 9 = .ok (.if_icmp .ge 7, 3) := by decide +kernel
theorem d_M_isClub_12 : decode c_M_isClub 12 = .ok (.iconst 1, 1) := by decide +kernel
theorem d_M_isClub_13 : decode c_M_isClub 13 = .ok (.goto 4, 3) := by decide +kernel
theorem d_M_isClub_16 : decode c_M_isClub 16 = .ok (.iconst 0, 1) := by decide +kernel
theorem d_M_isClub_17 : decode c_M_isClub 17 = .ok (.ireturn, 1) := by decide +kernel
theorem d_M_isMember_0 : decode c_M_isMember 0 = .ok (.aload_n 0, 1) := by decide +kernel
theorem d_M_isMember_1 : decode c_M_isMember 1 = .ok (.iload_n 1, 1) := by decide +kernel
theorem d_M_isMember_2 : decode c_M_isMember 2 = .ok (.invokevirtual 97, 3) := by decide +kernel
theorem d_M_isMember_5 : decode c_M_isMember 5 = .ok (.ifCond .eq 21, 3) := by decide +kernel
theorem d_M_isMember_8 : decode c_M_isMember 8 = .ok (.iload_n 2, 1) := by decide +kernel
theorem d_M_isMember_9 : decode c_M_isMember 9 = .ok (.ifCond .lt 17, 3) := by decide +kernel
theorem d_M_isMember_12 : decode c_M_isMember 12 = .ok (.iload_n 2, 1) := by decide +kernel
theorem d_M_isMember_13 : decode c_M_isMember 13 = .ok (.aload_n 0, 1) := by decide +kernel
theorem d_M_isMember_14 : decode c_M_isMember 14 = .ok (.getfield 7, 3) := by decide +kernel
theorem d_M_isMember_17 : decode c_M_isMember 17 = .ok (.iload_n 1, 1) := by decide +kernel
theorem d_M_isMember_18 : decode c_M_isMember 18 = .ok (.iaload, 1) := by decide +kernel
theorem d_M_isMember_19 : decode c_M_isMember 19 = .ok (.if_icmp .ge 7, 3) := by decide +kernel
theorem d_M_isMember_22 : decode c_M_isMember 22 = .ok (.iconst 1, 1) := by decide +kernel
theorem d_M_isMember_23 : decode c_M_isMember 23 = .ok (.goto 4, 3) := by decide +kernel
theorem d_M_isMember_26 : decode c_M_isMember 26 = .ok (.iconst 0, 1) := by decide +kernel
theorem d_M_isMember_27 : decode c_M_isMember 27 = .ok (.ireturn, 1) := by decide +kernel
theorem d_M_part_0 : decode c_M_part 0 = .ok (.lconst 0, 1) := by decide +kernel
theorem d_M_part_1 : decode c_M_part 1 = .ok (.lstore 6, 2) := by decide +kernel
theorem d_M_part_3 : decode c_M_part 3 = .ok (.lconst 0, 1) := by decide +kernel
theorem d_M_part_4 : decode c_M_part 4 = .ok (.lstore 8, 2) := by decide +kernel
theorem d_M_part_6 : decode c_M_part 6 = .ok (.bipush 62, 2) := by decide +kernel
theorem d_M_part_8 : decode c_M_part 8 = .ok (.istore 10, 2) := by decide +kernel
theorem d_M_part_10 : decode c_M_part 10 = .ok (.iload 10, 2) := by decide +kernel
theorem d_M_part_12 : decode c_M_part 12 = .ok (.ifCond .lt 55, 3) := by decide +kernel
theorem d_M_part_15 : decode c_M_part 15 = .ok (.ldc2_w 101, 3) := by decide +kernel
theorem d_M_part_18 : decode c_M_part 18 = .ok (.lload 8, 2) := by decide +kernel
theorem d_M_part_20 : decode c_M_part 20 = .ok (.lmul, 1) := by decide +kernel
theorem d_M_part_21 : decode c_M_part 21 = .ok (.lload_n 0, 1) := by decide +kernel
theorem d_M_part_22 : decode c_M_part 22 = .ok (.iload 10, 2) := by decide +kernel
theorem d_M_part_24 : decode c_M_part 24 = .ok (.lshr, 1) := by decide +kernel
theorem d_M_part_25 : decode c_M_part 25 = .ok (.lconst 1, 1) := by decide +kernel
theorem d_M_part_26 : decode c_M_part 26 = .ok (.land, 1) := by decide +kernel
theorem d_M_part_27 : decode c_M_part 27 = .ok (.lconst 1, 1) := by decide +kernel
theorem d_M_part_28 : decode c_M_part 28 = .ok (.lcmp, 1) := by decide +kernel
theorem d_M_part_29 : decode c_M_part 29 = .ok (.ifCond .ne 7, 3) := by decide +kernel
theorem d_M_part_32 : decode c_M_part 32 = .ok (.lload_n 2, 1) := by decide +kernel
theorem d_M_part_33 : decode c_M_part 33 = .ok (.goto 4, 3) := by decide +kernel
theorem d_M_part_36 : decode c_M_part 36 = .ok (.lconst 0, 1) := by decide +kernel
theorem d_M_part_37 : decode c_M_part 37 = .ok (.ladd, 1) := by decide +kernel
theorem d_M_part_38 : decode c_M_part 38 = .ok (.lstore 8, 2) := by decide +kernel
theorem d_M_part_40 : decode c_M_part 40 = .ok (.ldc2_w 101, 3) := by decide +kernel
theorem d_M_part_43 : decode c_M_part 43 = .ok (.lload 6, 2) := by decide +kernel
theorem d_M_part_45 : decode c_M_part 45 = .ok (.lmul, 1) := by decide +kernel
theorem d_M_part_46 : decode c_M_part 46 = .ok (.lload 8, 2) := by decide +kernel
theorem d_M_part_48 : decode c_M_part 48 = .ok (.lload 4, 2) := by decide +kernel
theorem d_M_part_50 : decode c_M_part 50 = .ok (.ldiv, 1) := by decide +kernel
theorem d_M_part_51 : decode c_M_part 51 = .ok (.ladd, 1) := by decide +kernel
theorem d_M_part_52 : decode c_M_part 52 = .ok (.lstore 6, 2) := by decide +kernel
theorem d_M_part_54 : decode c_M_part 54 = .ok (.lload 8, 2) := by decide +kernel
theorem d_M_part_56 : decode c_M_part 56 = .ok (.lload 4, 2) := by decide +kernel
theorem d_M_part_58 : decode c_M_part 58 = .ok (.lrem, 1) := by decide +kernel
theorem d_M_part_59 : decode c_M_part 59 = .ok (.lstore 8, 2) := by decide +kernel
theorem d_M_part_61 : decode c_M_part 61 = .ok (.iinc 10 (-1), 3) := by decide +kernel
theorem d_M_part_64 : decode c_M_part 64 = .ok (.goto (-54), 3) := by decide +kernel
theorem d_M_part_67 : decode c_M_part 67 = .ok (.lload 6, 2) := by decide +kernel
theorem d_M_part_69 : decode c_M_part 69 = .ok (.lreturn, 1) := by decide +kernel
theorem d_M_club_0 : decode c_M_club 0 = .ok (.aload_n 0, 1) := by decide +kernel
theorem d_M_club_1 : decode c_M_club 1 = .ok (.iconst 0, 1) := by decide +kernel
theorem d_M_club_2 : decode c_M_club 2 = .ok (.putfield 91, 3) := by decide +kernel
theorem d_M_club_5 : decode c_M_club 5 = .ok (.aload_n 0, 1) := by decide +kernel
theorem d_M_club_6 : decode c_M_club 6 = .ok (.getfield 94, 3) := by decide +kernel
theorem d_M_club_9 : decode c_M_club 9 = .ok (.iconst 4, 1) := by decide +kernel
theorem d_M_club_10 : decode c_M_club 10 = .ok (.if_icmp .ne 5, 3) := by decide +kernel
theorem d_M_club_13 : decode c_M_club 13 = .ok (.iconst (-1), 1) := by decide +kernel
theorem d_M_club_14 : decode c_M_club 14 = .ok (.ireturn, 1) := by decide +kernel
theorem d_M_club_15 : decode c_M_club 15 = .ok (.aload_n 0, 1) := by decide +kernel
theorem d_M_club_16 : decode c_M_club 16 = .ok (.dup, 1) := by decide +kernel
theorem d_M_club_17 : decode c_M_club 17 = .ok (.getfield 94, 3) := by decide +kernel
theorem d_M_club_20 : decode c_M_club 20 = .ok (.iconst 1, 1) := by decide +kernel
theorem d_M_club_21 : decode c_M_club 21 = .ok (.iadd, 1) := by decide +kernel
theorem d_M_club_22 : decode c_M_club 22 = .ok (.putfield 94, 3) := by decide +kernel
theorem d_M_club_25 : decode c_M_club 25 = .ok (.aload_n 0, 1) := by decide +kernel
theorem d_M_club_26 : decode c_M_club 26 = .ok (.getfield 94, 3) := by decide +kernel
theorem d_M_club_29 : decode c_M_club 29 = .ok (.iconst 1, 1) := by decide +kernel
theorem d_M_club_30 : decode c_M_club 30 = .ok (.isub, 1) := by decide +kernel
theorem d_M_club_31 : decode c_M_club 31 = .ok (.ireturn, 1) := by decide +kernel
theorem d_M_member_0 : decode c_M_member 0 = .ok (.aload_n 0, 1) := by decide +kernel
theorem d_M_member_1 : decode c_M_member 1 = .ok (.iconst 0, 1) := by decide +kernel
theorem d_M_member_2 : decode c_M_member 2 = .ok (.putfield 91, 3) := by decide +kernel
theorem d_M_member_5 : decode c_M_member 5 = .ok (.aload_n 0, 1) := by decide +kernel
theorem d_M_member_6 : decode c_M_member 6 = .ok (.iload_n 1, 1) := by decide +kernel
theorem d_M_member_7 : decode c_M_member 7 = .ok (.invokevirtual 97, 3) := by decide +kernel
theorem d_M_member_10 : decode c_M_member 10 = .ok (.ifCond .eq 14, 3) := by decide +kernel
theorem d_M_member_13 : decode c_M_member 13 = .ok (.aload_n 0, 1) := by decide +kernel
theorem d_M_member_14 : decode c_M_member 14 = .ok (.getfield 7, 3) := by decide +kernel
theorem d_M_member_17 : decode c_M_member 17 = .ok (.iload_n 1, 1) := by decide +kernel
theorem d_M_member_18 : decode c_M_member 18 = .ok (.iaload, 1) := by decide +kernel
theorem d_M_member_19 : decode c_M_member 19 = .ok (.bipush 12, 2) := by decide +kernel
theorem d_M_member_21 : decode c_M_member 21 = .ok (.if_icmp .ne 5, 3) := by decide +kernel
theorem d_M_member_24 : decode c_M_member 24 = .ok (.iconst (-1), 1) := by decide +kernel
theorem d_M_member_25 : decode c_M_member 25 = .ok (.ireturn, 1) := by decide +kernel
theorem d_M_member_26 : decode c_M_member 26 = .ok (.aload_n 0, 1) := by decide +kernel
theorem d_M_member_27 : decode c_M_member 27 = .ok (.getfield 7, 3) := by decide +kernel
theorem d_M_member_30 : decode c_M_member 30 = .ok (.iload_n 1, 1) := by decide +kernel
theorem d_M_member_31 : decode c_M_member 31 = .ok (.dup2, 1) := by decide +kernel
theorem d_M_member_32 : decode c_M_member 32 = .ok (.iaload, 1) := by decide +kernel
theorem d_M_member_33 : decode c_M_member 33 = .ok (.iconst 1, 1) := by decide +kernel
theorem d_M_member_34 : decode c_M_member 34 = .ok (.iadd, 1) := by decide +kernel
theorem d_M_member_35 : decode c_M_member 35 = .ok (.iastore, 1) := by decide +kernel
theorem d_M_member_36 : decode c_M_member 36 = .ok (.aload_n 0, 1) := by decide +kernel
theorem d_M_member_37 : decode c_M_member 37 = .ok (.getfield 7, 3) := by decide +kernel
theorem d_M_member_40 : decode c_M_member 40 = .ok (.iload_n 1, 1) := by decide +kernel
theorem d_M_member_41 : decode c_M_member 41 = .ok (.iaload, 1) := by decide +kernel
theorem d_M_member_42 : decode c_M_member 42 = .ok (.iconst 1, 1) := by decide +kernel
theorem d_M_member_43 : decode c_M_member 43 = .ok (.isub, 1) := by decide +kernel
theorem d_M_member_44 : decode c_M_member 44 = .ok (.ireturn, 1) := by decide +kernel
theorem d_M_leave_0 : decode c_M_leave 0 = .ok (.aload_n 0, 1) := by decide +kernel
theorem d_M_leave_1 : decode c_M_leave 1 = .ok (.iload_n 1, 1) := by decide +kernel
theorem d_M_leave_2 : decode c_M_leave 2 = .ok (.iload_n 2, 1) := by decide +kernel
theorem d_M_leave_3 : decode c_M_leave 3 = .ok (.invokevirtual 103, 3) := by decide +kernel
theorem d_M_leave_6 : decode c_M_leave 6 = .ok (.ifCond .eq 37, 3) := by decide +kernel
theorem d_M_leave_9 : decode c_M_leave 9 = .ok (.aload_n 0, 1) := by decide +kernel
theorem d_M_leave_10 : decode c_M_leave 10 = .ok (.getfield 16, 3) := by decide +kernel
theorem d_M_leave_13 : decode c_M_leave 13 = .ok (.bipush 12, 2) := by decide +kernel
theorem d_M_leave_15 : decode c_M_leave 15 = .ok (.iload_n 1, 1) := by decide +kernel
theorem d_M_leave_16 : decode c_M_leave 16 = .ok (.imul, 1) := by decide +kernel
theorem d_M_leave_17 : decode c_M_leave 17 = .ok (.iload_n 2, 1) := by decide +kernel
theorem d_M_leave_18 : decode c_M_leave 18 = .ok (.iadd, 1) := by decide +kernel
theorem d_M_leave_19 : decode c_M_leave 19 = .ok (.baload, 1) := by decide +kernel
theorem d_M_leave_20 : decode c_M_leave 20 = .ok (.ifCond .ne 23, 3) := by decide +kernel
theorem d_M_leave_23 : decode c_M_leave 23 = .ok (.aload_n 0, 1) := by decide +kernel
theorem d_M_leave_24 : decode c_M_leave 24 = .ok (.iload_n 1, 1) := by decide +kernel
theorem d_M_leave_25 : decode c_M_leave 25 = .ok (.iload_n 2, 1) := by decide +kernel
theorem d_M_leave_26 : decode c_M_leave 26 = .ok (.invokevirtual 107, 3) := by decide +kernel
theorem d_M_leave_29 : decode c_M_leave 29 = .ok (.lconst 0, 1) := by decide +kernel
theorem d_M_leave_30 : decode c_M_leave 30 = .ok (.lcmp, 1) := by decide +kernel
theorem d_M_leave_31 : decode c_M_leave 31 = .ok (.ifCond .ne 12, 3) := by decide +kernel
theorem d_M_leave_34 : decode c_M_leave 34 = .ok (.aload_n 0, 1) := by decide +kernel
theorem d_M_leave_35 : decode c_M_leave 35 = .ok (.getfield 61, 3) := by decide +kernel
theorem d_M_leave_38 : decode c_M_leave 38 = .ok (.iload_n 1, 1) := by decide +kernel
theorem d_M_leave_39 : decode c_M_leave 39 = .ok (.baload, 1) := by decide +kernel
theorem d_M_leave_40 : decode c_M_leave 40 = .ok (.ifCond .eq 10, 3) := by decide +kernel
theorem d_M_leave_43 : decode c_M_leave 43 = .ok (.aload_n 0, 1) := by decide +kernel
theorem d_M_leave_44 : decode c_M_leave 44 = .ok (.iconst 0, 1) := by decide +kernel
theorem d_M_leave_45 : decode c_M_leave 45 = .ok (.putfield 91, 3) := by decide +kernel
theorem d_M_leave_48 : decode c_M_leave 48 = .ok (.iconst 0, 1) := by decide +kernel
theorem d_M_leave_49 : decode c_M_leave 49 = .ok (.ireturn, 1) := by decide +kernel
theorem d_M_leave_50 : decode c_M_leave 50 = .ok (.aload_n 0, 1) := by decide +kernel
theorem d_M_leave_51 : decode c_M_leave 51 = .ok (.getfield 16, 3) := by decide +kernel
theorem d_M_leave_54 : decode c_M_leave 54 = .ok (.bipush 12, 2) := by decide +kernel
theorem d_M_leave_56 : decode c_M_leave 56 = .ok (.iload_n 1, 1) := by decide +kernel
theorem d_M_leave_57 : decode c_M_leave 57 = .ok (.imul, 1) := by decide +kernel
theorem d_M_leave_58 : decode c_M_leave 58 = .ok (.iload_n 2, 1) := by decide +kernel
theorem d_M_leave_59 : decode c_M_leave 59 = .ok (.iadd, 1) := by decide +kernel
theorem d_M_leave_60 : decode c_M_leave 60 = .ok (.iconst 1, 1) := by decide +kernel
theorem d_M_leave_61 : decode c_M_leave 61 = .ok (.bastore, 1) := by decide +kernel
theorem d_M_leave_62 : decode c_M_leave 62 = .ok (.iconst 1, 1) := by decide +kernel
theorem d_M_leave_63 : decode c_M_leave 63 = .ok (.ireturn, 1) := by decide +kernel
theorem d_M_within_0 : decode c_M_within 0 = .ok (.iload_n 0, 1) := by decide +kernel
theorem d_M_within_1 : decode c_M_within 1 = .ok (.iload_n 1, 1) := by decide +kernel
theorem d_M_within_2 : decode c_M_within 2 = .ok (.if_icmp .lt 12, 3) := by decide +kernel
theorem d_M_within_5 : decode c_M_within 5 = .ok (.iload_n 0, 1) := by decide +kernel
theorem d_M_within_6 : decode c_M_within 6 = .ok (.iload_n 2, 1) := by decide +kernel
theorem d_M_within_7 : decode c_M_within 7 = .ok (.if_icmp .gt 7, 3) := by decide +kernel
theorem d_M_within_10 : decode c_M_within 10 = .ok (.iconst 1, 1) := by decide +kernel
theorem d_M_within_11 : decode c_M_within 11 = .ok (.goto 4, 3) := by decide +kernel
theorem d_M_within_14 : decode c_M_within 14 = .ok (.iconst 0, 1) := by decide +kernel
theorem d_M_within_15 : decode c_M_within 15 = .ok (.ireturn, 1) := by decide +kernel
theorem d_M_bill_0 : decode c_M_bill 0 = .ok (.aload_n 0, 1) := by decide +kernel
theorem d_M_bill_1 : decode c_M_bill 1 = .ok (.iconst 0, 1) := by decide +kernel
theorem d_M_bill_2 : decode c_M_bill 2 = .ok (.putfield 91, 3) := by decide +kernel
theorem d_M_bill_5 : decode c_M_bill 5 = .ok (.aload_n 0, 1) := by decide +kernel
theorem d_M_bill_6 : decode c_M_bill 6 = .ok (.iload_n 1, 1) := by decide +kernel
theorem d_M_bill_7 : decode c_M_bill 7 = .ok (.invokevirtual 97, 3) := by decide +kernel
theorem d_M_bill_10 : decode c_M_bill 10 = .ok (.ifCond .eq 33, 3) := by decide +kernel
theorem d_M_bill_13 : decode c_M_bill 13 = .ok (.iload_n 2, 1) := by decide +kernel
theorem d_M_bill_14 : decode c_M_bill 14 = .ok (.iconst 1, 1) := by decide +kernel
theorem d_M_bill_15 : decode c_M_bill 15 = .ok (.iconst 5, 1) := by decide +kernel
theorem d_M_bill_16 : decode c_M_bill 16 = .ok (.invokestatic 111, 3) := by decide +kernel
theorem d_M_bill_19 : decode c_M_bill 19 = .ok (.ifCond .eq 24, 3) := by decide +kernel
theorem d_M_bill_22 : decode c_M_bill 22 = .ok (.iload_n 3, 1) := by decide +kernel
theorem d_M_bill_23 : decode c_M_bill 23 = .ok (.iconst 1, 1) := by decide +kernel
theorem d_M_bill_24 : decode c_M_bill 24 = .ok (.ldc 115, 2) := by decide +kernel
theorem d_M_bill_26 : decode c_M_bill 26 = .ok (.invokestatic 111, 3) := by decide +kernel
theorem d_M_bill_29 : decode c_M_bill 29 = .ok (.ifCond .eq 14, 3) := by decide +kernel
theorem d_M_bill_32 : decode c_M_bill 32 = .ok (.iload 4, 2) := by decide +kernel
theorem d_M_bill_34 : decode c_M_bill 34 = .ok (.iconst 1, 1) := by decide +kernel
theorem d_M_bill_35 : decode c_M_bill 35 = .ok (.ldc 116, 2) := by decide +kernel
theorem d_M_bill_37 : decode c_M_bill 37 = .ok (.invokestatic 111, 3) := by decide +kernel
theorem d_M_bill_40 : decode c_M_bill 40 = .ok (.ifCond .ne 5, 3) := by decide +kernel
theorem d_M_bill_43 : decode c_M_bill 43 = .ok (.iconst 0, 1) := by decide +kernel
theorem d_M_bill_44 : decode c_M_bill 44 = .ok (.ireturn, 1) := by decide +kernel
theorem d_M_bill_45 : decode c_M_bill 45 = .ok (.aload_n 0, 1) := by decide +kernel
theorem d_M_bill_46 : decode c_M_bill 46 = .ok (.iload_n 1, 1) := by decide +kernel
theorem d_M_bill_47 : decode c_M_bill 47 = .ok (.putfield 20, 3) := by decide +kernel
theorem d_M_bill_50 : decode c_M_bill 50 = .ok (.aload_n 0, 1) := by decide +kernel
theorem d_M_bill_51 : decode c_M_bill 51 = .ok (.iload_n 2, 1) := by decide +kernel
theorem d_M_bill_52 : decode c_M_bill 52 = .ok (.putfield 117, 3) := by decide +kernel
theorem d_M_bill_55 : decode c_M_bill 55 = .ok (.aload_n 0, 1) := by decide +kernel
theorem d_M_bill_56 : decode c_M_bill 56 = .ok (.iload_n 3, 1) := by decide +kernel
theorem d_M_bill_57 : decode c_M_bill 57 = .ok (.putfield 120, 3) := by decide +kernel
theorem d_M_bill_60 : decode c_M_bill 60 = .ok (.aload_n 0, 1) := by decide +kernel
theorem d_M_bill_61 : decode c_M_bill 61 = .ok (.iload 4, 2) := by decide +kernel
theorem d_M_bill_63 : decode c_M_bill 63 = .ok (.putfield 123, 3) := by decide +kernel
theorem d_M_bill_66 : decode c_M_bill 66 = .ok (.aload_n 0, 1) := by decide +kernel
theorem d_M_bill_67 : decode c_M_bill 67 = .ok (.iconst 0, 1) := by decide +kernel
theorem d_M_bill_68 : decode c_M_bill 68 = .ok (.putfield 126, 3) := by decide +kernel
theorem d_M_bill_71 : decode c_M_bill 71 = .ok (.iconst 0, 1) := by decide +kernel
theorem d_M_bill_72 : decode c_M_bill 72 = .ok (.istore 5, 2) := by decide +kernel
theorem d_M_bill_74 : decode c_M_bill 74 = .ok (.iload 5, 2) := by decide +kernel
theorem d_M_bill_76 : decode c_M_bill 76 = .ok (.bipush 12, 2) := by decide +kernel
theorem d_M_bill_78 : decode c_M_bill 78 = .ok (.if_icmp .ge 25, 3) := by decide +kernel
theorem d_M_bill_81 : decode c_M_bill 81 = .ok (.aload_n 0, 1) := by decide +kernel
theorem d_M_bill_82 : decode c_M_bill 82 = .ok (.getfield 24, 3) := by decide +kernel
theorem d_M_bill_85 : decode c_M_bill 85 = .ok (.iload 5, 2) := by decide +kernel
theorem d_M_bill_87 : decode c_M_bill 87 = .ok (.iconst 0, 1) := by decide +kernel
theorem d_M_bill_88 : decode c_M_bill 88 = .ok (.iastore, 1) := by decide +kernel
theorem d_M_bill_89 : decode c_M_bill 89 = .ok (.aload_n 0, 1) := by decide +kernel
theorem d_M_bill_90 : decode c_M_bill 90 = .ok (.getfield 27, 3) := by decide +kernel
theorem d_M_bill_93 : decode c_M_bill 93 = .ok (.iload 5, 2) := by decide +kernel
theorem d_M_bill_95 : decode c_M_bill 95 = .ok (.iconst 0, 1) := by decide +kernel
theorem d_M_bill_96 : decode c_M_bill 96 = .ok (.iastore, 1) := by decide +kernel
theorem d_M_bill_97 : decode c_M_bill 97 = .ok (.iinc 5 1, 3) := by decide +kernel
theorem d_M_bill_100 : decode c_M_bill 100 = .ok (.goto (-26), 3) := by decide +kernel
theorem d_M_bill_103 : decode c_M_bill 103 = .ok (.iconst 1, 1) := by decide +kernel
theorem d_M_bill_104 : decode c_M_bill 104 = .ok (.ireturn, 1) := by decide +kernel
theorem d_M_stays_0 : decode c_M_stays 0 = .ok (.aload_n 0, 1) := by decide +kernel
theorem d_M_stays_1 : decode c_M_stays 1 = .ok (.getfield 20, 3) := by decide +kernel
theorem d_M_stays_4 : decode c_M_stays 4 = .ok (.iconst (-1), 1) := by decide +kernel
theorem d_M_stays_5 : decode c_M_stays 5 = .ok (.if_icmp .eq 36, 3) := by decide +kernel
theorem d_M_stays_8 : decode c_M_stays 8 = .ok (.aload_n 0, 1) := by decide +kernel
theorem d_M_stays_9 : decode c_M_stays 9 = .ok (.aload_n 0, 1) := by decide +kernel
theorem d_M_stays_10 : decode c_M_stays 10 = .ok (.getfield 20, 3) := by decide +kernel
theorem d_M_stays_13 : decode c_M_stays 13 = .ok (.iload_n 1, 1) := by decide +kernel
theorem d_M_stays_14 : decode c_M_stays 14 = .ok (.invokevirtual 103, 3) := by decide +kernel
theorem d_M_stays_17 : decode c_M_stays 17 = .ok (.ifCond .eq 24, 3) := by decide +kernel
theorem d_M_stays_20 : decode c_M_stays 20 = .ok (.aload_n 0, 1) := by decide +kernel
theorem d_M_stays_21 : decode c_M_stays 21 = .ok (.getfield 16, 3) := by decide +kernel
theorem d_M_stays_24 : decode c_M_stays 24 = .ok (.bipush 12, 2) := by decide +kernel
theorem d_M_stays_26 : decode c_M_stays 26 = .ok (.aload_n 0, 1) := by decide +kernel
theorem d_M_stays_27 : decode c_M_stays 27 = .ok (.getfield 20, 3) := by decide +kernel
theorem d_M_stays_30 : decode c_M_stays 30 = .ok (.imul, 1) := by decide +kernel
theorem d_M_stays_31 : decode c_M_stays 31 = .ok (.iload_n 1, 1) := by decide +kernel
theorem d_M_stays_32 : decode c_M_stays 32 = .ok (.iadd, 1) := by decide +kernel
theorem d_M_stays_33 : decode c_M_stays 33 = .ok (.baload, 1) := by decide +kernel
theorem d_M_stays_34 : decode c_M_stays 34 = .ok (.ifCond .ne 7, 3) := by decide +kernel
theorem d_M_stays_37 : decode c_M_stays 37 = .ok (.iconst 1, 1) := by decide +kernel
theorem d_M_stays_38 : decode c_M_stays 38 = .ok (.goto 4, 3) := by decide +kernel
theorem d_M_stays_41 : decode c_M_stays 41 = .ok (.iconst 0, 1) := by decide +kernel
theorem d_M_stays_42 : decode c_M_stays 42 = .ok (.ireturn, 1) := by decide +kernel
theorem d_M_payer_0 : decode c_M_payer 0 = .ok (.aload_n 0, 1) := by decide +kernel
theorem d_M_payer_1 : decode c_M_payer 1 = .ok (.iconst 0, 1) := by decide +kernel
theorem d_M_payer_2 : decode c_M_payer 2 = .ok (.putfield 91, 3) := by decide +kernel
theorem d_M_payer_5 : decode c_M_payer 5 = .ok (.aload_n 0, 1) := by decide +kernel
theorem d_M_payer_6 : decode c_M_payer 6 = .ok (.iload_n 1, 1) := by decide +kernel
theorem d_M_payer_7 : decode c_M_payer 7 = .ok (.invokevirtual 129, 3) := by decide +kernel
theorem d_M_payer_10 : decode c_M_payer 10 = .ok (.ifCond .eq 13, 3) := by decide +kernel
theorem d_M_payer_13 : decode c_M_payer 13 = .ok (.iload_n 2, 1) := by decide +kernel
theorem d_M_payer_14 : decode c_M_payer 14 = .ok (.iconst 0, 1) := by decide +kernel
theorem d_M_payer_15 : decode c_M_payer 15 = .ok (.ldc 115, 2) := by decide +kernel
theorem d_M_payer_17 : decode c_M_payer 17 = .ok (.invokestatic 111, 3) := by decide +kernel
theorem d_M_payer_20 : decode c_M_payer 20 = .ok (.ifCond .ne 5, 3) := by decide +kernel
theorem d_M_payer_23 : decode c_M_payer 23 = .ok (.iconst 0, 1) := by decide +kernel
theorem d_M_payer_24 : decode c_M_payer 24 = .ok (.ireturn, 1) := by decide +kernel
theorem d_M_payer_25 : decode c_M_payer 25 = .ok (.aload_n 0, 1) := by decide +kernel
theorem d_M_payer_26 : decode c_M_payer 26 = .ok (.getfield 24, 3) := by decide +kernel
theorem d_M_payer_29 : decode c_M_payer 29 = .ok (.iload_n 1, 1) := by decide +kernel
theorem d_M_payer_30 : decode c_M_payer 30 = .ok (.iload_n 2, 1) := by decide +kernel
theorem d_M_payer_31 : decode c_M_payer 31 = .ok (.iastore, 1) := by decide +kernel
theorem d_M_payer_32 : decode c_M_payer 32 = .ok (.iconst 1, 1) := by decide +kernel
theorem d_M_payer_33 : decode c_M_payer 33 = .ok (.ireturn, 1) := by decide +kernel
theorem d_M_weight_0 : decode c_M_weight 0 = .ok (.aload_n 0, 1) := by decide +kernel
theorem d_M_weight_1 : decode c_M_weight 1 = .ok (.iconst 0, 1) := by decide +kernel
theorem d_M_weight_2 : decode c_M_weight 2 = .ok (.putfield 91, 3) := by decide +kernel
theorem d_M_weight_5 : decode c_M_weight 5 = .ok (.aload_n 0, 1) := by decide +kernel
theorem d_M_weight_6 : decode c_M_weight 6 = .ok (.getfield 117, 3) := by decide +kernel
theorem d_M_weight_9 : decode c_M_weight 9 = .ok (.iconst 1, 1) := by decide +kernel
theorem d_M_weight_10 : decode c_M_weight 10 = .ok (.if_icmp .ne 7, 3) := by decide +kernel
theorem d_M_weight_13 : decode c_M_weight 13 = .ok (.iconst 1, 1) := by decide +kernel
theorem d_M_weight_14 : decode c_M_weight 14 = .ok (.goto 33, 3) := by decide +kernel
theorem d_M_weight_17 : decode c_M_weight 17 = .ok (.aload_n 0, 1) := by decide +kernel
theorem d_M_weight_18 : decode c_M_weight 18 = .ok (.getfield 117, 3) := by decide +kernel
theorem d_M_weight_21 : decode c_M_weight 21 = .ok (.iconst 2, 1) := by decide +kernel
theorem d_M_weight_22 : decode c_M_weight 22 = .ok (.if_icmp .ne 9, 3) := by decide +kernel
theorem d_M_weight_25 : decode c_M_weight 25 = .ok (.sipush 1000, 3) := by decide +kernel
theorem d_M_weight_28 : decode c_M_weight 28 = .ok (.goto 19, 3) := by decide +kernel
theorem d_M_weight_31 : decode c_M_weight 31 = .ok (.aload_n 0, 1) := by decide +kernel
theorem d_M_weight_32 : decode c_M_weight 32 = .ok (.getfield 117, 3) := by decide +kernel
theorem d_M_weight_35 : decode c_M_weight 35 = .ok (.iconst 3, 1) := by decide +kernel
theorem d_M_weight_36 : decode c_M_weight 36 = .ok (.if_icmp .ne 8, 3) := by decide +kernel
theorem d_M_weight_39 : decode c_M_weight 39 = .ok (.ldc 115, 2) := by decide +kernel
theorem d_M_weight_41 : decode c_M_weight 41 = .ok (.goto 6, 3) := by decide +kernel
theorem d_M_weight_44 : decode c_M_weight 44 = .ok (.sipush 10000, 3) := by decide +kernel
theorem d_M_weight_47 : decode c_M_weight 47 = .ok (.istore_n 3, 1) := by decide +kernel
theorem d_M_weight_48 : decode c_M_weight 48 = .ok (.aload_n 0, 1) := by decide +kernel
theorem d_M_weight_49 : decode c_M_weight 49 = .ok (.iload_n 1, 1) := by decide +kernel
theorem d_M_weight_50 : decode c_M_weight 50 = .ok (.invokevirtual 129, 3) := by decide +kernel
theorem d_M_weight_53 : decode c_M_weight 53 = .ok (.ifCond .eq 20, 3) := by decide +kernel
theorem d_M_weight_56 : decode c_M_weight 56 = .ok (.aload_n 0, 1) := by decide +kernel
theorem d_M_weight_57 : decode c_M_weight 57 = .ok (.getfield 117, 3) := by decide +kernel
theorem d_M_weight_60 : decode c_M_weight 60 = .ok (.iconst 5, 1) := by decide +kernel
theorem d_M_weight_61 : decode c_M_weight 61 = .ok (.if_icmp .eq 12, 3) := by decide +kernel
theorem d_M_weight_64 : decode c_M_weight 64 = .ok (.iload_n 2, 1) := by decide +kernel
theorem d_M_weight_65 : decode c_M_weight 65 = .ok (.iconst 0, 1) := by decide +kernel
theorem d_M_weight_66 : decode c_M_weight 66 = .ok (.iload_n 3, 1) := by decide +kernel
theorem d_M_weight_67 : decode c_M_weight 67 = .ok (.invokestatic 111, 3) := by decide +kernel
theorem d_M_weight_70 : decode c_M_weight 70 = .ok (.ifCond .ne 5, 3) := by decide +kernel
theorem d_M_weight_73 : decode c_M_weight 73 = .ok (.iconst 0, 1) := by decide +kernel
theorem d_M_weight_74 : decode c_M_weight 74 = .ok (.ireturn, 1) := by decide +kernel
theorem d_M_weight_75 : decode c_M_weight 75 = .ok (.aload_n 0, 1) := by decide +kernel
theorem d_M_weight_76 : decode c_M_weight 76 = .ok (.getfield 27, 3) := by decide +kernel
theorem d_M_weight_79 : decode c_M_weight 79 = .ok (.iload_n 1, 1) := by decide +kernel
theorem d_M_weight_80 : decode c_M_weight 80 = .ok (.iload_n 2, 1) := by decide +kernel
theorem d_M_weight_81 : decode c_M_weight 81 = .ok (.iastore, 1) := by decide +kernel
theorem d_M_weight_82 : decode c_M_weight 82 = .ok (.iconst 1, 1) := by decide +kernel
theorem d_M_weight_83 : decode c_M_weight 83 = .ok (.ireturn, 1) := by decide +kernel
theorem d_M_line_0 : decode c_M_line 0 = .ok (.aload_n 0, 1) := by decide +kernel
theorem d_M_line_1 : decode c_M_line 1 = .ok (.iconst 0, 1) := by decide +kernel
theorem d_M_line_2 : decode c_M_line 2 = .ok (.putfield 91, 3) := by decide +kernel
theorem d_M_line_5 : decode c_M_line 5 = .ok (.aload_n 0, 1) := by decide +kernel
theorem d_M_line_6 : decode c_M_line 6 = .ok (.getfield 20, 3) := by decide +kernel
theorem d_M_line_9 : decode c_M_line 9 = .ok (.iconst (-1), 1) := by decide +kernel
theorem d_M_line_10 : decode c_M_line 10 = .ok (.if_icmp .eq 34, 3) := by decide +kernel
theorem d_M_line_13 : decode c_M_line 13 = .ok (.aload_n 0, 1) := by decide +kernel
theorem d_M_line_14 : decode c_M_line 14 = .ok (.getfield 117, 3) := by decide +kernel
theorem d_M_line_17 : decode c_M_line 17 = .ok (.iconst 5, 1) := by decide +kernel
theorem d_M_line_18 : decode c_M_line 18 = .ok (.if_icmp .ne 26, 3) := by decide +kernel
theorem d_M_line_21 : decode c_M_line 21 = .ok (.iload_n 1, 1) := by decide +kernel
theorem d_M_line_22 : decode c_M_line 22 = .ok (.iconst 1, 1) := by decide +kernel
theorem d_M_line_23 : decode c_M_line 23 = .ok (.ldc 115, 2) := by decide +kernel
theorem d_M_line_25 : decode c_M_line 25 = .ok (.invokestatic 111, 3) := by decide +kernel
theorem d_M_line_28 : decode c_M_line 28 = .ok (.ifCond .eq 16, 3) := by decide +kernel
theorem d_M_line_31 : decode c_M_line 31 = .ok (.iload_n 2, 1) := by decide +kernel
theorem d_M_line_32 : decode c_M_line 32 = .ok (.ifCond .eq 12, 3) := by decide +kernel
theorem d_M_line_35 : decode c_M_line 35 = .ok (.aload_n 0, 1) := by decide +kernel
theorem d_M_line_36 : decode c_M_line 36 = .ok (.getfield 126, 3) := by decide +kernel
theorem d_M_line_39 : decode c_M_line 39 = .ok (.bipush 16, 2) := by decide +kernel
theorem d_M_line_41 : decode c_M_line 41 = .ok (.if_icmp .ne 5, 3) := by decide +kernel
theorem d_M_line_44 : decode c_M_line 44 = .ok (.iconst 0, 1) := by decide +kernel
theorem d_M_line_45 : decode c_M_line 45 = .ok (.ireturn, 1) := by decide +kernel
theorem d_M_line_46 : decode c_M_line 46 = .ok (.iconst 0, 1) := by decide +kernel
theorem d_M_line_47 : decode c_M_line 47 = .ok (.istore_n 3, 1) := by decide +kernel
theorem d_M_line_48 : decode c_M_line 48 = .ok (.iload_n 3, 1) := by decide +kernel
theorem d_M_line_49 : decode c_M_line 49 = .ok (.bipush 32, 2) := by decide +kernel
theorem d_M_line_51 : decode c_M_line 51 = .ok (.if_icmp .ge 28, 3) := by decide +kernel
theorem d_M_line_54 : decode c_M_line 54 = .ok (.iload_n 2, 1) := by decide +kernel
theorem d_M_line_55 : decode c_M_line 55 = .ok (.iload_n 3, 1) := by decide +kernel
theorem d_M_line_56 : decode c_M_line 56 = .ok (.ishr, 1) := by decide +kernel
theorem d_M_line_57 : decode c_M_line 57 = .ok (.iconst 1, 1) := by decide +kernel
theorem d_M_line_58 : decode c_M_line 58 = .ok (.iand, 1) := by decide +kernel
theorem d_M_line_59 : decode c_M_line 59 = .ok (.iconst 1, 1) := by decide +kernel
theorem d_M_line_60 : decode c_M_line 60 = .ok (.if_icmp .ne 13, 3) := by decide +kernel
theorem d_M_line_63 : decode c_M_line 63 = .ok (.aload_n 0, 1) := by decide +kernel
theorem d_M_line_64 : decode c_M_line 64 = .ok (.iload_n 3, 1) := by decide +kernel
theorem d_M_line_65 : decode c_M_line 65 = .ok (.invokevirtual 129, 3) := by decide +kernel
theorem d_M_line_68 : decode c_M_line 68 = .ok (.ifCond .ne 5, 3) := by decide +kernel
theorem d_M_line_71 : decode c_M_line 71 = .ok (.iconst 0, 1) := by decide +kernel
theorem d_M_line_72 : decode c_M_line 72 = .ok (.ireturn, 1) := by decide +kernel
theorem d_M_line_73 : decode c_M_line 73 = .ok (.iinc 3 1, 3) := by decide +kernel
theorem d_M_line_76 : decode c_M_line 76 = .ok (.goto (-28), 3) := by decide +kernel
theorem d_M_line_79 : decode c_M_line 79 = .ok (.aload_n 0, 1) := by decide +kernel
theorem d_M_line_80 : decode c_M_line 80 = .ok (.getfield 30, 3) := by decide +kernel
theorem d_M_line_83 : decode c_M_line 83 = .ok (.aload_n 0, 1) := by decide +kernel
theorem d_M_line_84 : decode c_M_line 84 = .ok (.getfield 126, 3) := by decide +kernel
theorem d_M_line_87 : decode c_M_line 87 = .ok (.iload_n 1, 1) := by decide +kernel
theorem d_M_line_88 : decode c_M_line 88 = .ok (.iastore, 1) := by decide +kernel
theorem d_M_line_89 : decode c_M_line 89 = .ok (.aload_n 0, 1) := by decide +kernel
theorem d_M_line_90 : decode c_M_line 90 = .ok (.getfield 33, 3) := by decide +kernel
theorem d_M_line_93 : decode c_M_line 93 = .ok (.aload_n 0, 1) := by decide +kernel
theorem d_M_line_94 : decode c_M_line 94 = .ok (.getfield 126, 3) := by decide +kernel
theorem d_M_line_97 : decode c_M_line 97 = .ok (.iload_n 2, 1) := by decide +kernel
theorem d_M_line_98 : decode c_M_line 98 = .ok (.iastore, 1) := by decide +kernel
theorem d_M_line_99 : decode c_M_line 99 = .ok (.aload_n 0, 1) := by decide +kernel
theorem d_M_line_100 : decode c_M_line 100 = .ok (.dup, 1) := by decide +kernel
theorem d_M_line_101 : decode c_M_line 101 = .ok (.getfield 126, 3) := by decide +kernel
theorem d_M_line_104 : decode c_M_line 104 = .ok (.iconst 1, 1) := by decide +kernel
theorem d_M_line_105 : decode c_M_line 105 = .ok (.iadd, 1) := by decide +kernel
theorem d_M_line_106 : decode c_M_line 106 = .ok (.putfield 126, 3) := by decide +kernel
theorem d_M_line_109 : decode c_M_line 109 = .ok (.iconst 1, 1) := by decide +kernel
theorem d_M_line_110 : decode c_M_line 110 = .ok (.ireturn, 1) := by decide +kernel
theorem d_M_size_0 : decode c_M_size 0 = .ok (.iconst 0, 1) := by decide +kernel
theorem d_M_size_1 : decode c_M_size 1 = .ok (.istore_n 1, 1) := by decide +kernel
theorem d_M_size_2 : decode c_M_size 2 = .ok (.iconst 0, 1) := by decide +kernel
theorem d_M_size_3 : decode c_M_size 3 = .ok (.istore_n 2, 1) := by decide +kernel
theorem d_M_size_4 : decode c_M_size 4 = .ok (.iload_n 2, 1) := by decide +kernel
theorem d_M_size_5 : decode c_M_size 5 = .ok (.bipush 12, 2) := by decide +kernel
theorem d_M_size_7 : decode c_M_size 7 = .ok (.if_icmp .ge 17, 3) := by decide +kernel
theorem d_M_size_10 : decode c_M_size 10 = .ok (.iload_n 1, 1) := by decide +kernel
theorem d_M_size_11 : decode c_M_size 11 = .ok (.iload_n 0, 1) := by decide +kernel
theorem d_M_size_12 : decode c_M_size 12 = .ok (.iload_n 2, 1) := by decide +kernel
theorem d_M_size_13 : decode c_M_size 13 = .ok (.ishr, 1) := by decide +kernel
theorem d_M_size_14 : decode c_M_size 14 = .ok (.iconst 1, 1) := by decide +kernel
theorem d_M_size_15 : decode c_M_size 15 = .ok (.iand, 1) := by decide +kernel
theorem d_M_size_16 : decode c_M_size 16 = .ok (.iadd, 1) := by decide +kernel
theorem d_M_size_17 : decode c_M_size 17 = .ok (.istore_n 1, 1) := by decide +kernel
theorem d_M_size_18 : decode c_M_size 18 = .ok (.iinc 2 1, 3) := by decide +kernel
theorem d_M_size_21 : decode c_M_size 21 = .ok (.goto (-17), 3) := by decide +kernel
theorem d_M_size_24 : decode c_M_size 24 = .ok (.iload_n 1, 1) := by decide +kernel
theorem d_M_size_25 : decode c_M_size 25 = .ok (.ireturn, 1) := by decide +kernel
theorem d_M_weighs_0 : decode c_M_weighs 0 = .ok (.lconst 0, 1) := by decide +kernel
theorem d_M_weighs_1 : decode c_M_weighs 1 = .ok (.lstore_n 1, 1) := by decide +kernel
theorem d_M_weighs_2 : decode c_M_weighs 2 = .ok (.iconst 0, 1) := by decide +kernel
theorem d_M_weighs_3 : decode c_M_weighs 3 = .ok (.istore_n 3, 1) := by decide +kernel
theorem d_M_weighs_4 : decode c_M_weighs 4 = .ok (.iload_n 3, 1) := by decide +kernel
theorem d_M_weighs_5 : decode c_M_weighs 5 = .ok (.bipush 12, 2) := by decide +kernel
theorem d_M_weighs_7 : decode c_M_weighs 7 = .ok (.if_icmp .ge 121, 3) := by decide +kernel
theorem d_M_weighs_10 : decode c_M_weighs 10 = .ok (.aload_n 0, 1) := by decide +kernel
theorem d_M_weighs_11 : decode c_M_weighs 11 = .ok (.getfield 36, 3) := by decide +kernel
theorem d_M_weighs_14 : decode c_M_weighs 14 = .ok (.iload_n 3, 1) := by decide +kernel
theorem d_M_weighs_15 : decode c_M_weighs 15 = .ok (.aload_n 0, 1) := by decide +kernel
theorem d_M_weighs_16 : decode c_M_weighs 16 = .ok (.getfield 117, 3) := by decide +kernel
theorem d_M_weighs_19 : decode c_M_weighs 19 = .ok (.iconst 5, 1) := by decide +kernel
theorem d_M_weighs_20 : decode c_M_weighs 20 = .ok (.if_icmp .ne 7, 3) := by decide +kernel
theorem d_M_weighs_23 : decode c_M_weighs 23 = .ok (.lconst 0, 1) := by decide +kernel
theorem d_M_weighs_24 : decode c_M_weighs 24 = .ok (.goto 10, 3) := by decide +kernel
theorem d_M_weighs_27 : decode c_M_weighs 27 = .ok (.aload_n 0, 1) := by decide +kernel
theorem d_M_weighs_28 : decode c_M_weighs 28 = .ok (.getfield 27, 3) := by decide +kernel
theorem d_M_weighs_31 : decode c_M_weighs 31 = .ok (.iload_n 3, 1) := by decide +kernel
theorem d_M_weighs_32 : decode c_M_weighs 32 = .ok (.iaload, 1) := by decide +kernel
theorem d_M_weighs_33 : decode c_M_weighs 33 = .ok (.i2l, 1) := by decide +kernel
theorem d_M_weighs_34 : decode c_M_weighs 34 = .ok (.lastore, 1) := by decide +kernel
theorem d_M_weighs_35 : decode c_M_weighs 35 = .ok (.iconst 0, 1) := by decide +kernel
theorem d_M_weighs_36 : decode c_M_weighs 36 = .ok (.istore 4, 2) := by decide +kernel
theorem d_M_weighs_38 : decode c_M_weighs 38 = .ok (.iload 4, 2) := by decide +kernel
theorem d_M_weighs_40 : decode c_M_weighs 40 = .ok (.aload_n 0, 1) := by decide +kernel
theorem d_M_weighs_41 : decode c_M_weighs 41 = .ok (.getfield 126, 3) := by decide +kernel
theorem d_M_weighs_44 : decode c_M_weighs 44 = .ok (.if_icmp .ge 69, 3) := by decide +kernel
theorem d_M_weighs_47 : decode c_M_weighs 47 = .ok (.aload_n 0, 1) := by decide +kernel
theorem d_M_weighs_48 : decode c_M_weighs 48 = .ok (.getfield 117, 3) := by decide +kernel
theorem d_M_weighs_51 : decode c_M_weighs 51 = .ok (.iconst 5, 1) := by decide +kernel
theorem d_M_weighs_52 : decode c_M_weighs 52 = .ok (.if_icmp .ne 61, 3) := by decide +kernel
theorem d_M_weighs_55 : decode c_M_weighs 55 = .ok (.aload_n 0, 1) := by decide +kernel
theorem d_M_weighs_56 : decode c_M_weighs 56 = .ok (.getfield 36, 3) := by decide +kernel
theorem d_M_weighs_59 : decode c_M_weighs 59 = .ok (.iload_n 3, 1) := by decide +kernel
theorem d_M_weighs_60 : decode c_M_weighs 60 = .ok (.dup2, 1) := by decide +kernel
theorem d_M_weighs_61 : decode c_M_weighs 61 = .ok (.laload, 1) := by decide +kernel
theorem d_M_weighs_62 : decode c_M_weighs 62 = .ok (.aload_n 0, 1) := by decide +kernel
theorem d_M_weighs_63 : decode c_M_weighs 63 = .ok (.getfield 33, 3) := by decide +kernel
theorem d_M_weighs_66 : decode c_M_weighs 66 = .ok (.iload 4, 2) := by decide +kernel
theorem d_M_weighs_68 : decode c_M_weighs 68 = .ok (.iaload, 1) := by decide +kernel
theorem d_M_weighs_69 : decode c_M_weighs 69 = .ok (.iload_n 3, 1) := by decide +kernel
theorem d_M_weighs_70 : decode c_M_weighs 70 = .ok (.ishr, 1) := by decide +kernel
theorem d_M_weighs_71 : decode c_M_weighs 71 = .ok (.iconst 1, 1) := by decide +kernel
theorem d_M_weighs_72 : decode c_M_weighs 72 = .ok (.iand, 1) := by decide +kernel
theorem d_M_weighs_73 : decode c_M_weighs 73 = .ok (.iconst 1, 1) := by decide +kernel
theorem d_M_weighs_74 : decode c_M_weighs 74 = .ok (.if_icmp .ne 30, 3) := by decide +kernel
theorem d_M_weighs_77 : decode c_M_weighs 77 = .ok (.sipush 27720, 3) := by decide +kernel
theorem d_M_weighs_80 : decode c_M_weighs 80 = .ok (.aload_n 0, 1) := by decide +kernel
theorem d_M_weighs_81 : decode c_M_weighs 81 = .ok (.getfield 33, 3) := by decide +kernel
theorem d_M_weighs_84 : decode c_M_weighs 84 = .ok (.iload 4, 2) := by decide +kernel
theorem d_M_weighs_86 : decode c_M_weighs 86 = .ok (.iaload, 1) := by decide +kernel
theorem d_M_weighs_87 : decode c_M_weighs 87 = .ok (.invokestatic 132, 3) := by decide +kernel
theorem d_M_weighs_90 : decode c_M_weighs 90 = .ok (.idiv, 1) := by decide +kernel
theorem d_M_weighs_91 : decode c_M_weighs 91 = .ok (.i2l, 1) := by decide +kernel
theorem d_M_weighs_92 : decode c_M_weighs 92 = .ok (.aload_n 0, 1) := by decide +kernel
theorem d_M_weighs_93 : decode c_M_weighs 93 = .ok (.getfield 30, 3) := by decide +kernel
theorem d_M_weighs_96 : decode c_M_weighs 96 = .ok (.iload 4, 2) := by decide +kernel
theorem d_M_weighs_98 : decode c_M_weighs 98 = .ok (.iaload, 1) := by decide +kernel
theorem d_M_weighs_99 : decode c_M_weighs 99 = .ok (.i2l, 1) := by decide +kernel
theorem d_M_weighs_100 : decode c_M_weighs 100 = .ok (.lmul, 1) := by decide +kernel
theorem d_M_weighs_101 : decode c_M_weighs 101 = .ok (.goto 4, 3) := by decide +kernel
theorem d_M_weighs_104 : decode c_M_weighs 104 = .ok (.lconst 0, 1) := by decide +kernel
theorem d_M_weighs_105 : decode c_M_weighs 105 = .ok (.ladd, 1) := by decide +kernel
theorem d_M_weighs_106 : decode c_M_weighs 106 = .ok (.lastore, 1) := by decide +kernel
theorem d_M_weighs_107 : decode c_M_weighs 107 = .ok (.iinc 4 1, 3) := by decide +kernel
theorem d_M_weighs_110 : decode c_M_weighs 110 = .ok (.goto (-72), 3) := by decide +kernel
theorem d_M_weighs_113 : decode c_M_weighs 113 = .ok (.lload_n 1, 1) := by decide +kernel
theorem d_M_weighs_114 : decode c_M_weighs 114 = .ok (.aload_n 0, 1) := by decide +kernel
theorem d_M_weighs_115 : decode c_M_weighs 115 = .ok (.getfield 36, 3) := by decide +kernel
theorem d_M_weighs_118 : decode c_M_weighs 118 = .ok (.iload_n 3, 1) := by decide +kernel
theorem d_M_weighs_119 : decode c_M_weighs 119 = .ok (.laload, 1) := by decide +kernel
theorem d_M_weighs_120 : decode c_M_weighs 120 = .ok (.ladd, 1) := by decide +kernel
theorem d_M_weighs_121 : decode c_M_weighs 121 = .ok (.lstore_n 1, 1) := by decide +kernel
theorem d_M_weighs_122 : decode c_M_weighs 122 = .ok (.iinc 3 1, 3) := by decide +kernel
theorem d_M_weighs_125 : decode c_M_weighs 125 = .ok (.goto (-121), 3) := by decide +kernel
theorem d_M_weighs_128 : decode c_M_weighs 128 = .ok (.lload_n 1, 1) := by decide +kernel
theorem d_M_weighs_129 : decode c_M_weighs 129 = .ok (.lreturn, 1) := by decide +kernel
theorem d_M_fits_0 : decode c_M_fits 0 = .ok (.lconst 0, 1) := by decide +kernel
theorem d_M_fits_1 : decode c_M_fits 1 = .ok (.lstore_n 3, 1) := by decide +kernel
theorem d_M_fits_2 : decode c_M_fits 2 = .ok (.iconst 0, 1) := by decide +kernel
theorem d_M_fits_3 : decode c_M_fits 3 = .ok (.istore 5, 2) := by decide +kernel
theorem d_M_fits_5 : decode c_M_fits 5 = .ok (.iload 5, 2) := by decide +kernel
theorem d_M_fits_7 : decode c_M_fits 7 = .ok (.aload_n 0, 1) := by decide +kernel
theorem d_M_fits_8 : decode c_M_fits 8 = .ok (.getfield 126, 3) := by decide +kernel
theorem d_M_fits_11 : decode c_M_fits 11 = .ok (.if_icmp .ge 20, 3) := by decide +kernel
theorem d_M_fits_14 : decode c_M_fits 14 = .ok (.lload_n 3, 1) := by decide +kernel
theorem d_M_fits_15 : decode c_M_fits 15 = .ok (.aload_n 0, 1) := by decide +kernel
theorem d_M_fits_16 : decode c_M_fits 16 = .ok (.getfield 30, 3) := by decide +kernel
theorem d_M_fits_19 : decode c_M_fits 19 = .ok (.iload 5, 2) := by decide +kernel
theorem d_M_fits_21 : decode c_M_fits 21 = .ok (.iaload, 1) := by decide +kernel
theorem d_M_fits_22 : decode c_M_fits 22 = .ok (.i2l, 1) := by decide +kernel
theorem d_M_fits_23 : decode c_M_fits 23 = .ok (.ladd, 1) := by decide +kernel
theorem d_M_fits_24 : decode c_M_fits 24 = .ok (.lstore_n 3, 1) := by decide +kernel
theorem d_M_fits_25 : decode c_M_fits 25 = .ok (.iinc 5 1, 3) := by decide +kernel
theorem d_M_fits_28 : decode c_M_fits 28 = .ok (.goto (-23), 3) := by decide +kernel
theorem d_M_fits_31 : decode c_M_fits 31 = .ok (.aload_n 0, 1) := by decide +kernel
theorem d_M_fits_32 : decode c_M_fits 32 = .ok (.getfield 117, 3) := by decide +kernel
theorem d_M_fits_35 : decode c_M_fits 35 = .ok (.iconst 3, 1) := by decide +kernel
theorem d_M_fits_36 : decode c_M_fits 36 = .ok (.if_icmp .lt 53, 3) := by decide +kernel
theorem d_M_fits_39 : decode c_M_fits 39 = .ok (.aload_n 0, 1) := by decide +kernel
theorem d_M_fits_40 : decode c_M_fits 40 = .ok (.getfield 117, 3) := by decide +kernel
theorem d_M_fits_43 : decode c_M_fits 43 = .ok (.iconst 3, 1) := by decide +kernel
theorem d_M_fits_44 : decode c_M_fits 44 = .ok (.if_icmp .ne 16, 3) := by decide +kernel
theorem d_M_fits_47 : decode c_M_fits 47 = .ok (.lload_n 1, 1) := by decide +kernel
theorem d_M_fits_48 : decode c_M_fits 48 = .ok (.aload_n 0, 1) := by decide +kernel
theorem d_M_fits_49 : decode c_M_fits 49 = .ok (.getfield 120, 3) := by decide +kernel
theorem d_M_fits_52 : decode c_M_fits 52 = .ok (.i2l, 1) := by decide +kernel
theorem d_M_fits_53 : decode c_M_fits 53 = .ok (.lcmp, 1) := by decide +kernel
theorem d_M_fits_54 : decode c_M_fits 54 = .ok (.ifCond .ne 39, 3) := by decide +kernel
theorem d_M_fits_57 : decode c_M_fits 57 = .ok (.goto 32, 3) := by decide +kernel
theorem d_M_fits_60 : decode c_M_fits 60 = .ok (.aload_n 0, 1) := by decide +kernel
theorem d_M_fits_61 : decode c_M_fits 61 = .ok (.getfield 117, 3) := by decide +kernel
theorem d_M_fits_64 : decode c_M_fits 64 = .ok (.iconst 4, 1) := by decide +kernel
theorem d_M_fits_65 : decode c_M_fits 65 = .ok (.if_icmp .ne 14, 3) := by decide +kernel
theorem d_M_fits_68 : decode c_M_fits 68 = .ok (.lload_n 1, 1) := by decide +kernel
theorem d_M_fits_69 : decode c_M_fits 69 = .ok (.ldc2_w 136, 3) := by decide +kernel
theorem d_M_fits_72 : decode c_M_fits 72 = .ok (.lcmp, 1) := by decide +kernel
theorem d_M_fits_73 : decode c_M_fits 73 = .ok (.ifCond .ne 20, 3) := by decide +kernel
theorem d_M_fits_76 : decode c_M_fits 76 = .ok (.goto 13, 3) := by decide +kernel
theorem d_M_fits_79 : decode c_M_fits 79 = .ok (.lload_n 3, 1) := by decide +kernel
theorem d_M_fits_80 : decode c_M_fits 80 = .ok (.aload_n 0, 1) := by decide +kernel
theorem d_M_fits_81 : decode c_M_fits 81 = .ok (.getfield 120, 3) := by decide +kernel
theorem d_M_fits_84 : decode c_M_fits 84 = .ok (.i2l, 1) := by decide +kernel
theorem d_M_fits_85 : decode c_M_fits 85 = .ok (.lcmp, 1) := by decide +kernel
theorem d_M_fits_86 : decode c_M_fits 86 = .ok (.ifCond .ne 7, 3) := by decide +kernel
theorem d_M_fits_89 : decode c_M_fits 89 = .ok (.iconst 1, 1) := by decide +kernel
theorem d_M_fits_90 : decode c_M_fits 90 = .ok (.goto 4, 3) := by decide +kernel
theorem d_M_fits_93 : decode c_M_fits 93 = .ok (.iconst 0, 1) := by decide +kernel
theorem d_M_fits_94 : decode c_M_fits 94 = .ok (.ireturn, 1) := by decide +kernel
theorem d_M_wrong_0 : decode c_M_wrong 0 = .ok (.aload_n 0, 1) := by decide +kernel
theorem d_M_wrong_1 : decode c_M_wrong 1 = .ok (.getfield 20, 3) := by decide +kernel
theorem d_M_wrong_4 : decode c_M_wrong 4 = .ok (.iconst (-1), 1) := by decide +kernel
theorem d_M_wrong_5 : decode c_M_wrong 5 = .ok (.if_icmp .ne 5, 3) := by decide +kernel
theorem d_M_wrong_8 : decode c_M_wrong 8 = .ok (.iconst (-1), 1) := by decide +kernel
theorem d_M_wrong_9 : decode c_M_wrong 9 = .ok (.ireturn, 1) := by decide +kernel
theorem d_M_wrong_10 : decode c_M_wrong 10 = .ok (.aload_n 0, 1) := by decide +kernel
theorem d_M_wrong_11 : decode c_M_wrong 11 = .ok (.getfield 61, 3) := by decide +kernel
theorem d_M_wrong_14 : decode c_M_wrong 14 = .ok (.aload_n 0, 1) := by decide +kernel
theorem d_M_wrong_15 : decode c_M_wrong 15 = .ok (.getfield 20, 3) := by decide +kernel
theorem d_M_wrong_18 : decode c_M_wrong 18 = .ok (.baload, 1) := by decide +kernel
theorem d_M_wrong_19 : decode c_M_wrong 19 = .ok (.ifCond .eq 6, 3) := by decide +kernel
theorem d_M_wrong_22 : decode c_M_wrong 22 = .ok (.bipush (-2), 2) := by decide +kernel
theorem d_M_wrong_24 : decode c_M_wrong 24 = .ok (.ireturn, 1) := by decide +kernel
theorem d_M_wrong_25 : decode c_M_wrong 25 = .ok (.aload_n 0, 1) := by decide +kernel
theorem d_M_wrong_26 : decode c_M_wrong 26 = .ok (.getfield 138, 3) := by decide +kernel
theorem d_M_wrong_29 : decode c_M_wrong 29 = .ok (.bipush 64, 2) := by decide +kernel
theorem d_M_wrong_31 : decode c_M_wrong 31 = .ok (.if_icmp .ne 6, 3) := by decide +kernel
theorem d_M_wrong_34 : decode c_M_wrong 34 = .ok (.bipush (-3), 2) := by decide +kernel
theorem d_M_wrong_36 : decode c_M_wrong 36 = .ok (.ireturn, 1) := by decide +kernel
theorem d_M_wrong_37 : decode c_M_wrong 37 = .ok (.aload_n 0, 1) := by decide +kernel
theorem d_M_wrong_38 : decode c_M_wrong 38 = .ok (.invokevirtual 141, 3) := by decide +kernel
theorem d_M_wrong_41 : decode c_M_wrong 41 = .ok (.lstore_n 1, 1) := by decide +kernel
theorem d_M_wrong_42 : decode c_M_wrong 42 = .ok (.lconst 0, 1) := by decide +kernel
theorem d_M_wrong_43 : decode c_M_wrong 43 = .ok (.lstore_n 3, 1) := by decide +kernel
theorem d_M_wrong_44 : decode c_M_wrong 44 = .ok (.iconst 0, 1) := by decide +kernel
theorem d_M_wrong_45 : decode c_M_wrong 45 = .ok (.istore 5, 2) := by decide +kernel
theorem d_M_wrong_47 : decode c_M_wrong 47 = .ok (.iload 5, 2) := by decide +kernel
theorem d_M_wrong_49 : decode c_M_wrong 49 = .ok (.bipush 12, 2) := by decide +kernel
theorem d_M_wrong_51 : decode c_M_wrong 51 = .ok (.if_icmp .ge 63, 3) := by decide +kernel
theorem d_M_wrong_54 : decode c_M_wrong 54 = .ok (.lload_n 3, 1) := by decide +kernel
theorem d_M_wrong_55 : decode c_M_wrong 55 = .ok (.aload_n 0, 1) := by decide +kernel
theorem d_M_wrong_56 : decode c_M_wrong 56 = .ok (.getfield 24, 3) := by decide +kernel
theorem d_M_wrong_59 : decode c_M_wrong 59 = .ok (.iload 5, 2) := by decide +kernel
theorem d_M_wrong_61 : decode c_M_wrong 61 = .ok (.iaload, 1) := by decide +kernel
theorem d_M_wrong_62 : decode c_M_wrong 62 = .ok (.i2l, 1) := by decide +kernel
theorem d_M_wrong_63 : decode c_M_wrong 63 = .ok (.ladd, 1) := by decide +kernel
theorem d_M_wrong_64 : decode c_M_wrong 64 = .ok (.lstore_n 3, 1) := by decide +kernel
theorem d_M_wrong_65 : decode c_M_wrong 65 = .ok (.aload_n 0, 1) := by decide +kernel
theorem d_M_wrong_66 : decode c_M_wrong 66 = .ok (.getfield 16, 3) := by decide +kernel
theorem d_M_wrong_69 : decode c_M_wrong 69 = .ok (.bipush 12, 2) := by decide +kernel
theorem d_M_wrong_71 : decode c_M_wrong 71 = .ok (.aload_n 0, 1) := by decide +kernel
theorem d_M_wrong_72 : decode c_M_wrong 72 = .ok (.getfield 20, 3) := by decide +kernel
theorem d_M_wrong_75 : decode c_M_wrong 75 = .ok (.imul, 1) := by decide +kernel
theorem d_M_wrong_76 : decode c_M_wrong 76 = .ok (.iload 5, 2) := by decide +kernel
theorem d_M_wrong_78 : decode c_M_wrong 78 = .ok (.iadd, 1) := by decide +kernel
theorem d_M_wrong_79 : decode c_M_wrong 79 = .ok (.baload, 1) := by decide +kernel
theorem d_M_wrong_80 : decode c_M_wrong 80 = .ok (.ifCond .eq 28, 3) := by decide +kernel
theorem d_M_wrong_83 : decode c_M_wrong 83 = .ok (.aload_n 0, 1) := by decide +kernel
theorem d_M_wrong_84 : decode c_M_wrong 84 = .ok (.getfield 24, 3) := by decide +kernel
theorem d_M_wrong_87 : decode c_M_wrong 87 = .ok (.iload 5, 2) := by decide +kernel
theorem d_M_wrong_89 : decode c_M_wrong 89 = .ok (.iaload, 1) := by decide +kernel
theorem d_M_wrong_90 : decode c_M_wrong 90 = .ok (.ifCond .gt 15, 3) := by decide +kernel
theorem d_M_wrong_93 : decode c_M_wrong 93 = .ok (.aload_n 0, 1) := by decide +kernel
theorem d_M_wrong_94 : decode c_M_wrong 94 = .ok (.getfield 36, 3) := by decide +kernel
theorem d_M_wrong_97 : decode c_M_wrong 97 = .ok (.iload 5, 2) := by decide +kernel
theorem d_M_wrong_99 : decode c_M_wrong 99 = .ok (.laload, 1) := by decide +kernel
theorem d_M_wrong_100 : decode c_M_wrong 100 = .ok (.lconst 0, 1) := by decide +kernel
theorem d_M_wrong_101 : decode c_M_wrong 101 = .ok (.lcmp, 1) := by decide +kernel
theorem d_M_wrong_102 : decode c_M_wrong 102 = .ok (.ifCond .le 6, 3) := by decide +kernel
theorem d_M_wrong_105 : decode c_M_wrong 105 = .ok (.bipush (-4), 2) := by decide +kernel
theorem d_M_wrong_107 : decode c_M_wrong 107 = .ok (.ireturn, 1) := by decide +kernel
theorem d_M_wrong_108 : decode c_M_wrong 108 = .ok (.iinc 5 1, 3) := by decide +kernel
theorem d_M_wrong_111 : decode c_M_wrong 111 = .ok (.goto (-64), 3) := by decide +kernel
theorem d_M_wrong_114 : decode c_M_wrong 114 = .ok (.lload_n 3, 1) := by decide +kernel
theorem d_M_wrong_115 : decode c_M_wrong 115 = .ok (.aload_n 0, 1) := by decide +kernel
theorem d_M_wrong_116 : decode c_M_wrong 116 = .ok (.getfield 120, 3) := by decide +kernel
theorem d_M_wrong_119 : decode c_M_wrong 119 = .ok (.i2l, 1) := by decide +kernel
theorem d_M_wrong_120 : decode c_M_wrong 120 = .ok (.lcmp, 1) := by decide +kernel
theorem d_M_wrong_121 : decode c_M_wrong 121 = .ok (.ifCond .eq 8, 3) := by decide +kernel
theorem d_M_wrong_124 : decode c_M_wrong 124 = .ok (.bipush (-5), 2) := by decide +kernel
theorem d_M_wrong_126 : decode c_M_wrong 126 = .ok (.goto 28, 3) := by decide +kernel
theorem d_M_wrong_129 : decode c_M_wrong 129 = .ok (.lload_n 1, 1) := by decide +kernel
theorem d_M_wrong_130 : decode c_M_wrong 130 = .ok (.lconst 0, 1) := by decide +kernel
theorem d_M_wrong_131 : decode c_M_wrong 131 = .ok (.lcmp, 1) := by decide +kernel
theorem d_M_wrong_132 : decode c_M_wrong 132 = .ok (.ifCond .ne 8, 3) := by decide +kernel
theorem d_M_wrong_135 : decode c_M_wrong 135 = .ok (.bipush (-6), 2) := by decide +kernel
theorem d_M_wrong_137 : decode c_M_wrong 137 = .ok (.goto 17, 3) := by decide +kernel
theorem d_M_wrong_140 : decode c_M_wrong 140 = .ok (.aload_n 0, 1) := by decide +kernel
theorem d_M_wrong_141 : decode c_M_wrong 141 = .ok (.lload_n 1, 1) := by decide +kernel
theorem d_M_wrong_142 : decode c_M_wrong 142 = .ok (.invokevirtual 145, 3) := by decide +kernel
theorem d_M_wrong_145 : decode c_M_wrong 145 = .ok (.ifCond .eq 7, 3) := by decide +kernel
theorem d_M_wrong_148 : decode c_M_wrong 148 = .ok (.iconst 0, 1) := by decide +kernel
theorem d_M_wrong_149 : decode c_M_wrong 149 = .ok (.goto 5, 3) := by decide +kernel
theorem d_M_wrong_152 : decode c_M_wrong 152 = .ok (.bipush (-7), 2) := by decide +kernel
theorem d_M_wrong_154 : decode c_M_wrong 154 = .ok (.ireturn, 1) := by decide +kernel
theorem d_M_post_0 : decode c_M_post 0 = .ok (.aload_n 0, 1) := by decide +kernel
theorem d_M_post_1 : decode c_M_post 1 = .ok (.iconst 0, 1) := by decide +kernel
theorem d_M_post_2 : decode c_M_post 2 = .ok (.putfield 91, 3) := by decide +kernel
theorem d_M_post_5 : decode c_M_post 5 = .ok (.aload_n 0, 1) := by decide +kernel
theorem d_M_post_6 : decode c_M_post 6 = .ok (.invokevirtual 149, 3) := by decide +kernel
theorem d_M_post_9 : decode c_M_post 9 = .ok (.istore_n 1, 1) := by decide +kernel
theorem d_M_post_10 : decode c_M_post 10 = .ok (.iload_n 1, 1) := by decide +kernel
theorem d_M_post_11 : decode c_M_post 11 = .ok (.ifCond .eq 5, 3) := by decide +kernel
theorem d_M_post_14 : decode c_M_post 14 = .ok (.iload_n 1, 1) := by decide +kernel
theorem d_M_post_15 : decode c_M_post 15 = .ok (.ireturn, 1) := by decide +kernel
theorem d_M_post_16 : decode c_M_post 16 = .ok (.bipush 12, 2) := by decide +kernel
theorem d_M_post_18 : decode c_M_post 18 = .ok (.aload_n 0, 1) := by decide +kernel
theorem d_M_post_19 : decode c_M_post 19 = .ok (.getfield 138, 3) := by decide +kernel
theorem d_M_post_22 : decode c_M_post 22 = .ok (.imul, 1) := by decide +kernel
theorem d_M_post_23 : decode c_M_post 23 = .ok (.istore_n 2, 1) := by decide +kernel
theorem d_M_post_24 : decode c_M_post 24 = .ok (.aload_n 0, 1) := by decide +kernel
theorem d_M_post_25 : decode c_M_post 25 = .ok (.invokevirtual 141, 3) := by decide +kernel
theorem d_M_post_28 : decode c_M_post 28 = .ok (.lstore_n 3, 1) := by decide +kernel
theorem d_M_post_29 : decode c_M_post 29 = .ok (.aload_n 0, 1) := by decide +kernel
theorem d_M_post_30 : decode c_M_post 30 = .ok (.getfield 120, 3) := by decide +kernel
theorem d_M_post_33 : decode c_M_post 33 = .ok (.i2l, 1) := by decide +kernel
theorem d_M_post_34 : decode c_M_post 34 = .ok (.aload_n 0, 1) := by decide +kernel
theorem d_M_post_35 : decode c_M_post 35 = .ok (.getfield 123, 3) := by decide +kernel
theorem d_M_post_38 : decode c_M_post 38 = .ok (.i2l, 1) := by decide +kernel
theorem d_M_post_39 : decode c_M_post 39 = .ok (.lmul, 1) := by decide +kernel
theorem d_M_post_40 : decode c_M_post 40 = .ok (.ldc2_w 153, 3) := by decide +kernel
theorem d_M_post_43 : decode c_M_post 43 = .ok (.ladd, 1) := by decide +kernel
theorem d_M_post_44 : decode c_M_post 44 = .ok (.ldc2_w 155, 3) := by decide +kernel
theorem d_M_post_47 : decode c_M_post 47 = .ok (.ldiv, 1) := by decide +kernel
theorem d_M_post_48 : decode c_M_post 48 = .ok (.lstore 5, 2) := by decide +kernel
theorem d_M_post_50 : decode c_M_post 50 = .ok (.aload_n 0, 1) := by decide +kernel
theorem d_M_post_51 : decode c_M_post 51 = .ok (.getfield 40, 3) := by decide +kernel
theorem d_M_post_54 : decode c_M_post 54 = .ok (.aload_n 0, 1) := by decide +kernel
theorem d_M_post_55 : decode c_M_post 55 = .ok (.getfield 138, 3) := by decide +kernel
theorem d_M_post_58 : decode c_M_post 58 = .ok (.aload_n 0, 1) := by decide +kernel
theorem d_M_post_59 : decode c_M_post 59 = .ok (.getfield 20, 3) := by decide +kernel
theorem d_M_post_62 : decode c_M_post 62 = .ok (.iastore, 1) := by decide +kernel
theorem d_M_post_63 : decode c_M_post 63 = .ok (.aload_n 0, 1) := by decide +kernel
theorem d_M_post_64 : decode c_M_post 64 = .ok (.getfield 43, 3) := by decide +kernel
theorem d_M_post_67 : decode c_M_post 67 = .ok (.aload_n 0, 1) := by decide +kernel
theorem d_M_post_68 : decode c_M_post 68 = .ok (.getfield 138, 3) := by decide +kernel
theorem d_M_post_71 : decode c_M_post 71 = .ok (.lload 5, 2) := by decide +kernel
theorem d_M_post_73 : decode c_M_post 73 = .ok (.lastore, 1) := by decide +kernel
theorem d_M_post_74 : decode c_M_post 74 = .ok (.aload_n 0, 1) := by decide +kernel
theorem d_M_post_75 : decode c_M_post 75 = .ok (.getfield 46, 3) := by decide +kernel
theorem d_M_post_78 : decode c_M_post 78 = .ok (.aload_n 0, 1) := by decide +kernel
theorem d_M_post_79 : decode c_M_post 79 = .ok (.getfield 138, 3) := by decide +kernel
theorem d_M_post_82 : decode c_M_post 82 = .ok (.iconst 0, 1) := by decide +kernel
theorem d_M_post_83 : decode c_M_post 83 = .ok (.bastore, 1) := by decide +kernel
theorem d_M_post_84 : decode c_M_post 84 = .ok (.aload_n 0, 1) := by decide +kernel
theorem d_M_post_85 : decode c_M_post 85 = .ok (.iload_n 2, 1) := by decide +kernel
theorem d_M_post_86 : decode c_M_post 86 = .ok (.lload 5, 2) := by decide +kernel
theorem d_M_post_88 : decode c_M_post 88 = .ok (.invokevirtual 157, 3) := by decide +kernel
theorem d_M_post_91 : decode c_M_post 91 = .ok (.aload_n 0, 1) := by decide +kernel
theorem d_M_post_92 : decode c_M_post 92 = .ok (.iload_n 2, 1) := by decide +kernel
theorem d_M_post_93 : decode c_M_post 93 = .ok (.lload 5, 2) := by decide +kernel
theorem d_M_post_95 : decode c_M_post 95 = .ok (.lload_n 3, 1) := by decide +kernel
theorem d_M_post_96 : decode c_M_post 96 = .ok (.invokevirtual 161, 3) := by decide +kernel
theorem d_M_post_99 : decode c_M_post 99 = .ok (.iconst 0, 1) := by decide +kernel
theorem d_M_post_100 : decode c_M_post 100 = .ok (.istore 7, 2) := by decide +kernel
theorem d_M_post_102 : decode c_M_post 102 = .ok (.iload 7, 2) := by decide +kernel
theorem d_M_post_104 : decode c_M_post 104 = .ok (.bipush 12, 2) := by decide +kernel
theorem d_M_post_106 : decode c_M_post 106 = .ok (.if_icmp .ge 65, 3) := by decide +kernel
theorem d_M_post_109 : decode c_M_post 109 = .ok (.aload_n 0, 1) := by decide +kernel
theorem d_M_post_110 : decode c_M_post 110 = .ok (.getfield 55, 3) := by decide +kernel
theorem d_M_post_113 : decode c_M_post 113 = .ok (.iload_n 2, 1) := by decide +kernel
theorem d_M_post_114 : decode c_M_post 114 = .ok (.iload 7, 2) := by decide +kernel
theorem d_M_post_116 : decode c_M_post 116 = .ok (.iadd, 1) := by decide +kernel
theorem d_M_post_117 : decode c_M_post 117 = .ok (.aload_n 0, 1) := by decide +kernel
theorem d_M_post_118 : decode c_M_post 118 = .ok (.getfield 36, 3) := by decide +kernel
theorem d_M_post_121 : decode c_M_post 121 = .ok (.iload 7, 2) := by decide +kernel
theorem d_M_post_123 : decode c_M_post 123 = .ok (.laload, 1) := by decide +kernel
theorem d_M_post_124 : decode c_M_post 124 = .ok (.lconst 0, 1) := by decide +kernel
theorem d_M_post_125 : decode c_M_post 125 = .ok (.lcmp, 1) := by decide +kernel
theorem d_M_post_126 : decode c_M_post 126 = .ok (.ifCond .le 37, 3) := by decide +kernel
theorem d_M_post_129 : decode c_M_post 129 = .ok (.ldc2_w 165, 3) := by decide +kernel
theorem d_M_post_132 : decode c_M_post 132 = .ok (.aload_n 0, 1) := by decide +kernel
theorem d_M_post_133 : decode c_M_post 133 = .ok (.getfield 49, 3) := by decide +kernel
theorem d_M_post_136 : decode c_M_post 136 = .ok (.iload_n 2, 1) := by decide +kernel
theorem d_M_post_137 : decode c_M_post 137 = .ok (.iload 7, 2) := by decide +kernel
theorem d_M_post_139 : decode c_M_post 139 = .ok (.iadd, 1) := by decide +kernel
theorem d_M_post_140 : decode c_M_post 140 = .ok (.laload, 1) := by decide +kernel
theorem d_M_post_141 : decode c_M_post 141 = .ok (.lmul, 1) := by decide +kernel
theorem d_M_post_142 : decode c_M_post 142 = .ok (.ldc2_w 165, 3) := by decide +kernel
theorem d_M_post_145 : decode c_M_post 145 = .ok (.lload 5, 2) := by decide +kernel
theorem d_M_post_147 : decode c_M_post 147 = .ok (.lmul, 1) := by decide +kernel
theorem d_M_post_148 : decode c_M_post 148 = .ok (.aload_n 0, 1) := by decide +kernel
theorem d_M_post_149 : decode c_M_post 149 = .ok (.getfield 36, 3) := by decide +kernel
theorem d_M_post_152 : decode c_M_post 152 = .ok (.iload 7, 2) := by decide +kernel
theorem d_M_post_154 : decode c_M_post 154 = .ok (.laload, 1) := by decide +kernel
theorem d_M_post_155 : decode c_M_post 155 = .ok (.lload_n 3, 1) := by decide +kernel
theorem d_M_post_156 : decode c_M_post 156 = .ok (.invokestatic 167, 3) := by decide +kernel
theorem d_M_post_159 : decode c_M_post 159 = .ok (.lsub, 1) := by decide +kernel
theorem d_M_post_160 : decode c_M_post 160 = .ok (.goto 4, 3) := by decide +kernel
theorem d_M_post_163 : decode c_M_post 163 = .ok (.lconst 0, 1) := by decide +kernel
theorem d_M_post_164 : decode c_M_post 164 = .ok (.lastore, 1) := by decide +kernel
theorem d_M_post_165 : decode c_M_post 165 = .ok (.iinc 7 1, 3) := by decide +kernel
theorem d_M_post_168 : decode c_M_post 168 = .ok (.goto (-66), 3) := by decide +kernel
theorem d_M_post_171 : decode c_M_post 171 = .ok (.aload_n 0, 1) := by decide +kernel
theorem d_M_post_172 : decode c_M_post 172 = .ok (.iconst (-1), 1) := by decide +kernel
theorem d_M_post_173 : decode c_M_post 173 = .ok (.putfield 20, 3) := by decide +kernel
theorem d_M_post_176 : decode c_M_post 176 = .ok (.aload_n 0, 1) := by decide +kernel
theorem d_M_post_177 : decode c_M_post 177 = .ok (.dup, 1) := by decide +kernel
theorem d_M_post_178 : decode c_M_post 178 = .ok (.getfield 138, 3) := by decide +kernel
theorem d_M_post_181 : decode c_M_post 181 = .ok (.iconst 1, 1) := by decide +kernel
theorem d_M_post_182 : decode c_M_post 182 = .ok (.iadd, 1) := by decide +kernel
theorem d_M_post_183 : decode c_M_post 183 = .ok (.putfield 138, 3) := by decide +kernel
theorem d_M_post_186 : decode c_M_post 186 = .ok (.aload_n 0, 1) := by decide +kernel
theorem d_M_post_187 : decode c_M_post 187 = .ok (.getfield 138, 3) := by decide +kernel
theorem d_M_post_190 : decode c_M_post 190 = .ok (.iconst 1, 1) := by decide +kernel
theorem d_M_post_191 : decode c_M_post 191 = .ok (.isub, 1) := by decide +kernel
theorem d_M_post_192 : decode c_M_post 192 = .ok (.ireturn, 1) := by decide +kernel
theorem d_M_pay_0 : decode c_M_pay 0 = .ok (.lload_n 2, 1) := by decide +kernel
theorem d_M_pay_1 : decode c_M_pay 1 = .ok (.lstore 4, 2) := by decide +kernel
theorem d_M_pay_3 : decode c_M_pay 3 = .ok (.iconst 0, 1) := by decide +kernel
theorem d_M_pay_4 : decode c_M_pay 4 = .ok (.istore 6, 2) := by decide +kernel
theorem d_M_pay_6 : decode c_M_pay 6 = .ok (.iload 6, 2) := by decide +kernel
theorem d_M_pay_8 : decode c_M_pay 8 = .ok (.bipush 12, 2) := by decide +kernel
theorem d_M_pay_10 : decode c_M_pay 10 = .ok (.if_icmp .ge 49, 3) := by decide +kernel
theorem d_M_pay_13 : decode c_M_pay 13 = .ok (.aload_n 0, 1) := by decide +kernel
theorem d_M_pay_14 : decode c_M_pay 14 = .ok (.getfield 52, 3) := by decide +kernel
theorem d_M_pay_17 : decode c_M_pay 17 = .ok (.iload_n 1, 1) := by decide +kernel
theorem d_M_pay_18 : decode c_M_pay 18 = .ok (.iload 6, 2) := by decide +kernel
theorem d_M_pay_20 : decode c_M_pay 20 = .ok (.iadd, 1) := by decide +kernel
theorem d_M_pay_21 : decode c_M_pay 21 = .ok (.lload_n 2, 1) := by decide +kernel
theorem d_M_pay_22 : decode c_M_pay 22 = .ok (.aload_n 0, 1) := by decide +kernel
theorem d_M_pay_23 : decode c_M_pay 23 = .ok (.getfield 24, 3) := by decide +kernel
theorem d_M_pay_26 : decode c_M_pay 26 = .ok (.iload 6, 2) := by decide +kernel
theorem d_M_pay_28 : decode c_M_pay 28 = .ok (.iaload, 1) := by decide +kernel
theorem d_M_pay_29 : decode c_M_pay 29 = .ok (.i2l, 1) := by decide +kernel
theorem d_M_pay_30 : decode c_M_pay 30 = .ok (.aload_n 0, 1) := by decide +kernel
theorem d_M_pay_31 : decode c_M_pay 31 = .ok (.getfield 120, 3) := by decide +kernel
theorem d_M_pay_34 : decode c_M_pay 34 = .ok (.i2l, 1) := by decide +kernel
theorem d_M_pay_35 : decode c_M_pay 35 = .ok (.invokestatic 167, 3) := by decide +kernel
theorem d_M_pay_38 : decode c_M_pay 38 = .ok (.lastore, 1) := by decide +kernel
theorem d_M_pay_39 : decode c_M_pay 39 = .ok (.lload 4, 2) := by decide +kernel
theorem d_M_pay_41 : decode c_M_pay 41 = .ok (.aload_n 0, 1) := by decide +kernel
theorem d_M_pay_42 : decode c_M_pay 42 = .ok (.getfield 52, 3) := by decide +kernel
theorem d_M_pay_45 : decode c_M_pay 45 = .ok (.iload_n 1, 1) := by decide +kernel
theorem d_M_pay_46 : decode c_M_pay 46 = .ok (.iload 6, 2) := by decide +kernel
theorem d_M_pay_48 : decode c_M_pay 48 = .ok (.iadd, 1) := by decide +kernel
theorem d_M_pay_49 : decode c_M_pay 49 = .ok (.laload, 1) := by decide +kernel
theorem d_M_pay_50 : decode c_M_pay 50 = .ok (.lsub, 1) := by decide +kernel
theorem d_M_pay_51 : decode c_M_pay 51 = .ok (.lstore 4, 2) := by decide +kernel
theorem d_M_pay_53 : decode c_M_pay 53 = .ok (.iinc 6 1, 3) := by decide +kernel
theorem d_M_pay_56 : decode c_M_pay 56 = .ok (.goto (-50), 3) := by decide +kernel
theorem d_M_pay_59 : decode c_M_pay 59 = .ok (.iconst 0, 1) := by decide +kernel
theorem d_M_pay_60 : decode c_M_pay 60 = .ok (.istore 6, 2) := by decide +kernel
theorem d_M_pay_62 : decode c_M_pay 62 = .ok (.lload 4, 2) := by decide +kernel
theorem d_M_pay_64 : decode c_M_pay 64 = .ok (.lconst 0, 1) := by decide +kernel
theorem d_M_pay_65 : decode c_M_pay 65 = .ok (.lcmp, 1) := by decide +kernel
theorem d_M_pay_66 : decode c_M_pay 66 = .ok (.ifCond .le 44, 3) := by decide +kernel
theorem d_M_pay_69 : decode c_M_pay 69 = .ok (.aload_n 0, 1) := by decide +kernel
theorem d_M_pay_70 : decode c_M_pay 70 = .ok (.getfield 24, 3) := by decide +kernel
theorem d_M_pay_73 : decode c_M_pay 73 = .ok (.iload 6, 2) := by decide +kernel
theorem d_M_pay_75 : decode c_M_pay 75 = .ok (.iaload, 1) := by decide +kernel
theorem d_M_pay_76 : decode c_M_pay 76 = .ok (.ifCond .le 22, 3) := by decide +kernel
theorem d_M_pay_79 : decode c_M_pay 79 = .ok (.aload_n 0, 1) := by decide +kernel
theorem d_M_pay_80 : decode c_M_pay 80 = .ok (.getfield 52, 3) := by decide +kernel
theorem d_M_pay_83 : decode c_M_pay 83 = .ok (.iload_n 1, 1) := by decide +kernel
theorem d_M_pay_84 : decode c_M_pay 84 = .ok (.iload 6, 2) := by decide +kernel
theorem d_M_pay_86 : decode c_M_pay 86 = .ok (.iadd, 1) := by decide +kernel
theorem d_M_pay_87 : decode c_M_pay 87 = .ok (.dup2, 1) := by decide +kernel
theorem d_M_pay_88 : decode c_M_pay 88 = .ok (.laload, 1) := by decide +kernel
theorem d_M_pay_89 : decode c_M_pay 89 = .ok (.lconst 1, 1) := by decide +kernel
theorem d_M_pay_90 : decode c_M_pay 90 = .ok (.ladd, 1) := by decide +kernel
theorem d_M_pay_91 : decode c_M_pay 91 = .ok (.lastore, 1) := by decide +kernel
theorem d_M_pay_92 : decode c_M_pay 92 = .ok (.lload 4, 2) := by decide +kernel
theorem d_M_pay_94 : decode c_M_pay 94 = .ok (.lconst 1, 1) := by decide +kernel
theorem d_M_pay_95 : decode c_M_pay 95 = .ok (.lsub, 1) := by decide +kernel
theorem d_M_pay_96 : decode c_M_pay 96 = .ok (.lstore 4, 2) := by decide +kernel
theorem d_M_pay_98 : decode c_M_pay 98 = .ok (.iload 6, 2) := by decide +kernel
theorem d_M_pay_100 : decode c_M_pay 100 = .ok (.iconst 1, 1) := by decide +kernel
theorem d_M_pay_101 : decode c_M_pay 101 = .ok (.iadd, 1) := by decide +kernel
theorem d_M_pay_102 : decode c_M_pay 102 = .ok (.bipush 12, 2) := by decide +kernel
theorem d_M_pay_104 : decode c_M_pay 104 = .ok (.irem, 1) := by decide +kernel
theorem d_M_pay_105 : decode c_M_pay 105 = .ok (.istore 6, 2) := by decide +kernel
theorem d_M_pay_107 : decode c_M_pay 107 = .ok (.goto (-45), 3) := by decide +kernel
theorem d_M_pay_110 : decode c_M_pay 110 = .ok (.return_, 1) := by decide +kernel
theorem d_M_share_0 : decode c_M_share 0 = .ok (.lload_n 2, 1) := by decide +kernel
theorem d_M_share_1 : decode c_M_share 1 = .ok (.lstore 6, 2) := by decide +kernel
theorem d_M_share_3 : decode c_M_share 3 = .ok (.iconst 0, 1) := by decide +kernel
theorem d_M_share_4 : decode c_M_share 4 = .ok (.istore 8, 2) := by decide +kernel
theorem d_M_share_6 : decode c_M_share 6 = .ok (.iload 8, 2) := by decide +kernel
theorem d_M_share_8 : decode c_M_share 8 = .ok (.bipush 12, 2) := by decide +kernel
theorem d_M_share_10 : decode c_M_share 10 = .ok (.if_icmp .ge 45, 3) := by decide +kernel
theorem d_M_share_13 : decode c_M_share 13 = .ok (.aload_n 0, 1) := by decide +kernel
theorem d_M_share_14 : decode c_M_share 14 = .ok (.getfield 49, 3) := by decide +kernel
theorem d_M_share_17 : decode c_M_share 17 = .ok (.iload_n 1, 1) := by decide +kernel
theorem d_M_share_18 : decode c_M_share 18 = .ok (.iload 8, 2) := by decide +kernel
theorem d_M_share_20 : decode c_M_share 20 = .ok (.iadd, 1) := by decide +kernel
theorem d_M_share_21 : decode c_M_share 21 = .ok (.lload_n 2, 1) := by decide +kernel
theorem d_M_share_22 : decode c_M_share 22 = .ok (.aload_n 0, 1) := by decide +kernel
theorem d_M_share_23 : decode c_M_share 23 = .ok (.getfield 36, 3) := by decide +kernel
theorem d_M_share_26 : decode c_M_share 26 = .ok (.iload 8, 2) := by decide +kernel
theorem d_M_share_28 : decode c_M_share 28 = .ok (.laload, 1) := by decide +kernel
theorem d_M_share_29 : decode c_M_share 29 = .ok (.lload 4, 2) := by decide +kernel
theorem d_M_share_31 : decode c_M_share 31 = .ok (.invokestatic 167, 3) := by decide +kernel
theorem d_M_share_34 : decode c_M_share 34 = .ok (.lastore, 1) := by decide +kernel
theorem d_M_share_35 : decode c_M_share 35 = .ok (.lload 6, 2) := by decide +kernel
theorem d_M_share_37 : decode c_M_share 37 = .ok (.aload_n 0, 1) := by decide +kernel
theorem d_M_share_38 : decode c_M_share 38 = .ok (.getfield 49, 3) := by decide +kernel
theorem d_M_share_41 : decode c_M_share 41 = .ok (.iload_n 1, 1) := by decide +kernel
theorem d_M_share_42 : decode c_M_share 42 = .ok (.iload 8, 2) := by decide +kernel
theorem d_M_share_44 : decode c_M_share 44 = .ok (.iadd, 1) := by decide +kernel
theorem d_M_share_45 : decode c_M_share 45 = .ok (.laload, 1) := by decide +kernel
theorem d_M_share_46 : decode c_M_share 46 = .ok (.lsub, 1) := by decide +kernel
theorem d_M_share_47 : decode c_M_share 47 = .ok (.lstore 6, 2) := by decide +kernel
theorem d_M_share_49 : decode c_M_share 49 = .ok (.iinc 8 1, 3) := by decide +kernel
theorem d_M_share_52 : decode c_M_share 52 = .ok (.goto (-46), 3) := by decide +kernel
theorem d_M_share_55 : decode c_M_share 55 = .ok (.aload_n 0, 1) := by decide +kernel
theorem d_M_share_56 : decode c_M_share 56 = .ok (.getfield 13, 3) := by decide +kernel
theorem d_M_share_59 : decode c_M_share 59 = .ok (.aload_n 0, 1) := by decide +kernel
theorem d_M_share_60 : decode c_M_share 60 = .ok (.getfield 20, 3) := by decide +kernel
theorem d_M_share_63 : decode c_M_share 63 = .ok (.iaload, 1) := by decide +kernel
theorem d_M_share_64 : decode c_M_share 64 = .ok (.istore 8, 2) := by decide +kernel
theorem d_M_share_66 : decode c_M_share 66 = .ok (.lload 6, 2) := by decide +kernel
theorem d_M_share_68 : decode c_M_share 68 = .ok (.lconst 0, 1) := by decide +kernel
theorem d_M_share_69 : decode c_M_share 69 = .ok (.lcmp, 1) := by decide +kernel
theorem d_M_share_70 : decode c_M_share 70 = .ok (.ifCond .le 62, 3) := by decide +kernel
theorem d_M_share_73 : decode c_M_share 73 = .ok (.aload_n 0, 1) := by decide +kernel
theorem d_M_share_74 : decode c_M_share 74 = .ok (.getfield 36, 3) := by decide +kernel
theorem d_M_share_77 : decode c_M_share 77 = .ok (.iload 8, 2) := by decide +kernel
theorem d_M_share_79 : decode c_M_share 79 = .ok (.laload, 1) := by decide +kernel
theorem d_M_share_80 : decode c_M_share 80 = .ok (.lconst 0, 1) := by decide +kernel
theorem d_M_share_81 : decode c_M_share 81 = .ok (.lcmp, 1) := by decide +kernel
theorem d_M_share_82 : decode c_M_share 82 = .ok (.ifCond .le 38, 3) := by decide +kernel
theorem d_M_share_85 : decode c_M_share 85 = .ok (.aload_n 0, 1) := by decide +kernel
theorem d_M_share_86 : decode c_M_share 86 = .ok (.getfield 49, 3) := by decide +kernel
theorem d_M_share_89 : decode c_M_share 89 = .ok (.iload_n 1, 1) := by decide +kernel
theorem d_M_share_90 : decode c_M_share 90 = .ok (.iload 8, 2) := by decide +kernel
theorem d_M_share_92 : decode c_M_share 92 = .ok (.iadd, 1) := by decide +kernel
theorem d_M_share_93 : decode c_M_share 93 = .ok (.dup2, 1) := by decide +kernel
theorem d_M_share_94 : decode c_M_share 94 = .ok (.laload, 1) := by decide +kernel
theorem d_M_share_95 : decode c_M_share 95 = .ok (.lconst 1, 1) := by decide +kernel
theorem d_M_share_96 : decode c_M_share 96 = .ok (.ladd, 1) := by decide +kernel
theorem d_M_share_97 : decode c_M_share 97 = .ok (.lastore, 1) := by decide +kernel
theorem d_M_share_98 : decode c_M_share 98 = .ok (.lload 6, 2) := by decide +kernel
theorem d_M_share_100 : decode c_M_share 100 = .ok (.lconst 1, 1) := by decide +kernel
theorem d_M_share_101 : decode c_M_share 101 = .ok (.lsub, 1) := by decide +kernel
theorem d_M_share_102 : decode c_M_share 102 = .ok (.lstore 6, 2) := by decide +kernel
theorem d_M_share_104 : decode c_M_share 104 = .ok (.aload_n 0, 1) := by decide +kernel
theorem d_M_share_105 : decode c_M_share 105 = .ok (.getfield 13, 3) := by decide +kernel
theorem d_M_share_108 : decode c_M_share 108 = .ok (.aload_n 0, 1) := by decide +kernel
theorem d_M_share_109 : decode c_M_share 109 = .ok (.getfield 20, 3) := by decide +kernel
theorem d_M_share_112 : decode c_M_share 112 = .ok (.iload 8, 2) := by decide +kernel
theorem d_M_share_114 : decode c_M_share 114 = .ok (.iconst 1, 1) := by decide +kernel
theorem d_M_share_115 : decode c_M_share 115 = .ok (.iadd, 1) := by decide +kernel
theorem d_M_share_116 : decode c_M_share 116 = .ok (.bipush 12, 2) := by decide +kernel
theorem d_M_share_118 : decode c_M_share 118 = .ok (.irem, 1) := by decide +kernel
theorem d_M_share_119 : decode c_M_share 119 = .ok (.iastore, 1) := by decide +kernel
theorem d_M_share_120 : decode c_M_share 120 = .ok (.iload 8, 2) := by decide +kernel
theorem d_M_share_122 : decode c_M_share 122 = .ok (.iconst 1, 1) := by decide +kernel
theorem d_M_share_123 : decode c_M_share 123 = .ok (.iadd, 1) := by decide +kernel
theorem d_M_share_124 : decode c_M_share 124 = .ok (.bipush 12, 2) := by decide +kernel
theorem d_M_share_126 : decode c_M_share 126 = .ok (.irem, 1) := by decide +kernel
theorem d_M_share_127 : decode c_M_share 127 = .ok (.istore 8, 2) := by decide +kernel
theorem d_M_share_129 : decode c_M_share 129 = .ok (.goto (-63), 3) := by decide +kernel
theorem d_M_share_132 : decode c_M_share 132 = .ok (.return_, 1) := by decide +kernel
theorem d_M_strike_0 : decode c_M_strike 0 = .ok (.aload_n 0, 1) := by decide +kernel
theorem d_M_strike_1 : decode c_M_strike 1 = .ok (.iconst 0, 1) := by decide +kernel
theorem d_M_strike_2 : decode c_M_strike 2 = .ok (.putfield 91, 3) := by decide +kernel
theorem d_M_strike_5 : decode c_M_strike 5 = .ok (.iload_n 1, 1) := by decide +kernel
theorem d_M_strike_6 : decode c_M_strike 6 = .ok (.ifCond .lt 34, 3) := by decide +kernel
theorem d_M_strike_9 : decode c_M_strike 9 = .ok (.iload_n 1, 1) := by decide +kernel
theorem d_M_strike_10 : decode c_M_strike 10 = .ok (.aload_n 0, 1) := by decide +kernel
theorem d_M_strike_11 : decode c_M_strike 11 = .ok (.getfield 138, 3) := by decide +kernel
theorem d_M_strike_14 : decode c_M_strike 14 = .ok (.if_icmp .ge 26, 3) := by decide +kernel
theorem d_M_strike_17 : decode c_M_strike 17 = .ok (.aload_n 0, 1) := by decide +kernel
theorem d_M_strike_18 : decode c_M_strike 18 = .ok (.getfield 46, 3) := by decide +kernel
theorem d_M_strike_21 : decode c_M_strike 21 = .ok (.iload_n 1, 1) := by decide +kernel
theorem d_M_strike_22 : decode c_M_strike 22 = .ok (.baload, 1) := by decide +kernel
theorem d_M_strike_23 : decode c_M_strike 23 = .ok (.ifCond .ne 17, 3) := by decide +kernel
theorem d_M_strike_26 : decode c_M_strike 26 = .ok (.aload_n 0, 1) := by decide +kernel
theorem d_M_strike_27 : decode c_M_strike 27 = .ok (.getfield 61, 3) := by decide +kernel
theorem d_M_strike_30 : decode c_M_strike 30 = .ok (.aload_n 0, 1) := by decide +kernel
theorem d_M_strike_31 : decode c_M_strike 31 = .ok (.getfield 40, 3) := by decide +kernel
theorem d_M_strike_34 : decode c_M_strike 34 = .ok (.iload_n 1, 1) := by decide +kernel
theorem d_M_strike_35 : decode c_M_strike 35 = .ok (.iaload, 1) := by decide +kernel
theorem d_M_strike_36 : decode c_M_strike 36 = .ok (.baload, 1) := by decide +kernel
theorem d_M_strike_37 : decode c_M_strike 37 = .ok (.ifCond .eq 5, 3) := by decide +kernel
theorem d_M_strike_40 : decode c_M_strike 40 = .ok (.iconst 0, 1) := by decide +kernel
theorem d_M_strike_41 : decode c_M_strike 41 = .ok (.ireturn, 1) := by decide +kernel
theorem d_M_strike_42 : decode c_M_strike 42 = .ok (.aload_n 0, 1) := by decide +kernel
theorem d_M_strike_43 : decode c_M_strike 43 = .ok (.getfield 46, 3) := by decide +kernel
theorem d_M_strike_46 : decode c_M_strike 46 = .ok (.iload_n 1, 1) := by decide +kernel
theorem d_M_strike_47 : decode c_M_strike 47 = .ok (.iconst 1, 1) := by decide +kernel
theorem d_M_strike_48 : decode c_M_strike 48 = .ok (.bastore, 1) := by decide +kernel
theorem d_M_strike_49 : decode c_M_strike 49 = .ok (.iconst 1, 1) := by decide +kernel
theorem d_M_strike_50 : decode c_M_strike 50 = .ok (.ireturn, 1) := by decide +kernel
theorem d_M_about_0 : decode c_M_about 0 = .ok (.aload_n 0, 1) := by decide +kernel
theorem d_M_about_1 : decode c_M_about 1 = .ok (.iconst 0, 1) := by decide +kernel
theorem d_M_about_2 : decode c_M_about 2 = .ok (.putfield 91, 3) := by decide +kernel
theorem d_M_about_5 : decode c_M_about 5 = .ok (.iload_n 1, 1) := by decide +kernel
theorem d_M_about_6 : decode c_M_about 6 = .ok (.ifCond .lt 20, 3) := by decide +kernel
theorem d_M_about_9 : decode c_M_about 9 = .ok (.iload_n 1, 1) := by decide +kernel
theorem d_M_about_10 : decode c_M_about 10 = .ok (.aload_n 0, 1) := by decide +kernel
theorem d_M_about_11 : decode c_M_about 11 = .ok (.getfield 138, 3) := by decide +kernel
theorem d_M_about_14 : decode c_M_about 14 = .ok (.if_icmp .ge 12, 3) := by decide +kernel
theorem d_M_about_17 : decode c_M_about 17 = .ok (.iload_n 3, 1) := by decide +kernel
theorem d_M_about_18 : decode c_M_about 18 = .ok (.ifCond .lt 8, 3) := by decide +kernel
theorem d_M_about_21 : decode c_M_about 21 = .ok (.iload_n 3, 1) := by decide +kernel
theorem d_M_about_22 : decode c_M_about 22 = .ok (.iconst 2, 1) := by decide +kernel
theorem d_M_about_23 : decode c_M_about 23 = .ok (.if_icmp .le 7, 3) := by decide +kernel
theorem d_M_about_26 : decode c_M_about 26 = .ok (.ldc2_w 171, 3) := by decide +kernel
theorem d_M_about_29 : decode c_M_about 29 = .ok (.lreturn, 1) := by decide +kernel
theorem d_M_about_30 : decode c_M_about 30 = .ok (.iload_n 2, 1) := by decide +kernel
theorem d_M_about_31 : decode c_M_about 31 = .ok (.ifCond .lt 9, 3) := by decide +kernel
theorem d_M_about_34 : decode c_M_about 34 = .ok (.iload_n 2, 1) := by decide +kernel
theorem d_M_about_35 : decode c_M_about 35 = .ok (.bipush 11, 2) := by decide +kernel
theorem d_M_about_37 : decode c_M_about 37 = .ok (.if_icmp .le 5, 3) := by decide +kernel
theorem d_M_about_40 : decode c_M_about 40 = .ok (.lconst 0, 1) := by decide +kernel
theorem d_M_about_41 : decode c_M_about 41 = .ok (.lreturn, 1) := by decide +kernel
theorem d_M_about_42 : decode c_M_about 42 = .ok (.iload_n 3, 1) := by decide +kernel
theorem d_M_about_43 : decode c_M_about 43 = .ok (.ifCond .ne 17, 3) := by decide +kernel
theorem d_M_about_46 : decode c_M_about 46 = .ok (.aload_n 0, 1) := by decide +kernel
theorem d_M_about_47 : decode c_M_about 47 = .ok (.getfield 49, 3) := by decide +kernel
theorem d_M_about_50 : decode c_M_about 50 = .ok (.bipush 12, 2) := by decide +kernel
theorem d_M_about_52 : decode c_M_about 52 = .ok (.iload_n 1, 1) := by decide +kernel
theorem d_M_about_53 : decode c_M_about 53 = .ok (.imul, 1) := by decide +kernel
theorem d_M_about_54 : decode c_M_about 54 = .ok (.iload_n 2, 1) := by decide +kernel
theorem d_M_about_55 : decode c_M_about 55 = .ok (.iadd, 1) := by decide +kernel
theorem d_M_about_56 : decode c_M_about 56 = .ok (.laload, 1) := by decide +kernel
theorem d_M_about_57 : decode c_M_about 57 = .ok (.goto 33, 3) := by decide +kernel
theorem d_M_about_60 : decode c_M_about 60 = .ok (.iload_n 3, 1) := by decide +kernel
theorem d_M_about_61 : decode c_M_about 61 = .ok (.iconst 1, 1) := by decide +kernel
theorem d_M_about_62 : decode c_M_about 62 = .ok (.if_icmp .ne 17, 3) := by decide +kernel
theorem d_M_about_65 : decode c_M_about 65 = .ok (.aload_n 0, 1) := by decide +kernel
theorem d_M_about_66 : decode c_M_about 66 = .ok (.getfield 52, 3) := by decide +kernel
theorem d_M_about_69 : decode c_M_about 69 = .ok (.bipush 12, 2) := by decide +kernel
theorem d_M_about_71 : decode c_M_about 71 = .ok (.iload_n 1, 1) := by decide +kernel
theorem d_M_about_72 : decode c_M_about 72 = .ok (.imul, 1) := by decide +kernel
theorem d_M_about_73 : decode c_M_about 73 = .ok (.iload_n 2, 1) := by decide +kernel
theorem d_M_about_74 : decode c_M_about 74 = .ok (.iadd, 1) := by decide +kernel
theorem d_M_about_75 : decode c_M_about 75 = .ok (.laload, 1) := by decide +kernel
theorem d_M_about_76 : decode c_M_about 76 = .ok (.goto 14, 3) := by decide +kernel
theorem d_M_about_79 : decode c_M_about 79 = .ok (.aload_n 0, 1) := by decide +kernel
theorem d_M_about_80 : decode c_M_about 80 = .ok (.getfield 55, 3) := by decide +kernel
theorem d_M_about_83 : decode c_M_about 83 = .ok (.bipush 12, 2) := by decide +kernel
theorem d_M_about_85 : decode c_M_about 85 = .ok (.iload_n 1, 1) := by decide +kernel
theorem d_M_about_86 : decode c_M_about 86 = .ok (.imul, 1) := by decide +kernel
theorem d_M_about_87 : decode c_M_about 87 = .ok (.iload_n 2, 1) := by decide +kernel
theorem d_M_about_88 : decode c_M_about 88 = .ok (.iadd, 1) := by decide +kernel
theorem d_M_about_89 : decode c_M_about 89 = .ok (.laload, 1) := by decide +kernel
theorem d_M_about_90 : decode c_M_about 90 = .ok (.lreturn, 1) := by decide +kernel
theorem d_M_total_0 : decode c_M_total 0 = .ok (.aload_n 0, 1) := by decide +kernel
theorem d_M_total_1 : decode c_M_total 1 = .ok (.iconst 0, 1) := by decide +kernel
theorem d_M_total_2 : decode c_M_total 2 = .ok (.putfield 91, 3) := by decide +kernel
theorem d_M_total_5 : decode c_M_total 5 = .ok (.iload_n 1, 1) := by decide +kernel
theorem d_M_total_6 : decode c_M_total 6 = .ok (.ifCond .lt 11, 3) := by decide +kernel
theorem d_M_total_9 : decode c_M_total 9 = .ok (.iload_n 1, 1) := by decide +kernel
theorem d_M_total_10 : decode c_M_total 10 = .ok (.aload_n 0, 1) := by decide +kernel
theorem d_M_total_11 : decode c_M_total 11 = .ok (.getfield 138, 3) := by decide +kernel
theorem d_M_total_14 : decode c_M_total 14 = .ok (.if_icmp .lt 9, 3) := by decide +kernel
theorem d_M_total_17 : decode c_M_total 17 = .ok (.ldc2_w 171, 3) := by decide +kernel
theorem d_M_total_20 : decode c_M_total 20 = .ok (.goto 9, 3) := by decide +kernel
theorem d_M_total_23 : decode c_M_total 23 = .ok (.aload_n 0, 1) := by decide +kernel
theorem d_M_total_24 : decode c_M_total 24 = .ok (.getfield 43, 3) := by decide +kernel
theorem d_M_total_27 : decode c_M_total 27 = .ok (.iload_n 1, 1) := by decide +kernel
theorem d_M_total_28 : decode c_M_total 28 = .ok (.laload, 1) := by decide +kernel
theorem d_M_total_29 : decode c_M_total 29 = .ok (.lreturn, 1) := by decide +kernel
theorem d_M_balance_0 : decode c_M_balance 0 = .ok (.aload_n 0, 1) := by decide +kernel
theorem d_M_balance_1 : decode c_M_balance 1 = .ok (.iconst 0, 1) := by decide +kernel
theorem d_M_balance_2 : decode c_M_balance 2 = .ok (.putfield 91, 3) := by decide +kernel
theorem d_M_balance_5 : decode c_M_balance 5 = .ok (.aload_n 0, 1) := by decide +kernel
theorem d_M_balance_6 : decode c_M_balance 6 = .ok (.iload_n 1, 1) := by decide +kernel
theorem d_M_balance_7 : decode c_M_balance 7 = .ok (.iload_n 2, 1) := by decide +kernel
theorem d_M_balance_8 : decode c_M_balance 8 = .ok (.invokevirtual 103, 3) := by decide +kernel
theorem d_M_balance_11 : decode c_M_balance 11 = .ok (.ifCond .ne 5, 3) := by decide +kernel
theorem d_M_balance_14 : decode c_M_balance 14 = .ok (.lconst 0, 1) := by decide +kernel
theorem d_M_balance_15 : decode c_M_balance 15 = .ok (.lreturn, 1) := by decide +kernel
theorem d_M_balance_16 : decode c_M_balance 16 = .ok (.aload_n 0, 1) := by decide +kernel
theorem d_M_balance_17 : decode c_M_balance 17 = .ok (.getfield 58, 3) := by decide +kernel
theorem d_M_balance_20 : decode c_M_balance 20 = .ok (.bipush 12, 2) := by decide +kernel
theorem d_M_balance_22 : decode c_M_balance 22 = .ok (.iload_n 1, 1) := by decide +kernel
theorem d_M_balance_23 : decode c_M_balance 23 = .ok (.imul, 1) := by decide +kernel
theorem d_M_balance_24 : decode c_M_balance 24 = .ok (.iload_n 2, 1) := by decide +kernel
theorem d_M_balance_25 : decode c_M_balance 25 = .ok (.iadd, 1) := by decide +kernel
theorem d_M_balance_26 : decode c_M_balance 26 = .ok (.laload, 1) := by decide +kernel
theorem d_M_balance_27 : decode c_M_balance 27 = .ok (.lstore_n 3, 1) := by decide +kernel
theorem d_M_balance_28 : decode c_M_balance 28 = .ok (.iconst 0, 1) := by decide +kernel
theorem d_M_balance_29 : decode c_M_balance 29 = .ok (.istore 5, 2) := by decide +kernel
theorem d_M_balance_31 : decode c_M_balance 31 = .ok (.iload 5, 2) := by decide +kernel
theorem d_M_balance_33 : decode c_M_balance 33 = .ok (.aload_n 0, 1) := by decide +kernel
theorem d_M_balance_34 : decode c_M_balance 34 = .ok (.getfield 138, 3) := by decide +kernel
theorem d_M_balance_37 : decode c_M_balance 37 = .ok (.if_icmp .ge 62, 3) := by decide +kernel
theorem d_M_balance_40 : decode c_M_balance 40 = .ok (.lload_n 3, 1) := by decide +kernel
theorem d_M_balance_41 : decode c_M_balance 41 = .ok (.aload_n 0, 1) := by decide +kernel
theorem d_M_balance_42 : decode c_M_balance 42 = .ok (.getfield 40, 3) := by decide +kernel
theorem d_M_balance_45 : decode c_M_balance 45 = .ok (.iload 5, 2) := by decide +kernel
theorem d_M_balance_47 : decode c_M_balance 47 = .ok (.iaload, 1) := by decide +kernel
theorem d_M_balance_48 : decode c_M_balance 48 = .ok (.iload_n 1, 1) := by decide +kernel
theorem d_M_balance_49 : decode c_M_balance 49 = .ok (.if_icmp .ne 41, 3) := by decide +kernel
theorem d_M_balance_52 : decode c_M_balance 52 = .ok (.aload_n 0, 1) := by decide +kernel
theorem d_M_balance_53 : decode c_M_balance 53 = .ok (.getfield 46, 3) := by decide +kernel
theorem d_M_balance_56 : decode c_M_balance 56 = .ok (.iload 5, 2) := by decide +kernel
theorem d_M_balance_58 : decode c_M_balance 58 = .ok (.baload, 1) := by decide +kernel
theorem d_M_balance_59 : decode c_M_balance 59 = .ok (.ifCond .ne 31, 3) := by decide +kernel
theorem d_M_balance_62 : decode c_M_balance 62 = .ok (.aload_n 0, 1) := by decide +kernel
theorem d_M_balance_63 : decode c_M_balance 63 = .ok (.getfield 52, 3) := by decide +kernel
theorem d_M_balance_66 : decode c_M_balance 66 = .ok (.bipush 12, 2) := by decide +kernel
theorem d_M_balance_68 : decode c_M_balance 68 = .ok (.iload 5, 2) := by decide +kernel
theorem d_M_balance_70 : decode c_M_balance 70 = .ok (.imul, 1) := by decide +kernel
theorem d_M_balance_71 : decode c_M_balance 71 = .ok (.iload_n 2, 1) := by decide +kernel
theorem d_M_balance_72 : decode c_M_balance 72 = .ok (.iadd, 1) := by decide +kernel
theorem d_M_balance_73 : decode c_M_balance 73 = .ok (.laload, 1) := by decide +kernel
theorem d_M_balance_74 : decode c_M_balance 74 = .ok (.aload_n 0, 1) := by decide +kernel
theorem d_M_balance_75 : decode c_M_balance 75 = .ok (.getfield 49, 3) := by decide +kernel
theorem d_M_balance_78 : decode c_M_balance 78 = .ok (.bipush 12, 2) := by decide +kernel
theorem d_M_balance_80 : decode c_M_balance 80 = .ok (.iload 5, 2) := by decide +kernel
theorem d_M_balance_82 : decode c_M_balance 82 = .ok (.imul, 1) := by decide +kernel
theorem d_M_balance_83 : decode c_M_balance 83 = .ok (.iload_n 2, 1) := by decide +kernel
theorem d_M_balance_84 : decode c_M_balance 84 = .ok (.iadd, 1) := by decide +kernel
theorem d_M_balance_85 : decode c_M_balance 85 = .ok (.laload, 1) := by decide +kernel
theorem d_M_balance_86 : decode c_M_balance 86 = .ok (.lsub, 1) := by decide +kernel
theorem d_M_balance_87 : decode c_M_balance 87 = .ok (.goto 4, 3) := by decide +kernel
theorem d_M_balance_90 : decode c_M_balance 90 = .ok (.lconst 0, 1) := by decide +kernel
theorem d_M_balance_91 : decode c_M_balance 91 = .ok (.ladd, 1) := by decide +kernel
theorem d_M_balance_92 : decode c_M_balance 92 = .ok (.lstore_n 3, 1) := by decide +kernel
theorem d_M_balance_93 : decode c_M_balance 93 = .ok (.iinc 5 1, 3) := by decide +kernel
theorem d_M_balance_96 : decode c_M_balance 96 = .ok (.goto (-65), 3) := by decide +kernel
theorem d_M_balance_99 : decode c_M_balance 99 = .ok (.lload_n 3, 1) := by decide +kernel
theorem d_M_balance_100 : decode c_M_balance 100 = .ok (.lreturn, 1) := by decide +kernel
theorem d_M_drift_0 : decode c_M_drift 0 = .ok (.aload_n 0, 1) := by decide +kernel
theorem d_M_drift_1 : decode c_M_drift 1 = .ok (.iconst 0, 1) := by decide +kernel
theorem d_M_drift_2 : decode c_M_drift 2 = .ok (.putfield 91, 3) := by decide +kernel
theorem d_M_drift_5 : decode c_M_drift 5 = .ok (.lconst 0, 1) := by decide +kernel
theorem d_M_drift_6 : decode c_M_drift 6 = .ok (.lstore_n 3, 1) := by decide +kernel
theorem d_M_drift_7 : decode c_M_drift 7 = .ok (.iconst 0, 1) := by decide +kernel
theorem d_M_drift_8 : decode c_M_drift 8 = .ok (.istore 5, 2) := by decide +kernel
theorem d_M_drift_10 : decode c_M_drift 10 = .ok (.iload 5, 2) := by decide +kernel
theorem d_M_drift_12 : decode c_M_drift 12 = .ok (.aload_n 0, 1) := by decide +kernel
theorem d_M_drift_13 : decode c_M_drift 13 = .ok (.getfield 138, 3) := by decide +kernel
theorem d_M_drift_16 : decode c_M_drift 16 = .ok (.if_icmp .ge 58, 3) := by decide +kernel
theorem d_M_drift_19 : decode c_M_drift 19 = .ok (.aload_n 0, 1) := by decide +kernel
theorem d_M_drift_20 : decode c_M_drift 20 = .ok (.iload_n 1, 1) := by decide +kernel
theorem d_M_drift_21 : decode c_M_drift 21 = .ok (.iload_n 2, 1) := by decide +kernel
theorem d_M_drift_22 : decode c_M_drift 22 = .ok (.invokevirtual 103, 3) := by decide +kernel
theorem d_M_drift_25 : decode c_M_drift 25 = .ok (.ifCond .eq 49, 3) := by decide +kernel
theorem d_M_drift_28 : decode c_M_drift 28 = .ok (.lload_n 3, 1) := by decide +kernel
theorem d_M_drift_29 : decode c_M_drift 29 = .ok (.aload_n 0, 1) := by decide +kernel
theorem d_M_drift_30 : decode c_M_drift 30 = .ok (.getfield 40, 3) := by decide +kernel
theorem d_M_drift_33 : decode c_M_drift 33 = .ok (.iload 5, 2) := by decide +kernel
theorem d_M_drift_35 : decode c_M_drift 35 = .ok (.iaload, 1) := by decide +kernel
theorem d_M_drift_36 : decode c_M_drift 36 = .ok (.iload_n 1, 1) := by decide +kernel
theorem d_M_drift_37 : decode c_M_drift 37 = .ok (.if_icmp .ne 28, 3) := by decide +kernel
theorem d_M_drift_40 : decode c_M_drift 40 = .ok (.aload_n 0, 1) := by decide +kernel
theorem d_M_drift_41 : decode c_M_drift 41 = .ok (.getfield 46, 3) := by decide +kernel
theorem d_M_drift_44 : decode c_M_drift 44 = .ok (.iload 5, 2) := by decide +kernel
theorem d_M_drift_46 : decode c_M_drift 46 = .ok (.baload, 1) := by decide +kernel
theorem d_M_drift_47 : decode c_M_drift 47 = .ok (.ifCond .ne 18, 3) := by decide +kernel
theorem d_M_drift_50 : decode c_M_drift 50 = .ok (.aload_n 0, 1) := by decide +kernel
theorem d_M_drift_51 : decode c_M_drift 51 = .ok (.getfield 55, 3) := by decide +kernel
theorem d_M_drift_54 : decode c_M_drift 54 = .ok (.bipush 12, 2) := by decide +kernel
theorem d_M_drift_56 : decode c_M_drift 56 = .ok (.iload 5, 2) := by decide +kernel
theorem d_M_drift_58 : decode c_M_drift 58 = .ok (.imul, 1) := by decide +kernel
theorem d_M_drift_59 : decode c_M_drift 59 = .ok (.iload_n 2, 1) := by decide +kernel
theorem d_M_drift_60 : decode c_M_drift 60 = .ok (.iadd, 1) := by decide +kernel
theorem d_M_drift_61 : decode c_M_drift 61 = .ok (.laload, 1) := by decide +kernel
theorem d_M_drift_62 : decode c_M_drift 62 = .ok (.goto 4, 3) := by decide +kernel
theorem d_M_drift_65 : decode c_M_drift 65 = .ok (.lconst 0, 1) := by decide +kernel
theorem d_M_drift_66 : decode c_M_drift 66 = .ok (.ladd, 1) := by decide +kernel
theorem d_M_drift_67 : decode c_M_drift 67 = .ok (.lstore_n 3, 1) := by decide +kernel
theorem d_M_drift_68 : decode c_M_drift 68 = .ok (.iinc 5 1, 3) := by decide +kernel
theorem d_M_drift_71 : decode c_M_drift 71 = .ok (.goto (-61), 3) := by decide +kernel
theorem d_M_drift_74 : decode c_M_drift 74 = .ok (.lload_n 3, 1) := by decide +kernel
theorem d_M_drift_75 : decode c_M_drift 75 = .ok (.lreturn, 1) := by decide +kernel
theorem d_M_lowest_0 : decode c_M_lowest 0 = .ok (.iconst 0, 1) := by decide +kernel
theorem d_M_lowest_1 : decode c_M_lowest 1 = .ok (.istore_n 1, 1) := by decide +kernel
theorem d_M_lowest_2 : decode c_M_lowest 2 = .ok (.iload_n 0, 1) := by decide +kernel
theorem d_M_lowest_3 : decode c_M_lowest 3 = .ok (.iload_n 1, 1) := by decide +kernel
theorem d_M_lowest_4 : decode c_M_lowest 4 = .ok (.ishr, 1) := by decide +kernel
theorem d_M_lowest_5 : decode c_M_lowest 5 = .ok (.iconst 1, 1) := by decide +kernel
theorem d_M_lowest_6 : decode c_M_lowest 6 = .ok (.iand, 1) := by decide +kernel
theorem d_M_lowest_7 : decode c_M_lowest 7 = .ok (.ifCond .ne 9, 3) := by decide +kernel
theorem d_M_lowest_10 : decode c_M_lowest 10 = .ok (.iinc 1 1, 3) := by decide +kernel
theorem d_M_lowest_13 : decode c_M_lowest 13 = .ok (.goto (-11), 3) := by decide +kernel
theorem d_M_lowest_16 : decode c_M_lowest 16 = .ok (.iload_n 1, 1) := by decide +kernel
theorem d_M_lowest_17 : decode c_M_lowest 17 = .ok (.ireturn, 1) := by decide +kernel
theorem d_M_divides_0 : decode c_M_divides 0 = .ok (.aload_n 0, 1) := by decide +kernel
theorem d_M_divides_1 : decode c_M_divides 1 = .ok (.getfield 88, 3) := by decide +kernel
theorem d_M_divides_4 : decode c_M_divides 4 = .ok (.iconst 0, 1) := by decide +kernel
theorem d_M_divides_5 : decode c_M_divides 5 = .ok (.iconst 0, 1) := by decide +kernel
theorem d_M_divides_6 : decode c_M_divides 6 = .ok (.iastore, 1) := by decide +kernel
theorem d_M_divides_7 : decode c_M_divides 7 = .ok (.iconst 1, 1) := by decide +kernel
theorem d_M_divides_8 : decode c_M_divides 8 = .ok (.istore_n 1, 1) := by decide +kernel
theorem d_M_divides_9 : decode c_M_divides 9 = .ok (.iload_n 1, 1) := by decide +kernel
theorem d_M_divides_10 : decode c_M_divides 10 = .ok (.sipush 4096, 3) := by decide +kernel
theorem d_M_divides_13 : decode c_M_divides 13 = .ok (.if_icmp .ge 153, 3) := by decide +kernel
theorem d_M_divides_16 : decode c_M_divides 16 = .ok (.aload_n 0, 1) := by decide +kernel
theorem d_M_divides_17 : decode c_M_divides 17 = .ok (.getfield 88, 3) := by decide +kernel
theorem d_M_divides_20 : decode c_M_divides 20 = .ok (.iload_n 1, 1) := by decide +kernel
theorem d_M_divides_21 : decode c_M_divides 21 = .ok (.iconst (-1), 1) := by decide +kernel
theorem d_M_divides_22 : decode c_M_divides 22 = .ok (.iastore, 1) := by decide +kernel
theorem d_M_divides_23 : decode c_M_divides 23 = .ok (.iconst 1, 1) := by decide +kernel
theorem d_M_divides_24 : decode c_M_divides 24 = .ok (.iload_n 1, 1) := by decide +kernel
theorem d_M_divides_25 : decode c_M_divides 25 = .ok (.invokestatic 173, 3) := by decide +kernel
theorem d_M_divides_28 : decode c_M_divides 28 = .ok (.ishl, 1) := by decide +kernel
theorem d_M_divides_29 : decode c_M_divides 29 = .ok (.istore_n 2, 1) := by decide +kernel
theorem d_M_divides_30 : decode c_M_divides 30 = .ok (.iload_n 1, 1) := by decide +kernel
theorem d_M_divides_31 : decode c_M_divides 31 = .ok (.iload_n 2, 1) := by decide +kernel
theorem d_M_divides_32 : decode c_M_divides 32 = .ok (.iconst (-1), 1) := by decide +kernel
theorem d_M_divides_33 : decode c_M_divides 33 = .ok (.ixor, 1) := by decide +kernel
theorem d_M_divides_34 : decode c_M_divides 34 = .ok (.iand, 1) := by decide +kernel
theorem d_M_divides_35 : decode c_M_divides 35 = .ok (.istore_n 3, 1) := by decide +kernel
theorem d_M_divides_36 : decode c_M_divides 36 = .ok (.aload_n 0, 1) := by decide +kernel
theorem d_M_divides_37 : decode c_M_divides 37 = .ok (.getfield 85, 3) := by decide +kernel
theorem d_M_divides_40 : decode c_M_divides 40 = .ok (.iload_n 1, 1) := by decide +kernel
theorem d_M_divides_41 : decode c_M_divides 41 = .ok (.laload, 1) := by decide +kernel
theorem d_M_divides_42 : decode c_M_divides 42 = .ok (.lconst 0, 1) := by decide +kernel
theorem d_M_divides_43 : decode c_M_divides 43 = .ok (.lcmp, 1) := by decide +kernel
theorem d_M_divides_44 : decode c_M_divides 44 = .ok (.ifCond .ne 7, 3) := by decide +kernel
theorem d_M_divides_47 : decode c_M_divides 47 = .ok (.iload_n 3, 1) := by decide +kernel
theorem d_M_divides_48 : decode c_M_divides 48 = .ok (.goto 4, 3) := by decide +kernel
theorem d_M_divides_51 : decode c_M_divides 51 = .ok (.iconst 0, 1) := by decide +kernel
theorem d_M_divides_52 : decode c_M_divides 52 = .ok (.istore 4, 2) := by decide +kernel
theorem d_M_divides_54 : decode c_M_divides 54 = .ok (.aload_n 0, 1) := by decide +kernel
theorem d_M_divides_55 : decode c_M_divides 55 = .ok (.getfield 85, 3) := by decide +kernel
theorem d_M_divides_58 : decode c_M_divides 58 = .ok (.iload_n 1, 1) := by decide +kernel
theorem d_M_divides_59 : decode c_M_divides 59 = .ok (.laload, 1) := by decide +kernel
theorem d_M_divides_60 : decode c_M_divides 60 = .ok (.lconst 0, 1) := by decide +kernel
theorem d_M_divides_61 : decode c_M_divides 61 = .ok (.lcmp, 1) := by decide +kernel
theorem d_M_divides_62 : decode c_M_divides 62 = .ok (.ifCond .ne 7, 3) := by decide +kernel
theorem d_M_divides_65 : decode c_M_divides 65 = .ok (.iconst 1, 1) := by decide +kernel
theorem d_M_divides_66 : decode c_M_divides 66 = .ok (.goto 4, 3) := by decide +kernel
theorem d_M_divides_69 : decode c_M_divides 69 = .ok (.iconst 0, 1) := by decide +kernel
theorem d_M_divides_70 : decode c_M_divides 70 = .ok (.istore 5, 2) := by decide +kernel
theorem d_M_divides_72 : decode c_M_divides 72 = .ok (.iload 5, 2) := by decide +kernel
theorem d_M_divides_74 : decode c_M_divides 74 = .ok (.ifCond .eq 86, 3) := by decide +kernel
theorem d_M_divides_77 : decode c_M_divides 77 = .ok (.iload 4, 2) := by decide +kernel
theorem d_M_divides_79 : decode c_M_divides 79 = .ok (.iload_n 2, 1) := by decide +kernel
theorem d_M_divides_80 : decode c_M_divides 80 = .ok (.ior, 1) := by decide +kernel
theorem d_M_divides_81 : decode c_M_divides 81 = .ok (.istore 6, 2) := by decide +kernel
theorem d_M_divides_83 : decode c_M_divides 83 = .ok (.aload_n 0, 1) := by decide +kernel
theorem d_M_divides_84 : decode c_M_divides 84 = .ok (.getfield 88, 3) := by decide +kernel
theorem d_M_divides_87 : decode c_M_divides 87 = .ok (.iload_n 1, 1) := by decide +kernel
theorem d_M_divides_88 : decode c_M_divides 88 = .ok (.iload 6, 2) := by decide +kernel
theorem d_M_divides_90 : decode c_M_divides 90 = .ok (.iconst (-1), 1) := by decide +kernel
theorem d_M_divides_91 : decode c_M_divides 91 = .ok (.ixor, 1) := by decide +kernel
theorem d_M_divides_92 : decode c_M_divides 92 = .ok (.iand, 1) := by decide +kernel
theorem d_M_divides_93 : decode c_M_divides 93 = .ok (.iaload, 1) := by decide +kernel
theorem d_M_divides_94 : decode c_M_divides 94 = .ok (.istore 7, 2) := by decide +kernel
theorem d_M_divides_96 : decode c_M_divides 96 = .ok (.aload_n 0, 1) := by decide +kernel
theorem d_M_divides_97 : decode c_M_divides 97 = .ok (.getfield 85, 3) := by decide +kernel
theorem d_M_divides_100 : decode c_M_divides 100 = .ok (.iload 6, 2) := by decide +kernel
theorem d_M_divides_102 : decode c_M_divides 102 = .ok (.laload, 1) := by decide +kernel
theorem d_M_divides_103 : decode c_M_divides 103 = .ok (.lconst 0, 1) := by decide +kernel
theorem d_M_divides_104 : decode c_M_divides 104 = .ok (.lcmp, 1) := by decide +kernel
theorem d_M_divides_105 : decode c_M_divides 105 = .ok (.ifCond .ne 32, 3) := by decide +kernel
theorem d_M_divides_108 : decode c_M_divides 108 = .ok (.iload 7, 2) := by decide +kernel
theorem d_M_divides_110 : decode c_M_divides 110 = .ok (.iconst (-1), 1) := by decide +kernel
theorem d_M_divides_111 : decode c_M_divides 111 = .ok (.if_icmp .eq 26, 3) := by decide +kernel
theorem d_M_divides_114 : decode c_M_divides 114 = .ok (.iload 7, 2) := by decide +kernel
theorem d_M_divides_116 : decode c_M_divides 116 = .ok (.iconst 1, 1) := by decide +kernel
theorem d_M_divides_117 : decode c_M_divides 117 = .ok (.iadd, 1) := by decide +kernel
theorem d_M_divides_118 : decode c_M_divides 118 = .ok (.aload_n 0, 1) := by decide +kernel
theorem d_M_divides_119 : decode c_M_divides 119 = .ok (.getfield 88, 3) := by decide +kernel
theorem d_M_divides_122 : decode c_M_divides 122 = .ok (.iload_n 1, 1) := by decide +kernel
theorem d_M_divides_123 : decode c_M_divides 123 = .ok (.iaload, 1) := by decide +kernel
theorem d_M_divides_124 : decode c_M_divides 124 = .ok (.if_icmp .le 13, 3) := by decide +kernel
theorem d_M_divides_127 : decode c_M_divides 127 = .ok (.aload_n 0, 1) := by decide +kernel
theorem d_M_divides_128 : decode c_M_divides 128 = .ok (.getfield 88, 3) := by decide +kernel
theorem d_M_divides_131 : decode c_M_divides 131 = .ok (.iload_n 1, 1) := by decide +kernel
theorem d_M_divides_132 : decode c_M_divides 132 = .ok (.iload 7, 2) := by decide +kernel
theorem d_M_divides_134 : decode c_M_divides 134 = .ok (.iconst 1, 1) := by decide +kernel
theorem d_M_divides_135 : decode c_M_divides 135 = .ok (.iadd, 1) := by decide +kernel
theorem d_M_divides_136 : decode c_M_divides 136 = .ok (.iastore, 1) := by decide +kernel
theorem d_M_divides_137 : decode c_M_divides 137 = .ok (.iload 4, 2) := by decide +kernel
theorem d_M_divides_139 : decode c_M_divides 139 = .ok (.ifCond .eq 7, 3) := by decide +kernel
theorem d_M_divides_142 : decode c_M_divides 142 = .ok (.iconst 1, 1) := by decide +kernel
theorem d_M_divides_143 : decode c_M_divides 143 = .ok (.goto 4, 3) := by decide +kernel
theorem d_M_divides_146 : decode c_M_divides 146 = .ok (.iconst 0, 1) := by decide +kernel
theorem d_M_divides_147 : decode c_M_divides 147 = .ok (.istore 5, 2) := by decide +kernel
theorem d_M_divides_149 : decode c_M_divides 149 = .ok (.iload 4, 2) := by decide +kernel
theorem d_M_divides_151 : decode c_M_divides 151 = .ok (.iconst 1, 1) := by decide +kernel
theorem d_M_divides_152 : decode c_M_divides 152 = .ok (.isub, 1) := by decide +kernel
theorem d_M_divides_153 : decode c_M_divides 153 = .ok (.iload_n 3, 1) := by decide +kernel
theorem d_M_divides_154 : decode c_M_divides 154 = .ok (.iand, 1) := by decide +kernel
theorem d_M_divides_155 : decode c_M_divides 155 = .ok (.istore 4, 2) := by decide +kernel
theorem d_M_divides_157 : decode c_M_divides 157 = .ok (.goto (-85), 3) := by decide +kernel
theorem d_M_divides_160 : decode c_M_divides 160 = .ok (.iinc 1 1, 3) := by decide +kernel
theorem d_M_divides_163 : decode c_M_divides 163 = .ok (.goto (-154), 3) := by decide +kernel
theorem d_M_divides_166 : decode c_M_divides 166 = .ok (.return_, 1) := by decide +kernel
theorem d_M_weighAll_0 : decode c_M_weighAll 0 = .ok (.iconst 1, 1) := by decide +kernel
theorem d_M_weighAll_1 : decode c_M_weighAll 1 = .ok (.istore_n 2, 1) := by decide +kernel
theorem d_M_weighAll_2 : decode c_M_weighAll 2 = .ok (.iload_n 2, 1) := by decide +kernel
theorem d_M_weighAll_3 : decode c_M_weighAll 3 = .ok (.sipush 4096, 3) := by decide +kernel
theorem d_M_weighAll_6 : decode c_M_weighAll 6 = .ok (.if_icmp .ge 39, 3) := by decide +kernel
theorem d_M_weighAll_9 : decode c_M_weighAll 9 = .ok (.iload_n 2, 1) := by decide +kernel
theorem d_M_weighAll_10 : decode c_M_weighAll 10 = .ok (.invokestatic 173, 3) := by decide +kernel
theorem d_M_weighAll_13 : decode c_M_weighAll 13 = .ok (.istore_n 3, 1) := by decide +kernel
theorem d_M_weighAll_14 : decode c_M_weighAll 14 = .ok (.aload_n 0, 1) := by decide +kernel
theorem d_M_weighAll_15 : decode c_M_weighAll 15 = .ok (.getfield 85, 3) := by decide +kernel
theorem d_M_weighAll_18 : decode c_M_weighAll 18 = .ok (.iload_n 2, 1) := by decide +kernel
theorem d_M_weighAll_19 : decode c_M_weighAll 19 = .ok (.aload_n 0, 1) := by decide +kernel
theorem d_M_weighAll_20 : decode c_M_weighAll 20 = .ok (.getfield 85, 3) := by decide +kernel
theorem d_M_weighAll_23 : decode c_M_weighAll 23 = .ok (.iload_n 2, 1) := by decide +kernel
theorem d_M_weighAll_24 : decode c_M_weighAll 24 = .ok (.iconst 1, 1) := by decide +kernel
theorem d_M_weighAll_25 : decode c_M_weighAll 25 = .ok (.iload_n 3, 1) := by decide +kernel
theorem d_M_weighAll_26 : decode c_M_weighAll 26 = .ok (.ishl, 1) := by decide +kernel
theorem d_M_weighAll_27 : decode c_M_weighAll 27 = .ok (.iconst (-1), 1) := by decide +kernel
theorem d_M_weighAll_28 : decode c_M_weighAll 28 = .ok (.ixor, 1) := by decide +kernel
theorem d_M_weighAll_29 : decode c_M_weighAll 29 = .ok (.iand, 1) := by decide +kernel
theorem d_M_weighAll_30 : decode c_M_weighAll 30 = .ok (.laload, 1) := by decide +kernel
theorem d_M_weighAll_31 : decode c_M_weighAll 31 = .ok (.aload_n 0, 1) := by decide +kernel
theorem d_M_weighAll_32 : decode c_M_weighAll 32 = .ok (.iload_n 1, 1) := by decide +kernel
theorem d_M_weighAll_33 : decode c_M_weighAll 33 = .ok (.iload_n 3, 1) := by decide +kernel
theorem d_M_weighAll_34 : decode c_M_weighAll 34 = .ok (.invokevirtual 107, 3) := by decide +kernel
theorem d_M_weighAll_37 : decode c_M_weighAll 37 = .ok (.ladd, 1) := by decide +kernel
theorem d_M_weighAll_38 : decode c_M_weighAll 38 = .ok (.lastore, 1) := by decide +kernel
theorem d_M_weighAll_39 : decode c_M_weighAll 39 = .ok (.iinc 2 1, 3) := by decide +kernel
theorem d_M_weighAll_42 : decode c_M_weighAll 42 = .ok (.goto (-40), 3) := by decide +kernel
theorem d_M_weighAll_45 : decode c_M_weighAll 45 = .ok (.return_, 1) := by decide +kernel
theorem d_M_least_0 : decode c_M_least 0 = .ok (.iconst 1, 1) := by decide +kernel
theorem d_M_least_1 : decode c_M_least 1 = .ok (.iload_n 1, 1) := by decide +kernel
theorem d_M_least_2 : decode c_M_least 2 = .ok (.invokestatic 173, 3) := by decide +kernel
theorem d_M_least_5 : decode c_M_least 5 = .ok (.ishl, 1) := by decide +kernel
theorem d_M_least_6 : decode c_M_least 6 = .ok (.istore_n 2, 1) := by decide +kernel
theorem d_M_least_7 : decode c_M_least 7 = .ok (.iload_n 2, 1) := by decide +kernel
theorem d_M_least_8 : decode c_M_least 8 = .ok (.istore_n 3, 1) := by decide +kernel
theorem d_M_least_9 : decode c_M_least 9 = .ok (.iload_n 3, 1) := by decide +kernel
theorem d_M_least_10 : decode c_M_least 10 = .ok (.iload_n 1, 1) := by decide +kernel
theorem d_M_least_11 : decode c_M_least 11 = .ok (.if_icmp .gt 71, 3) := by decide +kernel
theorem d_M_least_14 : decode c_M_least 14 = .ok (.iload_n 3, 1) := by decide +kernel
theorem d_M_least_15 : decode c_M_least 15 = .ok (.iload_n 1, 1) := by decide +kernel
theorem d_M_least_16 : decode c_M_least 16 = .ok (.iconst (-1), 1) := by decide +kernel
theorem d_M_least_17 : decode c_M_least 17 = .ok (.ixor, 1) := by decide +kernel
theorem d_M_least_18 : decode c_M_least 18 = .ok (.iand, 1) := by decide +kernel
theorem d_M_least_19 : decode c_M_least 19 = .ok (.ifCond .ne 57, 3) := by decide +kernel
theorem d_M_least_22 : decode c_M_least 22 = .ok (.iload_n 3, 1) := by decide +kernel
theorem d_M_least_23 : decode c_M_least 23 = .ok (.iload_n 2, 1) := by decide +kernel
theorem d_M_least_24 : decode c_M_least 24 = .ok (.iand, 1) := by decide +kernel
theorem d_M_least_25 : decode c_M_least 25 = .ok (.ifCond .eq 51, 3) := by decide +kernel
theorem d_M_least_28 : decode c_M_least 28 = .ok (.aload_n 0, 1) := by decide +kernel
theorem d_M_least_29 : decode c_M_least 29 = .ok (.getfield 85, 3) := by decide +kernel
theorem d_M_least_32 : decode c_M_least 32 = .ok (.iload_n 3, 1) := by decide +kernel
theorem d_M_least_33 : decode c_M_least 33 = .ok (.laload, 1) := by decide +kernel
theorem d_M_least_34 : decode c_M_least 34 = .ok (.lconst 0, 1) := by decide +kernel
theorem d_M_least_35 : decode c_M_least 35 = .ok (.lcmp, 1) := by decide +kernel
theorem d_M_least_36 : decode c_M_least 36 = .ok (.ifCond .ne 40, 3) := by decide +kernel
theorem d_M_least_39 : decode c_M_least 39 = .ok (.aload_n 0, 1) := by decide +kernel
theorem d_M_least_40 : decode c_M_least 40 = .ok (.getfield 88, 3) := by decide +kernel
theorem d_M_least_43 : decode c_M_least 43 = .ok (.iload_n 1, 1) := by decide +kernel
theorem d_M_least_44 : decode c_M_least 44 = .ok (.iload_n 3, 1) := by decide +kernel
theorem d_M_least_45 : decode c_M_least 45 = .ok (.iconst (-1), 1) := by decide +kernel
theorem d_M_least_46 : decode c_M_least 46 = .ok (.ixor, 1) := by decide +kernel
theorem d_M_least_47 : decode c_M_least 47 = .ok (.iand, 1) := by decide +kernel
theorem d_M_least_48 : decode c_M_least 48 = .ok (.iaload, 1) := by decide +kernel
theorem d_M_least_49 : decode c_M_least 49 = .ok (.aload_n 0, 1) := by decide +kernel
theorem d_M_least_50 : decode c_M_least 50 = .ok (.getfield 88, 3) := by decide +kernel
theorem d_M_least_53 : decode c_M_least 53 = .ok (.iload_n 1, 1) := by decide +kernel
theorem d_M_least_54 : decode c_M_least 54 = .ok (.iaload, 1) := by decide +kernel
theorem d_M_least_55 : decode c_M_least 55 = .ok (.iconst 1, 1) := by decide +kernel
theorem d_M_least_56 : decode c_M_least 56 = .ok (.isub, 1) := by decide +kernel
theorem d_M_least_57 : decode c_M_least 57 = .ok (.if_icmp .ne 19, 3) := by decide +kernel
theorem d_M_least_60 : decode c_M_least 60 = .ok (.aload_n 0, 1) := by decide +kernel
theorem d_M_least_61 : decode c_M_least 61 = .ok (.getfield 88, 3) := by decide +kernel
theorem d_M_least_64 : decode c_M_least 64 = .ok (.iload_n 1, 1) := by decide +kernel
theorem d_M_least_65 : decode c_M_least 65 = .ok (.iload_n 3, 1) := by decide +kernel
theorem d_M_least_66 : decode c_M_least 66 = .ok (.iconst (-1), 1) := by decide +kernel
theorem d_M_least_67 : decode c_M_least 67 = .ok (.ixor, 1) := by decide +kernel
theorem d_M_least_68 : decode c_M_least 68 = .ok (.iand, 1) := by decide +kernel
theorem d_M_least_69 : decode c_M_least 69 = .ok (.iaload, 1) := by decide +kernel
theorem d_M_least_70 : decode c_M_least 70 = .ok (.iconst (-1), 1) := by decide +kernel
theorem d_M_least_71 : decode c_M_least 71 = .ok (.if_icmp .eq 5, 3) := by decide +kernel
theorem d_M_least_74 : decode c_M_least 74 = .ok (.iload_n 3, 1) := by decide +kernel
theorem d_M_least_75 : decode c_M_least 75 = .ok (.ireturn, 1) := by decide +kernel
theorem d_M_least_76 : decode c_M_least 76 = .ok (.iinc 3 1, 3) := by decide +kernel
theorem d_M_least_79 : decode c_M_least 79 = .ok (.goto (-70), 3) := by decide +kernel
theorem d_M_least_82 : decode c_M_least 82 = .ok (.iload_n 1, 1) := by decide +kernel
theorem d_M_least_83 : decode c_M_least 83 = .ok (.ireturn, 1) := by decide +kernel
theorem d_M_moves_0 : decode c_M_moves 0 = .ok (.lconst 0, 1) := by decide +kernel
theorem d_M_moves_1 : decode c_M_moves 1 = .ok (.lstore_n 3, 1) := by decide +kernel
theorem d_M_moves_2 : decode c_M_moves 2 = .ok (.iconst (-1), 1) := by decide +kernel
theorem d_M_moves_3 : decode c_M_moves 3 = .ok (.istore 5, 2) := by decide +kernel
theorem d_M_moves_5 : decode c_M_moves 5 = .ok (.iconst 0, 1) := by decide +kernel
theorem d_M_moves_6 : decode c_M_moves 6 = .ok (.istore 6, 2) := by decide +kernel
theorem d_M_moves_8 : decode c_M_moves 8 = .ok (.iload 6, 2) := by decide +kernel
theorem d_M_moves_10 : decode c_M_moves 10 = .ok (.bipush 12, 2) := by decide +kernel
theorem d_M_moves_12 : decode c_M_moves 12 = .ok (.if_icmp .ge 147, 3) := by decide +kernel
theorem d_M_moves_15 : decode c_M_moves 15 = .ok (.iload_n 2, 1) := by decide +kernel
theorem d_M_moves_16 : decode c_M_moves 16 = .ok (.iload 6, 2) := by decide +kernel
theorem d_M_moves_18 : decode c_M_moves 18 = .ok (.ishr, 1) := by decide +kernel
theorem d_M_moves_19 : decode c_M_moves 19 = .ok (.iconst 1, 1) := by decide +kernel
theorem d_M_moves_20 : decode c_M_moves 20 = .ok (.iand, 1) := by decide +kernel
theorem d_M_moves_21 : decode c_M_moves 21 = .ok (.iconst 1, 1) := by decide +kernel
theorem d_M_moves_22 : decode c_M_moves 22 = .ok (.if_icmp .ne 131, 3) := by decide +kernel
theorem d_M_moves_25 : decode c_M_moves 25 = .ok (.iload 5, 2) := by decide +kernel
theorem d_M_moves_27 : decode c_M_moves 27 = .ok (.iconst (-1), 1) := by decide +kernel
theorem d_M_moves_28 : decode c_M_moves 28 = .ok (.if_icmp .eq 93, 3) := by decide +kernel
theorem d_M_moves_31 : decode c_M_moves 31 = .ok (.bipush 11, 2) := by decide +kernel
theorem d_M_moves_33 : decode c_M_moves 33 = .ok (.iload_n 1, 1) := by decide +kernel
theorem d_M_moves_34 : decode c_M_moves 34 = .ok (.imul, 1) := by decide +kernel
theorem d_M_moves_35 : decode c_M_moves 35 = .ok (.aload_n 0, 1) := by decide +kernel
theorem d_M_moves_36 : decode c_M_moves 36 = .ok (.getfield 70, 3) := by decide +kernel
theorem d_M_moves_39 : decode c_M_moves 39 = .ok (.iload_n 1, 1) := by decide +kernel
theorem d_M_moves_40 : decode c_M_moves 40 = .ok (.iaload, 1) := by decide +kernel
theorem d_M_moves_41 : decode c_M_moves 41 = .ok (.iadd, 1) := by decide +kernel
theorem d_M_moves_42 : decode c_M_moves 42 = .ok (.istore 7, 2) := by decide +kernel
theorem d_M_moves_44 : decode c_M_moves 44 = .ok (.aload_n 0, 1) := by decide +kernel
theorem d_M_moves_45 : decode c_M_moves 45 = .ok (.getfield 73, 3) := by decide +kernel
theorem d_M_moves_48 : decode c_M_moves 48 = .ok (.iload 7, 2) := by decide +kernel
theorem d_M_moves_50 : decode c_M_moves 50 = .ok (.lload_n 3, 1) := by decide +kernel
theorem d_M_moves_51 : decode c_M_moves 51 = .ok (.lconst 0, 1) := by decide +kernel
theorem d_M_moves_52 : decode c_M_moves 52 = .ok (.lcmp, 1) := by decide +kernel
theorem d_M_moves_53 : decode c_M_moves 53 = .ok (.ifCond .ge 8, 3) := by decide +kernel
theorem d_M_moves_56 : decode c_M_moves 56 = .ok (.iload 5, 2) := by decide +kernel
theorem d_M_moves_58 : decode c_M_moves 58 = .ok (.goto 5, 3) := by decide +kernel
theorem d_M_moves_61 : decode c_M_moves 61 = .ok (.iload 6, 2) := by decide +kernel
theorem d_M_moves_63 : decode c_M_moves 63 = .ok (.iastore, 1) := by decide +kernel
theorem d_M_moves_64 : decode c_M_moves 64 = .ok (.aload_n 0, 1) := by decide +kernel
theorem d_M_moves_65 : decode c_M_moves 65 = .ok (.getfield 76, 3) := by decide +kernel
theorem d_M_moves_68 : decode c_M_moves 68 = .ok (.iload 7, 2) := by decide +kernel
theorem d_M_moves_70 : decode c_M_moves 70 = .ok (.lload_n 3, 1) := by decide +kernel
theorem d_M_moves_71 : decode c_M_moves 71 = .ok (.lconst 0, 1) := by decide +kernel
theorem d_M_moves_72 : decode c_M_moves 72 = .ok (.lcmp, 1) := by decide +kernel
theorem d_M_moves_73 : decode c_M_moves 73 = .ok (.ifCond .ge 8, 3) := by decide +kernel
theorem d_M_moves_76 : decode c_M_moves 76 = .ok (.iload 6, 2) := by decide +kernel
theorem d_M_moves_78 : decode c_M_moves 78 = .ok (.goto 5, 3) := by decide +kernel
theorem d_M_moves_81 : decode c_M_moves 81 = .ok (.iload 5, 2) := by decide +kernel
theorem d_M_moves_83 : decode c_M_moves 83 = .ok (.iastore, 1) := by decide +kernel
theorem d_M_moves_84 : decode c_M_moves 84 = .ok (.aload_n 0, 1) := by decide +kernel
theorem d_M_moves_85 : decode c_M_moves 85 = .ok (.getfield 79, 3) := by decide +kernel
theorem d_M_moves_88 : decode c_M_moves 88 = .ok (.iload 7, 2) := by decide +kernel
theorem d_M_moves_90 : decode c_M_moves 90 = .ok (.lload_n 3, 1) := by decide +kernel
theorem d_M_moves_91 : decode c_M_moves 91 = .ok (.lconst 0, 1) := by decide +kernel
theorem d_M_moves_92 : decode c_M_moves 92 = .ok (.lcmp, 1) := by decide +kernel
theorem d_M_moves_93 : decode c_M_moves 93 = .ok (.ifCond .ge 8, 3) := by decide +kernel
theorem d_M_moves_96 : decode c_M_moves 96 = .ok (.lload_n 3, 1) := by decide +kernel
theorem d_M_moves_97 : decode c_M_moves 97 = .ok (.lneg, 1) := by decide +kernel
theorem d_M_moves_98 : decode c_M_moves 98 = .ok (.goto 4, 3) := by decide +kernel
theorem d_M_moves_101 : decode c_M_moves 101 = .ok (.lload_n 3, 1) := by decide +kernel
theorem d_M_moves_102 : decode c_M_moves 102 = .ok (.lastore, 1) := by decide +kernel
theorem d_M_moves_103 : decode c_M_moves 103 = .ok (.aload_n 0, 1) := by decide +kernel
theorem d_M_moves_104 : decode c_M_moves 104 = .ok (.getfield 82, 3) := by decide +kernel
theorem d_M_moves_107 : decode c_M_moves 107 = .ok (.iload 7, 2) := by decide +kernel
theorem d_M_moves_109 : decode c_M_moves 109 = .ok (.iconst 0, 1) := by decide +kernel
theorem d_M_moves_110 : decode c_M_moves 110 = .ok (.bastore, 1) := by decide +kernel
theorem d_M_moves_111 : decode c_M_moves 111 = .ok (.aload_n 0, 1) := by decide +kernel
theorem d_M_moves_112 : decode c_M_moves 112 = .ok (.getfield 70, 3) := by decide +kernel
theorem d_M_moves_115 : decode c_M_moves 115 = .ok (.iload_n 1, 1) := by decide +kernel
theorem d_M_moves_116 : decode c_M_moves 116 = .ok (.dup2, 1) := by decide +kernel
theorem d_M_moves_117 : decode c_M_moves 117 = .ok (.iaload, 1) := by decide +kernel
theorem d_M_moves_118 : decode c_M_moves 118 = .ok (.iconst 1, 1) := by decide +kernel
theorem d_M_moves_119 : decode c_M_moves 119 = .ok (.iadd, 1) := by decide +kernel
theorem d_M_moves_120 : decode c_M_moves 120 = .ok (.iastore, 1) := by decide +kernel
theorem d_M_moves_121 : decode c_M_moves 121 = .ok (.aload_n 0, 1) := by decide +kernel
theorem d_M_moves_122 : decode c_M_moves 122 = .ok (.getfield 67, 3) := by decide +kernel
theorem d_M_moves_125 : decode c_M_moves 125 = .ok (.bipush 12, 2) := by decide +kernel
theorem d_M_moves_127 : decode c_M_moves 127 = .ok (.iload_n 1, 1) := by decide +kernel
theorem d_M_moves_128 : decode c_M_moves 128 = .ok (.imul, 1) := by decide +kernel
theorem d_M_moves_129 : decode c_M_moves 129 = .ok (.iload 6, 2) := by decide +kernel
theorem d_M_moves_131 : decode c_M_moves 131 = .ok (.iadd, 1) := by decide +kernel
theorem d_M_moves_132 : decode c_M_moves 132 = .ok (.aload_n 0, 1) := by decide +kernel
theorem d_M_moves_133 : decode c_M_moves 133 = .ok (.getfield 64, 3) := by decide +kernel
theorem d_M_moves_136 : decode c_M_moves 136 = .ok (.iload_n 1, 1) := by decide +kernel
theorem d_M_moves_137 : decode c_M_moves 137 = .ok (.iaload, 1) := by decide +kernel
theorem d_M_moves_138 : decode c_M_moves 138 = .ok (.iastore, 1) := by decide +kernel
theorem d_M_moves_139 : decode c_M_moves 139 = .ok (.lload_n 3, 1) := by decide +kernel
theorem d_M_moves_140 : decode c_M_moves 140 = .ok (.aload_n 0, 1) := by decide +kernel
theorem d_M_moves_141 : decode c_M_moves 141 = .ok (.iload_n 1, 1) := by decide +kernel
theorem d_M_moves_142 : decode c_M_moves 142 = .ok (.iload 6, 2) := by decide +kernel
theorem d_M_moves_144 : decode c_M_moves 144 = .ok (.invokevirtual 107, 3) := by decide +kernel
theorem d_M_moves_147 : decode c_M_moves 147 = .ok (.ladd, 1) := by decide +kernel
theorem d_M_moves_148 : decode c_M_moves 148 = .ok (.lstore_n 3, 1) := by decide +kernel
theorem d_M_moves_149 : decode c_M_moves 149 = .ok (.iload 6, 2) := by decide +kernel
theorem d_M_moves_151 : decode c_M_moves 151 = .ok (.istore 5, 2) := by decide +kernel
theorem d_M_moves_153 : decode c_M_moves 153 = .ok (.iinc 6 1, 3) := by decide +kernel
theorem d_M_moves_156 : decode c_M_moves 156 = .ok (.goto (-148), 3) := by decide +kernel
theorem d_M_moves_159 : decode c_M_moves 159 = .ok (.aload_n 0, 1) := by decide +kernel
theorem d_M_moves_160 : decode c_M_moves 160 = .ok (.getfield 64, 3) := by decide +kernel
theorem d_M_moves_163 : decode c_M_moves 163 = .ok (.iload_n 1, 1) := by decide +kernel
theorem d_M_moves_164 : decode c_M_moves 164 = .ok (.dup2, 1) := by decide +kernel
theorem d_M_moves_165 : decode c_M_moves 165 = .ok (.iaload, 1) := by decide +kernel
theorem d_M_moves_166 : decode c_M_moves 166 = .ok (.iconst 1, 1) := by decide +kernel
theorem d_M_moves_167 : decode c_M_moves 167 = .ok (.iadd, 1) := by decide +kernel
theorem d_M_moves_168 : decode c_M_moves 168 = .ok (.iastore, 1) := by decide +kernel
theorem d_M_moves_169 : decode c_M_moves 169 = .ok (.return_, 1) := by decide +kernel
theorem d_M_settle_0 : decode c_M_settle 0 = .ok (.aload_n 0, 1) := by decide +kernel
theorem d_M_settle_1 : decode c_M_settle 1 = .ok (.iconst 0, 1) := by decide +kernel
theorem d_M_settle_2 : decode c_M_settle 2 = .ok (.putfield 91, 3) := by decide +kernel
theorem d_M_settle_5 : decode c_M_settle 5 = .ok (.aload_n 0, 1) := by decide +kernel
theorem d_M_settle_6 : decode c_M_settle 6 = .ok (.iload_n 1, 1) := by decide +kernel
theorem d_M_settle_7 : decode c_M_settle 7 = .ok (.invokevirtual 97, 3) := by decide +kernel
theorem d_M_settle_10 : decode c_M_settle 10 = .ok (.ifCond .eq 12, 3) := by decide +kernel
theorem d_M_settle_13 : decode c_M_settle 13 = .ok (.aload_n 0, 1) := by decide +kernel
theorem d_M_settle_14 : decode c_M_settle 14 = .ok (.getfield 61, 3) := by decide +kernel
theorem d_M_settle_17 : decode c_M_settle 17 = .ok (.iload_n 1, 1) := by decide +kernel
theorem d_M_settle_18 : decode c_M_settle 18 = .ok (.baload, 1) := by decide +kernel
theorem d_M_settle_19 : decode c_M_settle 19 = .ok (.ifCond .eq 5, 3) := by decide +kernel
theorem d_M_settle_22 : decode c_M_settle 22 = .ok (.iconst (-1), 1) := by decide +kernel
theorem d_M_settle_23 : decode c_M_settle 23 = .ok (.ireturn, 1) := by decide +kernel
theorem d_M_settle_24 : decode c_M_settle 24 = .ok (.aload_n 0, 1) := by decide +kernel
theorem d_M_settle_25 : decode c_M_settle 25 = .ok (.getfield 61, 3) := by decide +kernel
theorem d_M_settle_28 : decode c_M_settle 28 = .ok (.iload_n 1, 1) := by decide +kernel
theorem d_M_settle_29 : decode c_M_settle 29 = .ok (.iconst 1, 1) := by decide +kernel
theorem d_M_settle_30 : decode c_M_settle 30 = .ok (.bastore, 1) := by decide +kernel
theorem d_M_settle_31 : decode c_M_settle 31 = .ok (.aload_n 0, 1) := by decide +kernel
theorem d_M_settle_32 : decode c_M_settle 32 = .ok (.getfield 64, 3) := by decide +kernel
theorem d_M_settle_35 : decode c_M_settle 35 = .ok (.iload_n 1, 1) := by decide +kernel
theorem d_M_settle_36 : decode c_M_settle 36 = .ok (.iconst 0, 1) := by decide +kernel
theorem d_M_settle_37 : decode c_M_settle 37 = .ok (.iastore, 1) := by decide +kernel
theorem d_M_settle_38 : decode c_M_settle 38 = .ok (.aload_n 0, 1) := by decide +kernel
theorem d_M_settle_39 : decode c_M_settle 39 = .ok (.getfield 70, 3) := by decide +kernel
theorem d_M_settle_42 : decode c_M_settle 42 = .ok (.iload_n 1, 1) := by decide +kernel
theorem d_M_settle_43 : decode c_M_settle 43 = .ok (.iconst 0, 1) := by decide +kernel
theorem d_M_settle_44 : decode c_M_settle 44 = .ok (.iastore, 1) := by decide +kernel
theorem d_M_settle_45 : decode c_M_settle 45 = .ok (.iconst 0, 1) := by decide +kernel
theorem d_M_settle_46 : decode c_M_settle 46 = .ok (.istore_n 2, 1) := by decide +kernel
theorem d_M_settle_47 : decode c_M_settle 47 = .ok (.iconst 0, 1) := by decide +kernel
theorem d_M_settle_48 : decode c_M_settle 48 = .ok (.istore_n 3, 1) := by decide +kernel
theorem d_M_settle_49 : decode c_M_settle 49 = .ok (.iload_n 3, 1) := by decide +kernel
theorem d_M_settle_50 : decode c_M_settle 50 = .ok (.bipush 12, 2) := by decide +kernel
theorem d_M_settle_52 : decode c_M_settle 52 = .ok (.if_icmp .ge 42, 3) := by decide +kernel
theorem d_M_settle_55 : decode c_M_settle 55 = .ok (.aload_n 0, 1) := by decide +kernel
theorem d_M_settle_56 : decode c_M_settle 56 = .ok (.getfield 67, 3) := by decide +kernel
theorem d_M_settle_59 : decode c_M_settle 59 = .ok (.bipush 12, 2) := by decide +kernel
theorem d_M_settle_61 : decode c_M_settle 61 = .ok (.iload_n 1, 1) := by decide +kernel
theorem d_M_settle_62 : decode c_M_settle 62 = .ok (.imul, 1) := by decide +kernel
theorem d_M_settle_63 : decode c_M_settle 63 = .ok (.iload_n 3, 1) := by decide +kernel
theorem d_M_settle_64 : decode c_M_settle 64 = .ok (.iadd, 1) := by decide +kernel
theorem d_M_settle_65 : decode c_M_settle 65 = .ok (.iconst (-1), 1) := by decide +kernel
theorem d_M_settle_66 : decode c_M_settle 66 = .ok (.iastore, 1) := by decide +kernel
theorem d_M_settle_67 : decode c_M_settle 67 = .ok (.iload_n 2, 1) := by decide +kernel
theorem d_M_settle_68 : decode c_M_settle 68 = .ok (.aload_n 0, 1) := by decide +kernel
theorem d_M_settle_69 : decode c_M_settle 69 = .ok (.iload_n 1, 1) := by decide +kernel
theorem d_M_settle_70 : decode c_M_settle 70 = .ok (.iload_n 3, 1) := by decide +kernel
theorem d_M_settle_71 : decode c_M_settle 71 = .ok (.invokevirtual 107, 3) := by decide +kernel
theorem d_M_settle_74 : decode c_M_settle 74 = .ok (.lconst 0, 1) := by decide +kernel
theorem d_M_settle_75 : decode c_M_settle 75 = .ok (.lcmp, 1) := by decide +kernel
theorem d_M_settle_76 : decode c_M_settle 76 = .ok (.ifCond .eq 9, 3) := by decide +kernel
theorem d_M_settle_79 : decode c_M_settle 79 = .ok (.iconst 1, 1) := by decide +kernel
theorem d_M_settle_80 : decode c_M_settle 80 = .ok (.iload_n 3, 1) := by decide +kernel
theorem d_M_settle_81 : decode c_M_settle 81 = .ok (.ishl, 1) := by decide +kernel
theorem d_M_settle_82 : decode c_M_settle 82 = .ok (.goto 4, 3) := by decide +kernel
theorem d_M_settle_85 : decode c_M_settle 85 = .ok (.iconst 0, 1) := by decide +kernel
theorem d_M_settle_86 : decode c_M_settle 86 = .ok (.ior, 1) := by decide +kernel
theorem d_M_settle_87 : decode c_M_settle 87 = .ok (.istore_n 2, 1) := by decide +kernel
theorem d_M_settle_88 : decode c_M_settle 88 = .ok (.iinc 3 1, 3) := by decide +kernel
theorem d_M_settle_91 : decode c_M_settle 91 = .ok (.goto (-42), 3) := by decide +kernel
theorem d_M_settle_94 : decode c_M_settle 94 = .ok (.aload_n 0, 1) := by decide +kernel
theorem d_M_settle_95 : decode c_M_settle 95 = .ok (.iload_n 1, 1) := by decide +kernel
theorem d_M_settle_96 : decode c_M_settle 96 = .ok (.invokevirtual 176, 3) := by decide +kernel
theorem d_M_settle_99 : decode c_M_settle 99 = .ok (.aload_n 0, 1) := by decide +kernel
theorem d_M_settle_100 : decode c_M_settle 100 = .ok (.invokevirtual 180, 3) := by decide +kernel
theorem d_M_settle_103 : decode c_M_settle 103 = .ok (.iload_n 2, 1) := by decide +kernel
theorem d_M_settle_104 : decode c_M_settle 104 = .ok (.ifCond .eq 24, 3) := by decide +kernel
theorem d_M_settle_107 : decode c_M_settle 107 = .ok (.aload_n 0, 1) := by decide +kernel
theorem d_M_settle_108 : decode c_M_settle 108 = .ok (.iload_n 2, 1) := by decide +kernel
theorem d_M_settle_109 : decode c_M_settle 109 = .ok (.invokevirtual 183, 3) := by decide +kernel
theorem d_M_settle_112 : decode c_M_settle 112 = .ok (.istore_n 3, 1) := by decide +kernel
theorem d_M_settle_113 : decode c_M_settle 113 = .ok (.aload_n 0, 1) := by decide +kernel
theorem d_M_settle_114 : decode c_M_settle 114 = .ok (.iload_n 1, 1) := by decide +kernel
theorem d_M_settle_115 : decode c_M_settle 115 = .ok (.iload_n 3, 1) := by decide +kernel
theorem d_M_settle_116 : decode c_M_settle 116 = .ok (.invokevirtual 186, 3) := by decide +kernel
theorem d_M_settle_119 : decode c_M_settle 119 = .ok (.iload_n 2, 1) := by decide +kernel
theorem d_M_settle_120 : decode c_M_settle 120 = .ok (.iload_n 3, 1) := by decide +kernel
theorem d_M_settle_121 : decode c_M_settle 121 = .ok (.iconst (-1), 1) := by decide +kernel
theorem d_M_settle_122 : decode c_M_settle 122 = .ok (.ixor, 1) := by decide +kernel
theorem d_M_settle_123 : decode c_M_settle 123 = .ok (.iand, 1) := by decide +kernel
theorem d_M_settle_124 : decode c_M_settle 124 = .ok (.istore_n 2, 1) := by decide +kernel
theorem d_M_settle_125 : decode c_M_settle 125 = .ok (.goto (-22), 3) := by decide +kernel
theorem d_M_settle_128 : decode c_M_settle 128 = .ok (.aload_n 0, 1) := by decide +kernel
theorem d_M_settle_129 : decode c_M_settle 129 = .ok (.getfield 70, 3) := by decide +kernel
theorem d_M_settle_132 : decode c_M_settle 132 = .ok (.iload_n 1, 1) := by decide +kernel
theorem d_M_settle_133 : decode c_M_settle 133 = .ok (.iaload, 1) := by decide +kernel
theorem d_M_settle_134 : decode c_M_settle 134 = .ok (.ireturn, 1) := by decide +kernel
theorem d_M_isTransfer_0 : decode c_M_isTransfer 0 = .ok (.aload_n 0, 1) := by decide +kernel
theorem d_M_isTransfer_1 : decode c_M_isTransfer 1 = .ok (.iload_n 1, 1) := by decide +kernel
theorem d_M_isTransfer_2 : decode c_M_isTransfer 2 = .ok (.invokevirtual 97, 3) := by decide +kernel
theorem d_M_isTransfer_5 : decode c_M_isTransfer 5 = .ok (.ifCond .eq 30, 3) := by decide +kernel
theorem d_M_isTransfer_8 : decode c_M_isTransfer 8 = .ok (.aload_n 0, 1) := by decide +kernel
theorem d_M_isTransfer_9 : decode c_M_isTransfer 9 = .ok (.getfield 61, 3) := by decide +kernel
theorem d_M_isTransfer_12 : decode c_M_isTransfer 12 = .ok (.iload_n 1, 1) := by decide +kernel
theorem d_M_isTransfer_13 : decode c_M_isTransfer 13 = .ok (.baload, 1) := by decide +kernel
theorem d_M_isTransfer_14 : decode c_M_isTransfer 14 = .ok (.ifCond .eq 21, 3) := by decide +kernel
theorem d_M_isTransfer_17 : decode c_M_isTransfer 17 = .ok (.iload_n 2, 1) := by decide +kernel
theorem d_M_isTransfer_18 : decode c_M_isTransfer 18 = .ok (.ifCond .lt 17, 3) := by decide +kernel
theorem d_M_isTransfer_21 : decode c_M_isTransfer 21 = .ok (.iload_n 2, 1) := by decide +kernel
theorem d_M_isTransfer_22 : decode c_M_isTransfer 22 = .ok (.aload_n 0, 1) := by decide +kernel
theorem d_M_isTransfer_23 : decode c_M_isTransfer 23 = .ok (.getfield 70, 3) := by decide +kernel
theorem d_M_isTransfer_26 : decode c_M_isTransfer 26 = .ok (.iload_n 1, 1) := by decide +kernel
theorem d_M_isTransfer_27 : decode c_M_isTransfer 27 = .ok (.iaload, 1) := by decide +kernel
theorem d_M_isTransfer_28 : decode c_M_isTransfer 28 = .ok (.if_icmp .ge 7, 3) := by decide +kernel
theorem d_M_isTransfer_31 : decode c_M_isTransfer 31 = .ok (.iconst 1, 1) := by decide +kernel
theorem d_M_isTransfer_32 : decode c_M_isTransfer 32 = .ok (.goto 4, 3) := by decide +kernel
theorem d_M_isTransfer_35 : decode c_M_isTransfer 35 = .ok (.iconst 0, 1) := by decide +kernel
theorem d_M_isTransfer_36 : decode c_M_isTransfer 36 = .ok (.ireturn, 1) := by decide +kernel
theorem d_M_transfer_0 : decode c_M_transfer 0 = .ok (.aload_n 0, 1) := by decide +kernel
theorem d_M_transfer_1 : decode c_M_transfer 1 = .ok (.aload_n 0, 1) := by decide +kernel
theorem d_M_transfer_2 : decode c_M_transfer 2 = .ok (.iload_n 1, 1) := by decide +kernel
theorem d_M_transfer_3 : decode c_M_transfer 3 = .ok (.iload_n 2, 1) := by decide +kernel
theorem d_M_transfer_4 : decode c_M_transfer 4 = .ok (.invokevirtual 190, 3) := by decide +kernel
theorem d_M_transfer_7 : decode c_M_transfer 7 = .ok (.ifCond .ne 7, 3) := by decide +kernel
theorem d_M_transfer_10 : decode c_M_transfer 10 = .ok (.iconst 1, 1) := by decide +kernel
theorem d_M_transfer_11 : decode c_M_transfer 11 = .ok (.goto 17, 3) := by decide +kernel
theorem d_M_transfer_14 : decode c_M_transfer 14 = .ok (.iload_n 3, 1) := by decide +kernel
theorem d_M_transfer_15 : decode c_M_transfer 15 = .ok (.ifCond .lt 8, 3) := by decide +kernel
theorem d_M_transfer_18 : decode c_M_transfer 18 = .ok (.iload_n 3, 1) := by decide +kernel
theorem d_M_transfer_19 : decode c_M_transfer 19 = .ok (.iconst 3, 1) := by decide +kernel
theorem d_M_transfer_20 : decode c_M_transfer 20 = .ok (.if_icmp .le 7, 3) := by decide +kernel
theorem d_M_transfer_23 : decode c_M_transfer 23 = .ok (.iconst 2, 1) := by decide +kernel
theorem d_M_transfer_24 : decode c_M_transfer 24 = .ok (.goto 4, 3) := by decide +kernel
theorem d_M_transfer_27 : decode c_M_transfer 27 = .ok (.iconst 0, 1) := by decide +kernel
theorem d_M_transfer_28 : decode c_M_transfer 28 = .ok (.putfield 91, 3) := by decide +kernel
theorem d_M_transfer_31 : decode c_M_transfer 31 = .ok (.aload_n 0, 1) := by decide +kernel
theorem d_M_transfer_32 : decode c_M_transfer 32 = .ok (.getfield 91, 3) := by decide +kernel
theorem d_M_transfer_35 : decode c_M_transfer 35 = .ok (.ifCond .eq 5, 3) := by decide +kernel
theorem d_M_transfer_38 : decode c_M_transfer 38 = .ok (.lconst 0, 1) := by decide +kernel
theorem d_M_transfer_39 : decode c_M_transfer 39 = .ok (.lreturn, 1) := by decide +kernel
theorem d_M_transfer_40 : decode c_M_transfer 40 = .ok (.bipush 11, 2) := by decide +kernel
theorem d_M_transfer_42 : decode c_M_transfer 42 = .ok (.iload_n 1, 1) := by decide +kernel
theorem d_M_transfer_43 : decode c_M_transfer 43 = .ok (.imul, 1) := by decide +kernel
theorem d_M_transfer_44 : decode c_M_transfer 44 = .ok (.iload_n 2, 1) := by decide +kernel
theorem d_M_transfer_45 : decode c_M_transfer 45 = .ok (.iadd, 1) := by decide +kernel
theorem d_M_transfer_46 : decode c_M_transfer 46 = .ok (.istore 4, 2) := by decide +kernel
theorem d_M_transfer_48 : decode c_M_transfer 48 = .ok (.iload_n 3, 1) := by decide +kernel
theorem d_M_transfer_49 : decode c_M_transfer 49 = .ok (.ifCond .ne 14, 3) := by decide +kernel
theorem d_M_transfer_52 : decode c_M_transfer 52 = .ok (.aload_n 0, 1) := by decide +kernel
theorem d_M_transfer_53 : decode c_M_transfer 53 = .ok (.getfield 73, 3) := by decide +kernel
theorem d_M_transfer_56 : decode c_M_transfer 56 = .ok (.iload 4, 2) := by decide +kernel
theorem d_M_transfer_58 : decode c_M_transfer 58 = .ok (.iaload, 1) := by decide +kernel
theorem d_M_transfer_59 : decode c_M_transfer 59 = .ok (.i2l, 1) := by decide +kernel
theorem d_M_transfer_60 : decode c_M_transfer 60 = .ok (.goto 49, 3) := by decide +kernel
theorem d_M_transfer_63 : decode c_M_transfer 63 = .ok (.iload_n 3, 1) := by decide +kernel
theorem d_M_transfer_64 : decode c_M_transfer 64 = .ok (.iconst 1, 1) := by decide +kernel
theorem d_M_transfer_65 : decode c_M_transfer 65 = .ok (.if_icmp .ne 14, 3) := by decide +kernel
theorem d_M_transfer_68 : decode c_M_transfer 68 = .ok (.aload_n 0, 1) := by decide +kernel
theorem d_M_transfer_69 : decode c_M_transfer 69 = .ok (.getfield 76, 3) := by decide +kernel
theorem d_M_transfer_72 : decode c_M_transfer 72 = .ok (.iload 4, 2) := by decide +kernel
theorem d_M_transfer_74 : decode c_M_transfer 74 = .ok (.iaload, 1) := by decide +kernel
theorem d_M_transfer_75 : decode c_M_transfer 75 = .ok (.i2l, 1) := by decide +kernel
theorem d_M_transfer_76 : decode c_M_transfer 76 = .ok (.goto 33, 3) := by decide +kernel
theorem d_M_transfer_79 : decode c_M_transfer 79 = .ok (.iload_n 3, 1) := by decide +kernel
theorem d_M_transfer_80 : decode c_M_transfer 80 = .ok (.iconst 2, 1) := by decide +kernel
theorem d_M_transfer_81 : decode c_M_transfer 81 = .ok (.if_icmp .ne 13, 3) := by decide +kernel
theorem d_M_transfer_84 : decode c_M_transfer 84 = .ok (.aload_n 0, 1) := by decide +kernel
theorem d_M_transfer_85 : decode c_M_transfer 85 = .ok (.getfield 79, 3) := by decide +kernel
theorem d_M_transfer_88 : decode c_M_transfer 88 = .ok (.iload 4, 2) := by decide +kernel
theorem d_M_transfer_90 : decode c_M_transfer 90 = .ok (.laload, 1) := by decide +kernel
theorem d_M_transfer_91 : decode c_M_transfer 91 = .ok (.goto 18, 3) := by decide +kernel
theorem d_M_transfer_94 : decode c_M_transfer 94 = .ok (.aload_n 0, 1) := by decide +kernel
theorem d_M_transfer_95 : decode c_M_transfer 95 = .ok (.getfield 82, 3) := by decide +kernel
theorem d_M_transfer_98 : decode c_M_transfer 98 = .ok (.iload 4, 2) := by decide +kernel
theorem d_M_transfer_100 : decode c_M_transfer 100 = .ok (.baload, 1) := by decide +kernel
theorem d_M_transfer_101 : decode c_M_transfer 101 = .ok (.ifCond .eq 7, 3) := by decide +kernel
theorem d_M_transfer_104 : decode c_M_transfer 104 = .ok (.lconst 1, 1) := by decide +kernel
theorem d_M_transfer_105 : decode c_M_transfer 105 = .ok (.goto 4, 3) := by decide +kernel
theorem d_M_transfer_108 : decode c_M_transfer 108 = .ok (.lconst 0, 1) := by decide +kernel
theorem d_M_transfer_109 : decode c_M_transfer 109 = .ok (.lreturn, 1) := by decide +kernel
theorem d_M_tick_0 : decode c_M_tick 0 = .ok (.aload_n 0, 1) := by decide +kernel
theorem d_M_tick_1 : decode c_M_tick 1 = .ok (.iconst 0, 1) := by decide +kernel
theorem d_M_tick_2 : decode c_M_tick 2 = .ok (.putfield 91, 3) := by decide +kernel
theorem d_M_tick_5 : decode c_M_tick 5 = .ok (.aload_n 0, 1) := by decide +kernel
theorem d_M_tick_6 : decode c_M_tick 6 = .ok (.iload_n 1, 1) := by decide +kernel
theorem d_M_tick_7 : decode c_M_tick 7 = .ok (.iload_n 2, 1) := by decide +kernel
theorem d_M_tick_8 : decode c_M_tick 8 = .ok (.invokevirtual 190, 3) := by decide +kernel
theorem d_M_tick_11 : decode c_M_tick 11 = .ok (.ifCond .eq 17, 3) := by decide +kernel
theorem d_M_tick_14 : decode c_M_tick 14 = .ok (.aload_n 0, 1) := by decide +kernel
theorem d_M_tick_15 : decode c_M_tick 15 = .ok (.getfield 82, 3) := by decide +kernel
theorem d_M_tick_18 : decode c_M_tick 18 = .ok (.bipush 11, 2) := by decide +kernel
theorem d_M_tick_20 : decode c_M_tick 20 = .ok (.iload_n 1, 1) := by decide +kernel
theorem d_M_tick_21 : decode c_M_tick 21 = .ok (.imul, 1) := by decide +kernel
theorem d_M_tick_22 : decode c_M_tick 22 = .ok (.iload_n 2, 1) := by decide +kernel
theorem d_M_tick_23 : decode c_M_tick 23 = .ok (.iadd, 1) := by decide +kernel
theorem d_M_tick_24 : decode c_M_tick 24 = .ok (.baload, 1) := by decide +kernel
theorem d_M_tick_25 : decode c_M_tick 25 = .ok (.ifCond .eq 5, 3) := by decide +kernel
theorem d_M_tick_28 : decode c_M_tick 28 = .ok (.iconst 0, 1) := by decide +kernel
theorem d_M_tick_29 : decode c_M_tick 29 = .ok (.ireturn, 1) := by decide +kernel
theorem d_M_tick_30 : decode c_M_tick 30 = .ok (.bipush 11, 2) := by decide +kernel
theorem d_M_tick_32 : decode c_M_tick 32 = .ok (.iload_n 1, 1) := by decide +kernel
theorem d_M_tick_33 : decode c_M_tick 33 = .ok (.imul, 1) := by decide +kernel
theorem d_M_tick_34 : decode c_M_tick 34 = .ok (.iload_n 2, 1) := by decide +kernel
theorem d_M_tick_35 : decode c_M_tick 35 = .ok (.iadd, 1) := by decide +kernel
theorem d_M_tick_36 : decode c_M_tick 36 = .ok (.istore_n 3, 1) := by decide +kernel
theorem d_M_tick_37 : decode c_M_tick 37 = .ok (.aload_n 0, 1) := by decide +kernel
theorem d_M_tick_38 : decode c_M_tick 38 = .ok (.getfield 82, 3) := by decide +kernel
theorem d_M_tick_41 : decode c_M_tick 41 = .ok (.iload_n 3, 1) := by decide +kernel
theorem d_M_tick_42 : decode c_M_tick 42 = .ok (.iconst 1, 1) := by decide +kernel
theorem d_M_tick_43 : decode c_M_tick 43 = .ok (.bastore, 1) := by decide +kernel
theorem d_M_tick_44 : decode c_M_tick 44 = .ok (.aload_n 0, 1) := by decide +kernel
theorem d_M_tick_45 : decode c_M_tick 45 = .ok (.getfield 58, 3) := by decide +kernel
theorem d_M_tick_48 : decode c_M_tick 48 = .ok (.bipush 12, 2) := by decide +kernel
theorem d_M_tick_50 : decode c_M_tick 50 = .ok (.iload_n 1, 1) := by decide +kernel
theorem d_M_tick_51 : decode c_M_tick 51 = .ok (.imul, 1) := by decide +kernel
theorem d_M_tick_52 : decode c_M_tick 52 = .ok (.aload_n 0, 1) := by decide +kernel
theorem d_M_tick_53 : decode c_M_tick 53 = .ok (.getfield 73, 3) := by decide +kernel
theorem d_M_tick_56 : decode c_M_tick 56 = .ok (.iload_n 3, 1) := by decide +kernel
theorem d_M_tick_57 : decode c_M_tick 57 = .ok (.iaload, 1) := by decide +kernel
theorem d_M_tick_58 : decode c_M_tick 58 = .ok (.iadd, 1) := by decide +kernel
theorem d_M_tick_59 : decode c_M_tick 59 = .ok (.dup2, 1) := by decide +kernel
theorem d_M_tick_60 : decode c_M_tick 60 = .ok (.laload, 1) := by decide +kernel
theorem d_M_tick_61 : decode c_M_tick 61 = .ok (.aload_n 0, 1) := by decide +kernel
theorem d_M_tick_62 : decode c_M_tick 62 = .ok (.getfield 79, 3) := by decide +kernel
theorem d_M_tick_65 : decode c_M_tick 65 = .ok (.iload_n 3, 1) := by decide +kernel
theorem d_M_tick_66 : decode c_M_tick 66 = .ok (.laload, 1) := by decide +kernel
theorem d_M_tick_67 : decode c_M_tick 67 = .ok (.ladd, 1) := by decide +kernel
theorem d_M_tick_68 : decode c_M_tick 68 = .ok (.lastore, 1) := by decide +kernel
theorem d_M_tick_69 : decode c_M_tick 69 = .ok (.aload_n 0, 1) := by decide +kernel
theorem d_M_tick_70 : decode c_M_tick 70 = .ok (.getfield 58, 3) := by decide +kernel
theorem d_M_tick_73 : decode c_M_tick 73 = .ok (.bipush 12, 2) := by decide +kernel
theorem d_M_tick_75 : decode c_M_tick 75 = .ok (.iload_n 1, 1) := by decide +kernel
theorem d_M_tick_76 : decode c_M_tick 76 = .ok (.imul, 1) := by decide +kernel
theorem d_M_tick_77 : decode c_M_tick 77 = .ok (.aload_n 0, 1) := by decide +kernel
theorem d_M_tick_78 : decode c_M_tick 78 = .ok (.getfield 76, 3) := by decide +kernel
theorem d_M_tick_81 : decode c_M_tick 81 = .ok (.iload_n 3, 1) := by decide +kernel
theorem d_M_tick_82 : decode c_M_tick 82 = .ok (.iaload, 1) := by decide +kernel
theorem d_M_tick_83 : decode c_M_tick 83 = .ok (.iadd, 1) := by decide +kernel
theorem d_M_tick_84 : decode c_M_tick 84 = .ok (.dup2, 1) := by decide +kernel
theorem d_M_tick_85 : decode c_M_tick 85 = .ok (.laload, 1) := by decide +kernel
theorem d_M_tick_86 : decode c_M_tick 86 = .ok (.aload_n 0, 1) := by decide +kernel
theorem d_M_tick_87 : decode c_M_tick 87 = .ok (.getfield 79, 3) := by decide +kernel
theorem d_M_tick_90 : decode c_M_tick 90 = .ok (.iload_n 3, 1) := by decide +kernel
theorem d_M_tick_91 : decode c_M_tick 91 = .ok (.laload, 1) := by decide +kernel
theorem d_M_tick_92 : decode c_M_tick 92 = .ok (.lsub, 1) := by decide +kernel
theorem d_M_tick_93 : decode c_M_tick 93 = .ok (.lastore, 1) := by decide +kernel
theorem d_M_tick_94 : decode c_M_tick 94 = .ok (.iconst 1, 1) := by decide +kernel
theorem d_M_tick_95 : decode c_M_tick 95 = .ok (.ireturn, 1) := by decide +kernel
theorem d_M_unticked_0 : decode c_M_unticked 0 = .ok (.iconst 0, 1) := by decide +kernel
theorem d_M_unticked_1 : decode c_M_unticked 1 = .ok (.istore_n 2, 1) := by decide +kernel
theorem d_M_unticked_2 : decode c_M_unticked 2 = .ok (.iconst 0, 1) := by decide +kernel
theorem d_M_unticked_3 : decode c_M_unticked 3 = .ok (.istore_n 3, 1) := by decide +kernel
theorem d_M_unticked_4 : decode c_M_unticked 4 = .ok (.iload_n 3, 1) := by decide +kernel
theorem d_M_unticked_5 : decode c_M_unticked 5 = .ok (.aload_n 0, 1) := by decide +kernel
theorem d_M_unticked_6 : decode c_M_unticked 6 = .ok (.getfield 70, 3) := by decide +kernel
theorem d_M_unticked_9 : decode c_M_unticked 9 = .ok (.iload_n 1, 1) := by decide +kernel
theorem d_M_unticked_10 : decode c_M_unticked 10 = .ok (.iaload, 1) := by decide +kernel
theorem d_M_unticked_11 : decode c_M_unticked 11 = .ok (.if_icmp .ge 31, 3) := by decide +kernel
theorem d_M_unticked_14 : decode c_M_unticked 14 = .ok (.iload_n 2, 1) := by decide +kernel
theorem d_M_unticked_15 : decode c_M_unticked 15 = .ok (.aload_n 0, 1) := by decide +kernel
theorem d_M_unticked_16 : decode c_M_unticked 16 = .ok (.getfield 82, 3) := by decide +kernel
theorem d_M_unticked_19 : decode c_M_unticked 19 = .ok (.bipush 11, 2) := by decide +kernel
theorem d_M_unticked_21 : decode c_M_unticked 21 = .ok (.iload_n 1, 1) := by decide +kernel
theorem d_M_unticked_22 : decode c_M_unticked 22 = .ok (.imul, 1) := by decide +kernel
theorem d_M_unticked_23 : decode c_M_unticked 23 = .ok (.iload_n 3, 1) := by decide +kernel
theorem d_M_unticked_24 : decode c_M_unticked 24 = .ok (.iadd, 1) := by decide +kernel
theorem d_M_unticked_25 : decode c_M_unticked 25 = .ok (.baload, 1) := by decide +kernel
theorem d_M_unticked_26 : decode c_M_unticked 26 = .ok (.ifCond .eq 7, 3) := by decide +kernel
theorem d_M_unticked_29 : decode c_M_unticked 29 = .ok (.iconst 0, 1) := by decide +kernel
theorem d_M_unticked_30 : decode c_M_unticked 30 = .ok (.goto 4, 3) := by decide +kernel
theorem d_M_unticked_33 : decode c_M_unticked 33 = .ok (.iconst 1, 1) := by decide +kernel
theorem d_M_unticked_34 : decode c_M_unticked 34 = .ok (.iadd, 1) := by decide +kernel
theorem d_M_unticked_35 : decode c_M_unticked 35 = .ok (.istore_n 2, 1) := by decide +kernel
theorem d_M_unticked_36 : decode c_M_unticked 36 = .ok (.iinc 3 1, 3) := by decide +kernel
theorem d_M_unticked_39 : decode c_M_unticked 39 = .ok (.goto (-35), 3) := by decide +kernel
theorem d_M_unticked_42 : decode c_M_unticked 42 = .ok (.iload_n 2, 1) := by decide +kernel
theorem d_M_unticked_43 : decode c_M_unticked 43 = .ok (.ireturn, 1) := by decide +kernel
theorem d_M_giveUp_0 : decode c_M_giveUp 0 = .ok (.aload_n 0, 1) := by decide +kernel
theorem d_M_giveUp_1 : decode c_M_giveUp 1 = .ok (.iconst 0, 1) := by decide +kernel
theorem d_M_giveUp_2 : decode c_M_giveUp 2 = .ok (.putfield 91, 3) := by decide +kernel
theorem d_M_giveUp_5 : decode c_M_giveUp 5 = .ok (.aload_n 0, 1) := by decide +kernel
theorem d_M_giveUp_6 : decode c_M_giveUp 6 = .ok (.iload_n 1, 1) := by decide +kernel
theorem d_M_giveUp_7 : decode c_M_giveUp 7 = .ok (.invokevirtual 97, 3) := by decide +kernel
theorem d_M_giveUp_10 : decode c_M_giveUp 10 = .ok (.ifCond .eq 12, 3) := by decide +kernel
theorem d_M_giveUp_13 : decode c_M_giveUp 13 = .ok (.aload_n 0, 1) := by decide +kernel
theorem d_M_giveUp_14 : decode c_M_giveUp 14 = .ok (.getfield 61, 3) := by decide +kernel
theorem d_M_giveUp_17 : decode c_M_giveUp 17 = .ok (.iload_n 1, 1) := by decide +kernel
theorem d_M_giveUp_18 : decode c_M_giveUp 18 = .ok (.baload, 1) := by decide +kernel
theorem d_M_giveUp_19 : decode c_M_giveUp 19 = .ok (.ifCond .ne 5, 3) := by decide +kernel
theorem d_M_giveUp_22 : decode c_M_giveUp 22 = .ok (.iconst (-1), 1) := by decide +kernel
theorem d_M_giveUp_23 : decode c_M_giveUp 23 = .ok (.ireturn, 1) := by decide +kernel
theorem d_M_giveUp_24 : decode c_M_giveUp 24 = .ok (.aload_n 0, 1) := by decide +kernel
theorem d_M_giveUp_25 : decode c_M_giveUp 25 = .ok (.getfield 61, 3) := by decide +kernel
theorem d_M_giveUp_28 : decode c_M_giveUp 28 = .ok (.iload_n 1, 1) := by decide +kernel
theorem d_M_giveUp_29 : decode c_M_giveUp 29 = .ok (.iconst 0, 1) := by decide +kernel
theorem d_M_giveUp_30 : decode c_M_giveUp 30 = .ok (.bastore, 1) := by decide +kernel
theorem d_M_giveUp_31 : decode c_M_giveUp 31 = .ok (.aload_n 0, 1) := by decide +kernel
theorem d_M_giveUp_32 : decode c_M_giveUp 32 = .ok (.iload_n 1, 1) := by decide +kernel
theorem d_M_giveUp_33 : decode c_M_giveUp 33 = .ok (.invokevirtual 193, 3) := by decide +kernel
theorem d_M_giveUp_36 : decode c_M_giveUp 36 = .ok (.ireturn, 1) := by decide +kernel
theorem d_M_close_0 : decode c_M_close 0 = .ok (.aload_n 0, 1) := by decide +kernel
theorem d_M_close_1 : decode c_M_close 1 = .ok (.iconst 0, 1) := by decide +kernel
theorem d_M_close_2 : decode c_M_close 2 = .ok (.putfield 91, 3) := by decide +kernel
theorem d_M_close_5 : decode c_M_close 5 = .ok (.aload_n 0, 1) := by decide +kernel
theorem d_M_close_6 : decode c_M_close 6 = .ok (.iload_n 1, 1) := by decide +kernel
theorem d_M_close_7 : decode c_M_close 7 = .ok (.invokevirtual 97, 3) := by decide +kernel
theorem d_M_close_10 : decode c_M_close 10 = .ok (.ifCond .eq 20, 3) := by decide +kernel
theorem d_M_close_13 : decode c_M_close 13 = .ok (.aload_n 0, 1) := by decide +kernel
theorem d_M_close_14 : decode c_M_close 14 = .ok (.getfield 61, 3) := by decide +kernel
theorem d_M_close_17 : decode c_M_close 17 = .ok (.iload_n 1, 1) := by decide +kernel
theorem d_M_close_18 : decode c_M_close 18 = .ok (.baload, 1) := by decide +kernel
theorem d_M_close_19 : decode c_M_close 19 = .ok (.ifCond .eq 11, 3) := by decide +kernel
theorem d_M_close_22 : decode c_M_close 22 = .ok (.aload_n 0, 1) := by decide +kernel
theorem d_M_close_23 : decode c_M_close 23 = .ok (.iload_n 1, 1) := by decide +kernel
theorem d_M_close_24 : decode c_M_close 24 = .ok (.invokevirtual 193, 3) := by decide +kernel
theorem d_M_close_27 : decode c_M_close 27 = .ok (.ifCond .le 5, 3) := by decide +kernel
theorem d_M_close_30 : decode c_M_close 30 = .ok (.iconst 0, 1) := by decide +kernel
theorem d_M_close_31 : decode c_M_close 31 = .ok (.ireturn, 1) := by decide +kernel
theorem d_M_close_32 : decode c_M_close 32 = .ok (.aload_n 0, 1) := by decide +kernel
theorem d_M_close_33 : decode c_M_close 33 = .ok (.getfield 61, 3) := by decide +kernel
theorem d_M_close_36 : decode c_M_close 36 = .ok (.iload_n 1, 1) := by decide +kernel
theorem d_M_close_37 : decode c_M_close 37 = .ok (.iconst 0, 1) := by decide +kernel
theorem d_M_close_38 : decode c_M_close 38 = .ok (.bastore, 1) := by decide +kernel
theorem d_M_close_39 : decode c_M_close 39 = .ok (.iconst 1, 1) := by decide +kernel
theorem d_M_close_40 : decode c_M_close 40 = .ok (.ireturn, 1) := by decide +kernel
theorem d_M_count_0 : decode c_M_count 0 = .ok (.aload_n 0, 1) := by decide +kernel
theorem d_M_count_1 : decode c_M_count 1 = .ok (.iconst 0, 1) := by decide +kernel
theorem d_M_count_2 : decode c_M_count 2 = .ok (.putfield 91, 3) := by decide +kernel
theorem d_M_count_5 : decode c_M_count 5 = .ok (.aload_n 0, 1) := by decide +kernel
theorem d_M_count_6 : decode c_M_count 6 = .ok (.iload_n 1, 1) := by decide +kernel
theorem d_M_count_7 : decode c_M_count 7 = .ok (.invokevirtual 97, 3) := by decide +kernel
theorem d_M_count_10 : decode c_M_count 10 = .ok (.ifCond .ne 5, 3) := by decide +kernel
theorem d_M_count_13 : decode c_M_count 13 = .ok (.iconst (-1), 1) := by decide +kernel
theorem d_M_count_14 : decode c_M_count 14 = .ok (.ireturn, 1) := by decide +kernel
theorem d_M_count_15 : decode c_M_count 15 = .ok (.iload_n 2, 1) := by decide +kernel
theorem d_M_count_16 : decode c_M_count 16 = .ok (.tableswitch 85 0 3 #[32, 39, 59, 78], 32) := by decide +kernel
theorem d_M_count_48 : decode c_M_count 48 = .ok (.aload_n 0, 1) := by decide +kernel
theorem d_M_count_49 : decode c_M_count 49 = .ok (.getfield 7, 3) := by decide +kernel
theorem d_M_count_52 : decode c_M_count 52 = .ok (.iload_n 1, 1) := by decide +kernel
theorem d_M_count_53 : decode c_M_count 53 = .ok (.iaload, 1) := by decide +kernel
theorem d_M_count_54 : decode c_M_count 54 = .ok (.ireturn, 1) := by decide +kernel
theorem d_M_count_55 : decode c_M_count 55 = .ok (.aload_n 0, 1) := by decide +kernel
theorem d_M_count_56 : decode c_M_count 56 = .ok (.getfield 61, 3) := by decide +kernel
theorem d_M_count_59 : decode c_M_count 59 = .ok (.iload_n 1, 1) := by decide +kernel
theorem d_M_count_60 : decode c_M_count 60 = .ok (.baload, 1) := by decide +kernel
theorem d_M_count_61 : decode c_M_count 61 = .ok (.ifCond .eq 12, 3) := by decide +kernel
theorem d_M_count_64 : decode c_M_count 64 = .ok (.aload_n 0, 1) := by decide +kernel
theorem d_M_count_65 : decode c_M_count 65 = .ok (.getfield 64, 3) := by decide +kernel
theorem d_M_count_68 : decode c_M_count 68 = .ok (.iload_n 1, 1) := by decide +kernel
theorem d_M_count_69 : decode c_M_count 69 = .ok (.iaload, 1) := by decide +kernel
theorem d_M_count_70 : decode c_M_count 70 = .ok (.goto 4, 3) := by decide +kernel
theorem d_M_count_73 : decode c_M_count 73 = .ok (.iconst (-1), 1) := by decide +kernel
theorem d_M_count_74 : decode c_M_count 74 = .ok (.ireturn, 1) := by decide +kernel
theorem d_M_count_75 : decode c_M_count 75 = .ok (.aload_n 0, 1) := by decide +kernel
theorem d_M_count_76 : decode c_M_count 76 = .ok (.getfield 61, 3) := by decide +kernel
theorem d_M_count_79 : decode c_M_count 79 = .ok (.iload_n 1, 1) := by decide +kernel
theorem d_M_count_80 : decode c_M_count 80 = .ok (.baload, 1) := by decide +kernel
theorem d_M_count_81 : decode c_M_count 81 = .ok (.ifCond .eq 11, 3) := by decide +kernel
theorem d_M_count_84 : decode c_M_count 84 = .ok (.aload_n 0, 1) := by decide +kernel
theorem d_M_count_85 : decode c_M_count 85 = .ok (.iload_n 1, 1) := by decide +kernel
theorem d_M_count_86 : decode c_M_count 86 = .ok (.invokevirtual 193, 3) := by decide +kernel
theorem d_M_count_89 : decode c_M_count 89 = .ok (.goto 4, 3) := by decide +kernel
theorem d_M_count_92 : decode c_M_count 92 = .ok (.iconst (-1), 1) := by decide +kernel
theorem d_M_count_93 : decode c_M_count 93 = .ok (.ireturn, 1) := by decide +kernel
theorem d_M_count_94 : decode c_M_count 94 = .ok (.aload_n 0, 1) := by decide +kernel
theorem d_M_count_95 : decode c_M_count 95 = .ok (.getfield 13, 3) := by decide +kernel
theorem d_M_count_98 : decode c_M_count 98 = .ok (.iload_n 1, 1) := by decide +kernel
theorem d_M_count_99 : decode c_M_count 99 = .ok (.iaload, 1) := by decide +kernel
theorem d_M_count_100 : decode c_M_count 100 = .ok (.ireturn, 1) := by decide +kernel
theorem d_M_count_101 : decode c_M_count 101 = .ok (.iconst (-1), 1) := by decide +kernel
theorem d_M_count_102 : decode c_M_count 102 = .ok (.ireturn, 1) := by decide +kernel
theorem d_M_groupOf_0 : decode c_M_groupOf 0 = .ok (.aload_n 0, 1) := by decide +kernel
theorem d_M_groupOf_1 : decode c_M_groupOf 1 = .ok (.iconst 0, 1) := by decide +kernel
theorem d_M_groupOf_2 : decode c_M_groupOf 2 = .ok (.putfield 91, 3) := by decide +kernel
theorem d_M_groupOf_5 : decode c_M_groupOf 5 = .ok (.aload_n 0, 1) := by decide +kernel
theorem d_M_groupOf_6 : decode c_M_groupOf 6 = .ok (.iload_n 1, 1) := by decide +kernel
theorem d_M_groupOf_7 : decode c_M_groupOf 7 = .ok (.iload_n 2, 1) := by decide +kernel
theorem d_M_groupOf_8 : decode c_M_groupOf 8 = .ok (.invokevirtual 103, 3) := by decide +kernel
theorem d_M_groupOf_11 : decode c_M_groupOf 11 = .ok (.ifCond .eq 26, 3) := by decide +kernel
theorem d_M_groupOf_14 : decode c_M_groupOf 14 = .ok (.aload_n 0, 1) := by decide +kernel
theorem d_M_groupOf_15 : decode c_M_groupOf 15 = .ok (.getfield 61, 3) := by decide +kernel
theorem d_M_groupOf_18 : decode c_M_groupOf 18 = .ok (.iload_n 1, 1) := by decide +kernel
theorem d_M_groupOf_19 : decode c_M_groupOf 19 = .ok (.baload, 1) := by decide +kernel
theorem d_M_groupOf_20 : decode c_M_groupOf 20 = .ok (.ifCond .eq 17, 3) := by decide +kernel
theorem d_M_groupOf_23 : decode c_M_groupOf 23 = .ok (.aload_n 0, 1) := by decide +kernel
theorem d_M_groupOf_24 : decode c_M_groupOf 24 = .ok (.getfield 67, 3) := by decide +kernel
theorem d_M_groupOf_27 : decode c_M_groupOf 27 = .ok (.bipush 12, 2) := by decide +kernel
theorem d_M_groupOf_29 : decode c_M_groupOf 29 = .ok (.iload_n 1, 1) := by decide +kernel
theorem d_M_groupOf_30 : decode c_M_groupOf 30 = .ok (.imul, 1) := by decide +kernel
theorem d_M_groupOf_31 : decode c_M_groupOf 31 = .ok (.iload_n 2, 1) := by decide +kernel
theorem d_M_groupOf_32 : decode c_M_groupOf 32 = .ok (.iadd, 1) := by decide +kernel
theorem d_M_groupOf_33 : decode c_M_groupOf 33 = .ok (.iaload, 1) := by decide +kernel
theorem d_M_groupOf_34 : decode c_M_groupOf 34 = .ok (.goto 4, 3) := by decide +kernel
theorem d_M_groupOf_37 : decode c_M_groupOf 37 = .ok (.iconst (-1), 1) := by decide +kernel
theorem d_M_groupOf_38 : decode c_M_groupOf 38 = .ok (.ireturn, 1) := by decide +kernel
end
section
theorem gup_gup (u : gW) (n : Nat) (e e' : va_E) : gup (gup u n e) n e' = gup u n e' := by
  funext k
  simp only [gup]
  split <;> rfl
theorem gup_id {u : gW} {n : Nat} {e : va_E} (h : u n = some e) : gup u n e = u := by
  funext k
  simp only [gup]
  split
  · next hk => rw [hk, h]
  · rfl
theorem gup_comm {u : gW} {n k : Nat} {e e' : va_E} (h : n ≠ k) : gup (gup u n e) k e' = gup (gup u k e') n e := by
  funext j
  simp only [gup]
  by_cases h1 : j = k
  · have : ¬ j = n := fun h2 => h (h2.symm.trans h1)
    simp [h1, Ne.symm h]
  · simp [h1]
section GLOOP
variable {Z : gZ} {R : Room} {nL : Nat} {E : gE} {ad : Nat → Nat} {sz cells slots pc : Nat} {st : List Value}
theorem GW_eq {u u2 : gW} {lv lv2 : List (Nat × Value)} (hu : u = u2) (hl : lv = lv2) (k : GW Z R nL E ad u2 sz lv2 cells slots pc st) : GW Z R nL E ad u sz lv cells slots pc st := by rw [hu, hl]; exact k
theorem g_loop (N : Nat) (P : Nat → Prop) (w : Nat → gW) (lv : Nat → List (Nat × Value)) (hs : ∀ i, i < N → P i → (P (i + 1) → GW Z R nL E ad (w (i + 1)) sz (lv (i + 1)) cells slots pc st) → GW Z R nL E ad (w i) sz (lv i) cells slots pc st) (hx : P N → GW Z R nL E ad (w N) sz (lv N) cells slots pc st) : ∀ i, i ≤ N → P i → GW Z R nL E ad (w i) sz (lv i) cells slots pc st := by
  have H : ∀ n i, i + n = N → P i → GW Z R nL E ad (w i) sz (lv i) cells slots pc st := by
    intro n
    induction n with
    | zero => intro i h hp; have e : i = N := by omega
              subst e; exact hx hp
    | succ n ih => intro i h hp; exact hs i (by omega) hp (ih (i + 1) (by omega))
  exact fun i h => H (N - i) i (by omega)
end GLOOP
theorem ge12 {i : Nat} (h : i < 12) : ¬ (12 : Int32) ≤ nI i := (show ∀ i, i < 12 → ¬ (12 : Int32) ≤ nI i by decide +kernel) i h
theorem in12 {i : Nat} (h : i < 12) : vp_in (nI i) 12 := vp_in_nI h (by decide)
theorem cl12 {i : Nat} (h : i < 12) : (nI i).toNatClampNeg = i := nI_clamp (by omega)
/-- the first i places of an array are all v -/
def fillI (f : Nat → Int32) (v : Int32) (i : Nat) : Nat → Int32 := fun j => if j < i then v else f j
def fillL (f : Nat → Int64) (v : Int64) (i : Nat) : Nat → Int64 := fun j => if j < i then v else f j
theorem fillI_0 (f : Nat → Int32) (v : Int32) : fillI f v 0 = f := by funext j; simp [fillI]
theorem fillL_0 (f : Nat → Int64) (v : Int64) : fillL f v 0 = f := by funext j; simp [fillL]
theorem fillI_s (f : Nat → Int32) (v : Int32) (i : Nat) : upd (fillI f v i) i v = fillI f v (i + 1) := by
  funext j
  simp only [upd, fillI]
  repeat' split
  all_goals first | rfl | omega
theorem fillL_s (f : Nat → Int64) (v : Int64) (i : Nat) : vp_updL (fillL f v i) i v = fillL f v (i + 1) := by
  funext j
  simp only [vp_updL, fillL]
  repeat' split
  all_goals first | rfl | omega
theorem in12x {x : Int32} (h0 : ¬ x < 0) (h : x < 12) : vp_in x 12 := by
  rw [vp_in_iff]
  rw [Int32.lt_iff_toInt_lt] at h0 h
  have e1 : (0 : Int32).toInt = 0 := by decide
  have e2 : (12 : Int32).toInt = 12 := by decide
  omega
/-- the first i places are g's, the others f's -/
def mapL (f g : Nat → Int64) (i : Nat) : Nat → Int64 := fun j => if j < i then g j else f j
def mapI (f g : Nat → Int32) (i : Nat) : Nat → Int32 := fun j => if j < i then g j else f j
theorem mapL_0 (f g : Nat → Int64) : mapL f g 0 = f := by funext j; simp [mapL]
theorem mapI_0 (f g : Nat → Int32) : mapI f g 0 = f := by funext j; simp [mapI]
theorem mapL_at (f g : Nat → Int64) (i : Nat) : mapL f g i i = f i := by simp [mapL]
theorem mapI_at (f g : Nat → Int32) (i : Nat) : mapI f g i i = f i := by simp [mapI]
theorem mapL_s {f g : Nat → Int64} {i : Nat} {x : Int64} (h : x = g i) : vp_updL (mapL f g i) i x = mapL f g (i + 1) := by
  funext j
  simp only [vp_updL, mapL]
  by_cases h1 : j = i
  · subst h1; simp [h]
  · by_cases h2 : j < i
    · simp [h1, h2, show j < i + 1 by omega]
    · simp [h1, h2, show ¬ j < i + 1 by omega]
theorem mapI_s {f g : Nat → Int32} {i : Nat} {x : Int32} (h : x = g i) : upd (mapI f g i) i x = mapI f g (i + 1) := by
  funext j
  simp only [upd, mapI]
  by_cases h1 : j = i
  · subst h1; simp [h]
  · by_cases h2 : j < i
    · simp [h1, h2, show j < i + 1 by omega]
    · simp [h1, h2, show ¬ j < i + 1 by omega]
theorem mapL_k {f g : Nat → Int64} {i : Nat} (h : g i = f i) : mapL f g (i + 1) = mapL f g i := by
  funext j
  simp only [mapL]
  by_cases h1 : j = i
  · subst h1; simp [h]
  · by_cases h2 : j < i
    · simp [h2, show j < i + 1 by omega]
    · simp [h2, show ¬ j < i + 1 by omega]
/-- sums -/
def sumL (f : Nat → Int64) : Nat → Int64
  | 0 => 0
  | i + 1 => sumL f i + f i
end
section
/-- a truth value as the machine has it -/
def bI (b : Bool) : Int32 := if b then 1 else 0
theorem bI_t : bI true = 1 := rfl
theorem bI_f : bI false = 0 := rfl
theorem bI_eq0 {b : Bool} : bI b = 0 ↔ b = false := by cases b <;> decide
theorem bI_ne0 {b : Bool} : ¬ bI b = 0 ↔ b = true := by cases b <;> decide
def isMb (m mc : Int32) : Bool := !decide (m < 0) && !decide (mc ≤ m)
def gBit (go m : Int32) : Bool := !decide ((go >>> (m &&& 31)) &&& 1 = 0)
def isPr (m mc go : Int32) : Bool := isMb m mc && !gBit go m
def prSet (mc go : Int32) : Int32 := ((1 <<< (mc &&& 31)) - 1) &&& (go ^^^ (-1))

set_option maxHeartbeats 4000000 in
set_option maxRecDepth 100000 in
/-- Club.isMember -/
theorem k_C_isMember (l : Launch) (X : gX) (ad : Nat → Nat) (u : gW) (sz : Nat) (b : Nat) (r0 r1 r2 : Value) (mc go mk : Int32) (m : Int32) (hb : u b = some (.inr (1, [r0, r1, r2, .int mc, .int go, .int mk])))  : gMet l (EE X) y_C_isMember c_C_isMember 2 (some .boolean) ({ frames := 0, cells := 0, slots := 0, locals := 0 }) [.ref (ad b), .int m] ad u sz (fun v u' sz' => v = some (.int (bI (isMb m mc))) ∧ u' = u ∧ sz' = sz) := by
  refine gMet_of "ExpenseClubs$Club" rfl (by decide) (Nat.le_of_ble_eq_true rfl) (lv := [(0, .ref (ad b)), (1, .int m)]) rfl (fun Z hZl C hR hret hname => ?_)
  refine g_iload_n C d_C_isMember_0 rfl 1 rfl ?_
  refine g_if_lt 16 C d_C_isMember_1 (by decide) (fun c1 => ?_) (fun c1 => ?_)
  · skip
    refine g_iconst (v := 0) C d_C_isMember_16 (by decide) ?_
    exact g_zret C hR hret rfl ⟨by simp_all [bI, isMb], rfl, rfl⟩ d_C_isMember_17
  · skip
    refine g_iload_n C d_C_isMember_4 rfl 1 rfl ?_
    refine g_aload_n C d_C_isMember_5 rfl 0 rfl ?_
    refine g_get b 3 C hb rfl i_C (by decide) (gmem wd_166 rfl) rfl rfl d_C_isMember_6 ?_
    refine g_icmp_ge 16 C d_C_isMember_9 (by decide) (fun c9 => ?_) (fun c9 => ?_)
    · skip
      refine g_iconst (v := 0) C d_C_isMember_16 (by decide) ?_
      exact g_zret C hR hret rfl ⟨by simp_all [bI, isMb], rfl, rfl⟩ d_C_isMember_17
    · skip
      refine g_iconst (v := 1) C d_C_isMember_12 (by decide) ?_
      refine g_goto 17 C d_C_isMember_13 (by decide) ?_
      exact g_zret C hR hret rfl ⟨by simp_all [bI, isMb], rfl, rfl⟩ d_C_isMember_17

set_option maxHeartbeats 4000000 in
set_option maxRecDepth 100000 in
/-- Club.isGone -/
theorem k_C_isGone (l : Launch) (X : gX) (ad : Nat → Nat) (u : gW) (sz : Nat) (b : Nat) (r0 r1 r2 : Value) (mc go mk : Int32) (m : Int32) (hb : u b = some (.inr (1, [r0, r1, r2, .int mc, .int go, .int mk])))  : gMet l (EE X) y_C_isGone c_C_isGone 2 (some .boolean) ({ frames := 0, cells := 0, slots := 0, locals := 0 }) [.ref (ad b), .int m] ad u sz (fun v u' sz' => v = some (.int (bI (gBit go m))) ∧ u' = u ∧ sz' = sz) := by
  refine gMet_of "ExpenseClubs$Club" rfl (by decide) (Nat.le_of_ble_eq_true rfl) (lv := [(0, .ref (ad b)), (1, .int m)]) rfl (fun Z hZl C hR hret hname => ?_)
  refine g_aload_n C d_C_isGone_0 rfl 0 rfl ?_
  refine g_get b 4 C hb rfl i_C (by decide) (gmem wd_168 rfl) rfl rfl d_C_isGone_1 ?_
  refine g_iload_n C d_C_isGone_4 rfl 1 rfl ?_
  refine g_ishr C d_C_isGone_5 ?_
  refine g_iconst (v := 1) C d_C_isGone_6 (by decide) ?_
  refine g_iand C d_C_isGone_7 ?_
  refine g_if_eq 15 C d_C_isGone_8 (by decide) (fun c8 => ?_) (fun c8 => ?_)
  · skip
    refine g_iconst (v := 0) C d_C_isGone_15 (by decide) ?_
    exact g_zret C hR hret rfl ⟨by simp_all [bI, gBit], rfl, rfl⟩ d_C_isGone_16
  · skip
    refine g_iconst (v := 1) C d_C_isGone_11 (by decide) ?_
    refine g_goto 16 C d_C_isGone_12 (by decide) ?_
    exact g_zret C hR hret rfl ⟨by simp_all [bI, gBit], rfl, rfl⟩ d_C_isGone_16

set_option maxHeartbeats 4000000 in
set_option maxRecDepth 100000 in
/-- Club.isPresent -/
theorem k_C_isPresent (l : Launch) (X : gX) (ad : Nat → Nat) (u : gW) (sz : Nat) (b : Nat) (r0 r1 r2 : Value) (mc go mk : Int32) (m : Int32) (hb : u b = some (.inr (1, [r0, r1, r2, .int mc, .int go, .int mk])))  : gMet l (EE X) y_C_isPresent c_C_isPresent 2 (some .boolean) ({ frames := 1, cells := 0, slots := 0, locals := 21 }) [.ref (ad b), .int m] ad u sz (fun v u' sz' => v = some (.int (bI (isPr m mc go))) ∧ u' = u ∧ sz' = sz) := by
  refine gMet_of "ExpenseClubs$Club" rfl (by decide) (Nat.le_of_ble_eq_true rfl) (lv := [(0, .ref (ad b)), (1, .int m)]) rfl (fun Z hZl C hR hret hname => ?_)
  refine g_aload_n C d_C_isPresent_0 rfl 0 rfl ?_
  refine g_iload_n C d_C_isPresent_1 rfl 1 rfl ?_
  refine g_callV 1 C (k_C_isMember _ X ad u sz b r0 r1 r2 mc go mk m hb) (gmem wd_201 rfl) (gmem wd_202 rfl) (gmem wd_203 rfl) (gmem wd_5 rfl) (gmem wd_204 rfl) ⟨by decide, by decide, by decide +kernel⟩ ⟨Nat.le_of_ble_eq_true rfl, Nat.le_of_ble_eq_true rfl⟩ hb rfl rfl rfl (Nat.le_of_ble_eq_true rfl) d_C_isPresent_2 ⟨Nat.le_of_ble_eq_true rfl, Nat.le_of_ble_eq_true rfl⟩ ?_
  rintro v9 u9 s9 ⟨h9, hu9, hs9⟩; rw [h9, hu9, hs9]; clear h9 hu9 hs9 v9 u9 s9
  show GW Z _ _ _ ad u sz [(0, .ref (ad b)), (1, .int m)] 0 0 5 [.int (bI (isMb m mc))]
  refine g_if_eq 20 C d_C_isPresent_5 (by decide) (fun c5 => ?_) (fun c5 => ?_)
  · skip
    refine g_iconst (v := 0) C d_C_isPresent_20 (by decide) ?_
    exact g_zret C hR hret rfl ⟨by simp_all [bI_eq0, bI_ne0, isPr, bI_t, bI_f], rfl, rfl⟩ d_C_isPresent_21
  · skip
    refine g_aload_n C d_C_isPresent_8 rfl 0 rfl ?_
    refine g_iload_n C d_C_isPresent_9 rfl 1 rfl ?_
    refine g_callV 1 C (k_C_isGone _ X ad u sz b r0 r1 r2 mc go mk m hb) (gmem wd_205 rfl) (gmem wd_206 rfl) (gmem wd_207 rfl) (gmem wd_5 rfl) (gmem wd_208 rfl) ⟨by decide, by decide, by decide +kernel⟩ ⟨Nat.le_of_ble_eq_true rfl, Nat.le_of_ble_eq_true rfl⟩ hb rfl rfl rfl (Nat.le_of_ble_eq_true rfl) d_C_isPresent_10 ⟨Nat.le_of_ble_eq_true rfl, Nat.le_of_ble_eq_true rfl⟩ ?_
    rintro v9 u9 s9 ⟨h9, hu9, hs9⟩; rw [h9, hu9, hs9]; clear h9 hu9 hs9 v9 u9 s9
    show GW Z _ _ _ ad u sz [(0, .ref (ad b)), (1, .int m)] 0 0 13 [.int (bI (gBit go m))]
    refine g_if_ne 20 C d_C_isPresent_13 (by decide) (fun c13 => ?_) (fun c13 => ?_)
    · skip
      refine g_iconst (v := 0) C d_C_isPresent_20 (by decide) ?_
      exact g_zret C hR hret rfl ⟨by simp_all [bI_eq0, bI_ne0, isPr, bI_t, bI_f], rfl, rfl⟩ d_C_isPresent_21
    · skip
      refine g_iconst (v := 1) C d_C_isPresent_16 (by decide) ?_
      refine g_goto 21 C d_C_isPresent_17 (by decide) ?_
      exact g_zret C hR hret rfl ⟨by simp_all [bI_eq0, bI_ne0, isPr, bI_t, bI_f], rfl, rfl⟩ d_C_isPresent_21

set_option maxHeartbeats 4000000 in
set_option maxRecDepth 100000 in
/-- Club.presentSet -/
theorem k_C_presentSet (l : Launch) (X : gX) (ad : Nat → Nat) (u : gW) (sz : Nat) (b : Nat) (r0 r1 r2 : Value) (mc go mk : Int32) (hb : u b = some (.inr (1, [r0, r1, r2, .int mc, .int go, .int mk])))  : gMet l (EE X) y_C_presentSet c_C_presentSet 1 (some .int) ({ frames := 0, cells := 0, slots := 0, locals := 0 }) [.ref (ad b)] ad u sz (fun v u' sz' => v = some (.int (prSet mc go)) ∧ u' = u ∧ sz' = sz) := by
  refine gMet_of "ExpenseClubs$Club" rfl (by decide) (Nat.le_of_ble_eq_true rfl) (lv := [(0, .ref (ad b))]) rfl (fun Z hZl C hR hret hname => ?_)
  refine g_iconst (v := 1) C d_C_presentSet_0 (by decide) ?_
  refine g_aload_n C d_C_presentSet_1 rfl 0 rfl ?_
  refine g_get b 3 C hb rfl i_C (by decide) (gmem wd_166 rfl) rfl rfl d_C_presentSet_2 ?_
  refine g_ishl C d_C_presentSet_5 ?_
  refine g_iconst (v := 1) C d_C_presentSet_6 (by decide) ?_
  refine g_isub C d_C_presentSet_7 ?_
  refine g_aload_n C d_C_presentSet_8 rfl 0 rfl ?_
  refine g_get b 4 C hb rfl i_C (by decide) (gmem wd_168 rfl) rfl rfl d_C_presentSet_9 ?_
  refine g_iconst (v := (-1)) C d_C_presentSet_12 (by decide) ?_
  refine g_ixor C d_C_presentSet_13 ?_
  refine g_iand C d_C_presentSet_14 ?_
  exact g_iret C hR hret ⟨rfl, rfl, rfl⟩ d_C_presentSet_15
end
section
def hasTr (op tc i : Int32) : Bool := !decide (op = 0) && !decide (i < 0) && !decide (tc ≤ i)
set_option maxHeartbeats 4000000 in
set_option maxRecDepth 100000 in
/-- Settlement.hasTransfer -/
theorem k_S_hasTransfer (l : Launch) (X : gX) (ad : Nat → Nat) (u : gW) (sz : Nat) (t : Nat) (r1 r2 r3 r4 r5 : Value) (op gc tc wa : Int32) (i : Int32) (ht : u t = some (.inr (4, [r1, r2, r3, r4, r5, .int op, .int gc, .int tc, .int wa])))  : gMet l (EE X) y_S_hasTransfer c_S_hasTransfer 2 (some .boolean) ({ frames := 0, cells := 0, slots := 0, locals := 0 }) [.ref (ad t), .int i] ad u sz (fun v u' sz' => v = some (.int (bI (hasTr op tc i))) ∧ u' = u ∧ sz' = sz) := by
  refine gMet_of "ExpenseClubs$Settlement" rfl (by decide) (Nat.le_of_ble_eq_true rfl) (lv := [(0, .ref (ad t)), (1, .int i)]) rfl (fun Z hZl C hR hret hname => ?_)
  refine g_aload_n C d_S_hasTransfer_0 rfl 0 rfl ?_
  refine g_get t 5 C ht rfl i_S (by decide) (gmem wd_130 rfl) rfl rfl d_S_hasTransfer_1 ?_
  refine g_if_eq 23 C d_S_hasTransfer_4 (by decide) (fun c4 => ?_) (fun c4 => ?_)
  · skip
    refine g_iconst (v := 0) C d_S_hasTransfer_23 (by decide) ?_
    exact g_zret C hR hret rfl ⟨by simp_all [bI, hasTr], rfl, rfl⟩ d_S_hasTransfer_24
  · skip
    refine g_iload_n C d_S_hasTransfer_7 rfl 1 rfl ?_
    refine g_if_lt 23 C d_S_hasTransfer_8 (by decide) (fun c8 => ?_) (fun c8 => ?_)
    · skip
      refine g_iconst (v := 0) C d_S_hasTransfer_23 (by decide) ?_
      exact g_zret C hR hret rfl ⟨by simp_all [bI, hasTr], rfl, rfl⟩ d_S_hasTransfer_24
    · skip
      refine g_iload_n C d_S_hasTransfer_11 rfl 1 rfl ?_
      refine g_aload_n C d_S_hasTransfer_12 rfl 0 rfl ?_
      refine g_get t 7 C ht rfl i_S (by decide) (gmem wd_135 rfl) rfl rfl d_S_hasTransfer_13 ?_
      refine g_icmp_ge 23 C d_S_hasTransfer_16 (by decide) (fun c16 => ?_) (fun c16 => ?_)
      · skip
        refine g_iconst (v := 0) C d_S_hasTransfer_23 (by decide) ?_
        exact g_zret C hR hret rfl ⟨by simp_all [bI, hasTr], rfl, rfl⟩ d_S_hasTransfer_24
      · skip
        refine g_iconst (v := 1) C d_S_hasTransfer_19 (by decide) ?_
        refine g_goto 24 C d_S_hasTransfer_20 (by decide) ?_
        exact g_zret C hR hret rfl ⟨by simp_all [bI, hasTr], rfl, rfl⟩ d_S_hasTransfer_24

set_option maxHeartbeats 4000000 in
set_option maxRecDepth 100000 in
/-- Settlement.begin -/
theorem k_S_begin (l : Launch) (X : gX) (ad : Nat → Nat) (u : gW) (sz : Nat) (t : Nat) (gr : Nat → Int32) (op gc tc wa : Int32) (ht : u t = some (.inr (4, [.ref (ad (t + 1)), .ref (ad (t + 2)), .ref (ad (t + 3)), .ref (ad (t + 4)), .ref (ad (t + 5)), .int op, .int gc, .int tc, .int wa]))) (h1 : u (t + 1) = some (.inl ((X.2 0), 12, .inl gr)))  : gMet l (EE X) y_S_begin c_S_begin 2 none ({ frames := 0, cells := 0, slots := 0, locals := 0 }) [.ref (ad t)] ad u sz (fun v u' sz' => v = none ∧ u' = gup (gup u t (.inr (4, [.ref (ad (t + 1)), .ref (ad (t + 2)), .ref (ad (t + 3)), .ref (ad (t + 4)), .ref (ad (t + 5)), .int 1, .int 0, .int 0, .int 0]))) (t + 1) (.inl ((X.2 0), 12, .inl (fillI gr (-1) 12))) ∧ sz' = sz) := by
  refine gMet_of "ExpenseClubs$Settlement" rfl (by decide) (Nat.le_of_ble_eq_true rfl) (lv := [(0, .ref (ad t))]) rfl (fun Z hZl C hR hret hname => ?_)
  refine g_aload_n C d_S_begin_0 rfl 0 rfl ?_
  refine g_iconst (v := 1) C d_S_begin_1 (by decide) ?_
  refine g_put t 5 C ht rfl i_S t_S t_S_ok n_S (by decide) (gmem wd_130 rfl) rfl rfl rfl rfl (Nat.le_of_ble_eq_true rfl) d_S_begin_2 ?_
  show GW Z _ _ _ ad (gup u t (.inr (4, [.ref (ad (t + 1)), .ref (ad (t + 2)), .ref (ad (t + 3)), .ref (ad (t + 4)), .ref (ad (t + 5)), .int 1, .int gc, .int tc, .int wa]))) _ _ _ _ _ _
  obtain ⟨u1, hu1⟩ : ∃ z, z = gup u t (.inr (4, [.ref (ad (t + 1)), .ref (ad (t + 2)), .ref (ad (t + 3)), .ref (ad (t + 4)), .ref (ad (t + 5)), .int 1, .int gc, .int tc, .int wa])) := ⟨_, rfl⟩
  rw [← hu1]
  have hu1_0 : u1 t = some (.inr (4, [.ref (ad (t + 1)), .ref (ad (t + 2)), .ref (ad (t + 3)), .ref (ad (t + 4)), .ref (ad (t + 5)), .int 1, .int gc, .int tc, .int wa])) := by rw [hu1]; exact gup_self _ _ _
  have hu1_1 : u1 (t + 1) = some (.inl ((X.2 0), 12, .inl gr)) := by rw [hu1, gup_ne (by omega)]; exact h1
  refine g_aload_n C d_S_begin_5 rfl 0 rfl ?_
  refine g_iconst (v := 0) C d_S_begin_6 (by decide) ?_
  refine g_put t 6 C hu1_0 rfl i_S t_S t_S_ok n_S (by decide) (gmem wd_132 rfl) rfl rfl rfl rfl (Nat.le_of_ble_eq_true rfl) d_S_begin_7 ?_
  show GW Z _ _ _ ad (gup u1 t (.inr (4, [.ref (ad (t + 1)), .ref (ad (t + 2)), .ref (ad (t + 3)), .ref (ad (t + 4)), .ref (ad (t + 5)), .int 1, .int 0, .int tc, .int wa]))) _ _ _ _ _ _
  obtain ⟨u2, hu2⟩ : ∃ z, z = gup u1 t (.inr (4, [.ref (ad (t + 1)), .ref (ad (t + 2)), .ref (ad (t + 3)), .ref (ad (t + 4)), .ref (ad (t + 5)), .int 1, .int 0, .int tc, .int wa])) := ⟨_, rfl⟩
  rw [← hu2]
  have hu2_0 : u2 t = some (.inr (4, [.ref (ad (t + 1)), .ref (ad (t + 2)), .ref (ad (t + 3)), .ref (ad (t + 4)), .ref (ad (t + 5)), .int 1, .int 0, .int tc, .int wa])) := by rw [hu2]; exact gup_self _ _ _
  have hu2_1 : u2 (t + 1) = some (.inl ((X.2 0), 12, .inl gr)) := by rw [hu2, gup_ne (by omega)]; exact hu1_1
  refine g_aload_n C d_S_begin_10 rfl 0 rfl ?_
  refine g_iconst (v := 0) C d_S_begin_11 (by decide) ?_
  refine g_put t 7 C hu2_0 rfl i_S t_S t_S_ok n_S (by decide) (gmem wd_135 rfl) rfl rfl rfl rfl (Nat.le_of_ble_eq_true rfl) d_S_begin_12 ?_
  show GW Z _ _ _ ad (gup u2 t (.inr (4, [.ref (ad (t + 1)), .ref (ad (t + 2)), .ref (ad (t + 3)), .ref (ad (t + 4)), .ref (ad (t + 5)), .int 1, .int 0, .int 0, .int wa]))) _ _ _ _ _ _
  obtain ⟨u3, hu3⟩ : ∃ z, z = gup u2 t (.inr (4, [.ref (ad (t + 1)), .ref (ad (t + 2)), .ref (ad (t + 3)), .ref (ad (t + 4)), .ref (ad (t + 5)), .int 1, .int 0, .int 0, .int wa])) := ⟨_, rfl⟩
  rw [← hu3]
  have hu3_0 : u3 t = some (.inr (4, [.ref (ad (t + 1)), .ref (ad (t + 2)), .ref (ad (t + 3)), .ref (ad (t + 4)), .ref (ad (t + 5)), .int 1, .int 0, .int 0, .int wa])) := by rw [hu3]; exact gup_self _ _ _
  have hu3_1 : u3 (t + 1) = some (.inl ((X.2 0), 12, .inl gr)) := by rw [hu3, gup_ne (by omega)]; exact hu2_1
  refine g_aload_n C d_S_begin_15 rfl 0 rfl ?_
  refine g_iconst (v := 0) C d_S_begin_16 (by decide) ?_
  refine g_put t 8 C hu3_0 rfl i_S t_S t_S_ok n_S (by decide) (gmem wd_137 rfl) rfl rfl rfl rfl (Nat.le_of_ble_eq_true rfl) d_S_begin_17 ?_
  show GW Z _ _ _ ad (gup u3 t (.inr (4, [.ref (ad (t + 1)), .ref (ad (t + 2)), .ref (ad (t + 3)), .ref (ad (t + 4)), .ref (ad (t + 5)), .int 1, .int 0, .int 0, .int 0]))) _ _ _ _ _ _
  obtain ⟨u4, hu4⟩ : ∃ z, z = gup u3 t (.inr (4, [.ref (ad (t + 1)), .ref (ad (t + 2)), .ref (ad (t + 3)), .ref (ad (t + 4)), .ref (ad (t + 5)), .int 1, .int 0, .int 0, .int 0])) := ⟨_, rfl⟩
  rw [← hu4]
  have hu4_0 : u4 t = some (.inr (4, [.ref (ad (t + 1)), .ref (ad (t + 2)), .ref (ad (t + 3)), .ref (ad (t + 4)), .ref (ad (t + 5)), .int 1, .int 0, .int 0, .int 0])) := by rw [hu4]; exact gup_self _ _ _
  have hu4_1 : u4 (t + 1) = some (.inl ((X.2 0), 12, .inl gr)) := by rw [hu4, gup_ne (by omega)]; exact hu3_1
  refine g_iconst (v := 0) C d_S_begin_20 (by decide) ?_
  refine g_istore_n C d_S_begin_21 rfl [(1, .int 0), (0, .ref (ad t))] (by decide) rfl ?_
  refine GW_eq (u2 := gup u4 (t + 1) (.inl ((X.2 0), 12, .inl (fillI gr (-1) 0)))) (lv2 := [(1, .int (nI 0)), (0, .ref (ad t))]) (by rw [fillI_0]; exact (gup_id hu4_1).symm) (by first | rfl | simp only [nI_1, nI_0]) ?_
  refine g_loop 12 (fun iL1 => True) (fun iL1 => gup u4 (t + 1) (.inl ((X.2 0), 12, .inl (fillI gr (-1) iL1)))) (fun iL1 => [(1, .int (nI iL1)), (0, .ref (ad t))]) (fun iL1 hiL1 piL1 KL1 => ?_) (fun piL1 => ?_) 0 (by omega) trivial
  · skip
    show GW Z _ _ _ ad (gup u4 (t + 1) (.inl ((X.2 0), 12, .inl (fillI gr (-1) iL1)))) _ [(1, .int (nI iL1)), (0, .ref (ad t))] _ _ 22 []
    obtain ⟨wL1s, hwL1s⟩ : ∃ z, z = gup u4 (t + 1) (.inl ((X.2 0), 12, .inl (fillI gr (-1) iL1))) := ⟨_, rfl⟩
    rw [← hwL1s]
    have hwL1s_0 : wL1s t = some (.inr (4, [.ref (ad (t + 1)), .ref (ad (t + 2)), .ref (ad (t + 3)), .ref (ad (t + 4)), .ref (ad (t + 5)), .int 1, .int 0, .int 0, .int 0])) := by rw [hwL1s, gup_ne (by omega)]; exact hu4_0
    have hwL1s_1 : wL1s (t + 1) = some (.inl ((X.2 0), 12, .inl (fillI gr (-1) iL1))) := by rw [hwL1s, gup_self]
    refine g_iload_n C d_S_begin_22 rfl 0 rfl ?_
    refine g_bipush (v := 12) C d_S_begin_23 (by decide) ?_
    refine g_icmp_ge 41 C d_S_begin_25 (by decide) (fun c1s25 => ?_) (fun c1s25 => ?_)
    · exact absurd c1s25 (ge12 hiL1)
    refine g_aload_n C d_S_begin_28 rfl 1 rfl ?_
    refine g_get t 0 C hwL1s_0 rfl i_S (by decide) (gmem wd_115 rfl) rfl rfl d_S_begin_29 ?_
    refine g_iload_n C d_S_begin_32 rfl 0 rfl ?_
    refine g_iconst (v := (-1)) C d_S_begin_33 (by decide) ?_
    refine g_iast (t + 1) 0 C hwL1s_1 rfl (in12 hiL1) d_S_begin_34 ?_
    rw [show Int32.toNatClampNeg (nI iL1) = iL1 from cl12 hiL1]
    obtain ⟨u1s5, hu1s5⟩ : ∃ z, z = gup wL1s (t + 1) (.inl ((X.2 0), 12, .inl (upd (fillI gr (-1) iL1) iL1 (-1)))) := ⟨_, rfl⟩
    rw [← hu1s5]
    have hu1s5_0 : u1s5 t = some (.inr (4, [.ref (ad (t + 1)), .ref (ad (t + 2)), .ref (ad (t + 3)), .ref (ad (t + 4)), .ref (ad (t + 5)), .int 1, .int 0, .int 0, .int 0])) := by rw [hu1s5, gup_ne (by omega)]; exact hwL1s_0
    have hu1s5_1 : u1s5 (t + 1) = some (.inl ((X.2 0), 12, .inl (upd (fillI gr (-1) iL1) iL1 (-1)))) := by rw [hu1s5]; exact gup_self _ _ _
    obtain ⟨x1s35, ex1s35⟩ : ∃ y : Int32, y = (nI iL1) + 1 := ⟨_, rfl⟩
    refine g_iinc (v := x1s35) C d_S_begin_35 0 rfl (by rw [ex1s35]; rfl) [(1, .int x1s35), (0, .ref (ad t))] (by decide) rfl ?_
    refine g_goto 22 C d_S_begin_38 (by decide) ?_
    refine GW_eq (u2 := gup u4 (t + 1) (.inl ((X.2 0), 12, .inl (fillI gr (-1) (iL1 + 1))))) (lv2 := [(1, .int (nI (iL1 + 1))), (0, .ref (ad t))]) ?_ ?_ (KL1 trivial)
    · rw [hu1s5, hwL1s]; simp only [fillI_s]; funext k; simp only [gup]; (repeat' split) <;> first | rfl | (exfalso; omega)
    · first | rfl | simp only [ex1s35, nI_1, nI_0]
  · skip
    show GW Z _ _ _ ad (gup u4 (t + 1) (.inl ((X.2 0), 12, .inl (fillI gr (-1) 12)))) _ [(1, .int (nI 12)), (0, .ref (ad t))] _ _ 22 []
    obtain ⟨wL1e, hwL1e⟩ : ∃ z, z = gup u4 (t + 1) (.inl ((X.2 0), 12, .inl (fillI gr (-1) 12))) := ⟨_, rfl⟩
    rw [← hwL1e]
    have hwL1e_0 : wL1e t = some (.inr (4, [.ref (ad (t + 1)), .ref (ad (t + 2)), .ref (ad (t + 3)), .ref (ad (t + 4)), .ref (ad (t + 5)), .int 1, .int 0, .int 0, .int 0])) := by rw [hwL1e, gup_ne (by omega)]; exact hu4_0
    have hwL1e_1 : wL1e (t + 1) = some (.inl ((X.2 0), 12, .inl (fillI gr (-1) 12))) := by rw [hwL1e, gup_self]
    refine g_iload_n C d_S_begin_22 rfl 0 rfl ?_
    refine g_bipush (v := 12) C d_S_begin_23 (by decide) ?_
    refine g_icmp_ge 41 C d_S_begin_25 (by decide) (fun c1e25 => ?_) (fun c1e25 => ?_)
    rotate_left
    · exact absurd (by decide) c1e25
    exact g_vret C hR hret ⟨rfl, (by rw [hwL1e, hu4, hu3, hu2, hu1]; funext k; simp only [gup]; (repeat' split) <;> first | rfl | (exfalso; omega)), rfl⟩ d_S_begin_41

set_option maxHeartbeats 4000000 in
set_option maxRecDepth 100000 in
/-- Settlement.addTransfer -/
theorem k_S_addTransfer (l : Launch) (X : gX) (ad : Nat → Nat) (u : gW) (sz : Nat) (t : Nat) (r1 : Value) (se ge : Nat → Int32) (am : Nat → Int64) (ti : Nat → Int32) (op gc tc wa : Int32) (a b : Int32) (sum : Int64) (ht : u t = some (.inr (4, [.ref (ad (t + 1)), .ref (ad (t + 2)), .ref (ad (t + 3)), .ref (ad (t + 4)), .ref (ad (t + 5)), .int op, .int gc, .int tc, .int wa]))) (h2 : u (t + 2) = some (.inl ((X.2 0), 12, .inl se))) (h3 : u (t + 3) = some (.inl ((X.2 0), 12, .inl ge))) (h4 : u (t + 4) = some (.inl ((X.2 1), 12, .inr (.inl am)))) (h5 : u (t + 5) = some (.inl ((X.2 2), 12, .inl ti))) (htc : ¬ tc < 0) : gMet l (EE X) y_S_addTransfer c_S_addTransfer 5 none ({ frames := 0, cells := 0, slots := 0, locals := 0 }) [.ref (ad t), .int a, .int b, .long sum] ad u sz (fun v u' sz' => v = none ∧ sz' = sz ∧ u' = if tc < 12 then gup (gup (gup (gup (gup u t (.inr (4, [.ref (ad (t + 1)), .ref (ad (t + 2)), .ref (ad (t + 3)), .ref (ad (t + 4)), .ref (ad (t + 5)), .int op, .int gc, .int (tc + 1), .int (wa + 1)]))) (t + 2) (.inl ((X.2 0), 12, .inl (upd se tc.toNatClampNeg (if 0 ≤ sum then b else a))))) (t + 3) (.inl ((X.2 0), 12, .inl (upd ge tc.toNatClampNeg (if 0 ≤ sum then a else b))))) (t + 4) (.inl ((X.2 1), 12, .inr (.inl (vp_updL am tc.toNatClampNeg (if 0 ≤ sum then sum else -sum)))))) (t + 5) (.inl ((X.2 2), 12, .inl (upd ti tc.toNatClampNeg 0))) else u) := by
  refine gMet_of "ExpenseClubs$Settlement" rfl (by decide) (Nat.le_of_ble_eq_true rfl) (lv := [(0, .ref (ad t)), (1, .int a), (2, .int b), (3, .long sum)]) rfl (fun Z hZl C hR hret hname => ?_)
  refine g_aload_n C d_S_addTransfer_0 rfl 0 rfl ?_
  refine g_get t 7 C ht rfl i_S (by decide) (gmem wd_135 rfl) rfl rfl d_S_addTransfer_1 ?_
  refine g_bipush (v := 12) C d_S_addTransfer_4 (by decide) ?_
  refine g_icmp_lt 10 C d_S_addTransfer_6 (by decide) (fun c6 => ?_) (fun c6 => ?_)
  · skip
    refine g_aload_n C d_S_addTransfer_10 rfl 0 rfl ?_
    refine g_get t 1 C ht rfl i_S (by decide) (gmem wd_118 rfl) rfl rfl d_S_addTransfer_11 ?_
    refine g_aload_n C d_S_addTransfer_14 rfl 0 rfl ?_
    refine g_get t 7 C ht rfl i_S (by decide) (gmem wd_135 rfl) rfl rfl d_S_addTransfer_15 ?_
    refine g_lload_n C d_S_addTransfer_18 rfl 3 rfl ?_
    refine g_lconst (v := 0) C d_S_addTransfer_19 (by decide) ?_
    refine g_lcmp C d_S_addTransfer_20 ?_
    refine g_if_ge 28 C d_S_addTransfer_21 (by decide) (fun c21 => ?_) (fun c21 => ?_)
    · rw [lg_cmp_ge] at c21
      refine g_iload_n C d_S_addTransfer_28 rfl 2 rfl ?_
      refine g_iast (t + 2) 0 C h2 rfl (in12x htc c6) d_S_addTransfer_29 ?_
      obtain ⟨u1, hu1⟩ : ∃ z, z = gup u (t + 2) (.inl ((X.2 0), 12, .inl (upd se (Int32.toNatClampNeg tc) b))) := ⟨_, rfl⟩
      rw [← hu1]
      have hu1_0 : u1 t = some (.inr (4, [.ref (ad (t + 1)), .ref (ad (t + 2)), .ref (ad (t + 3)), .ref (ad (t + 4)), .ref (ad (t + 5)), .int op, .int gc, .int tc, .int wa])) := by rw [hu1, gup_ne (by omega)]; exact ht
      have hu1_1 : u1 (t + 2) = some (.inl ((X.2 0), 12, .inl (upd se (Int32.toNatClampNeg tc) b))) := by rw [hu1]; exact gup_self _ _ _
      have hu1_2 : u1 (t + 3) = some (.inl ((X.2 0), 12, .inl ge)) := by rw [hu1, gup_ne (by omega)]; exact h3
      have hu1_3 : u1 (t + 4) = some (.inl ((X.2 1), 12, .inr (.inl am))) := by rw [hu1, gup_ne (by omega)]; exact h4
      have hu1_4 : u1 (t + 5) = some (.inl ((X.2 2), 12, .inl ti)) := by rw [hu1, gup_ne (by omega)]; exact h5
      refine g_aload_n C d_S_addTransfer_30 rfl 0 rfl ?_
      refine g_get t 2 C hu1_0 rfl i_S (by decide) (gmem wd_121 rfl) rfl rfl d_S_addTransfer_31 ?_
      refine g_aload_n C d_S_addTransfer_34 rfl 0 rfl ?_
      refine g_get t 7 C hu1_0 rfl i_S (by decide) (gmem wd_135 rfl) rfl rfl d_S_addTransfer_35 ?_
      refine g_lload_n C d_S_addTransfer_38 rfl 3 rfl ?_
      refine g_lconst (v := 0) C d_S_addTransfer_39 (by decide) ?_
      refine g_lcmp C d_S_addTransfer_40 ?_
      refine g_if_ge 48 C d_S_addTransfer_41 (by decide) (fun c41 => ?_) (fun c41 => ?_)
      rotate_left
      · rw [lg_cmp_ge] at c41; first | exact absurd c21 c41 | exact absurd c41 c21
      clear c41
      refine g_iload_n C d_S_addTransfer_48 rfl 1 rfl ?_
      refine g_iast (t + 3) 0 C hu1_2 rfl (in12x htc c6) d_S_addTransfer_49 ?_
      obtain ⟨u2, hu2⟩ : ∃ z, z = gup u1 (t + 3) (.inl ((X.2 0), 12, .inl (upd ge (Int32.toNatClampNeg tc) a))) := ⟨_, rfl⟩
      rw [← hu2]
      have hu2_0 : u2 t = some (.inr (4, [.ref (ad (t + 1)), .ref (ad (t + 2)), .ref (ad (t + 3)), .ref (ad (t + 4)), .ref (ad (t + 5)), .int op, .int gc, .int tc, .int wa])) := by rw [hu2, gup_ne (by omega)]; exact hu1_0
      have hu2_1 : u2 (t + 2) = some (.inl ((X.2 0), 12, .inl (upd se (Int32.toNatClampNeg tc) b))) := by rw [hu2, gup_ne (by omega)]; exact hu1_1
      have hu2_2 : u2 (t + 3) = some (.inl ((X.2 0), 12, .inl (upd ge (Int32.toNatClampNeg tc) a))) := by rw [hu2]; exact gup_self _ _ _
      have hu2_3 : u2 (t + 4) = some (.inl ((X.2 1), 12, .inr (.inl am))) := by rw [hu2, gup_ne (by omega)]; exact hu1_3
      have hu2_4 : u2 (t + 5) = some (.inl ((X.2 2), 12, .inl ti)) := by rw [hu2, gup_ne (by omega)]; exact hu1_4
      refine g_aload_n C d_S_addTransfer_50 rfl 0 rfl ?_
      refine g_get t 3 C hu2_0 rfl i_S (by decide) (gmem wd_124 rfl) rfl rfl d_S_addTransfer_51 ?_
      refine g_aload_n C d_S_addTransfer_54 rfl 0 rfl ?_
      refine g_get t 7 C hu2_0 rfl i_S (by decide) (gmem wd_135 rfl) rfl rfl d_S_addTransfer_55 ?_
      refine g_lload_n C d_S_addTransfer_58 rfl 3 rfl ?_
      refine g_lconst (v := 0) C d_S_addTransfer_59 (by decide) ?_
      refine g_lcmp C d_S_addTransfer_60 ?_
      refine g_if_ge 69 C d_S_addTransfer_61 (by decide) (fun c61 => ?_) (fun c61 => ?_)
      rotate_left
      · rw [lg_cmp_ge] at c61; first | exact absurd c21 c61 | exact absurd c61 c21
      clear c61
      refine g_lload_n C d_S_addTransfer_69 rfl 3 rfl ?_
      refine g_last (t + 4) 1 C hu2_3 rfl (in12x htc c6) d_S_addTransfer_70 ?_
      obtain ⟨u3, hu3⟩ : ∃ z, z = gup u2 (t + 4) (.inl ((X.2 1), 12, .inr (.inl (vp_updL am (Int32.toNatClampNeg tc) sum)))) := ⟨_, rfl⟩
      rw [← hu3]
      have hu3_0 : u3 t = some (.inr (4, [.ref (ad (t + 1)), .ref (ad (t + 2)), .ref (ad (t + 3)), .ref (ad (t + 4)), .ref (ad (t + 5)), .int op, .int gc, .int tc, .int wa])) := by rw [hu3, gup_ne (by omega)]; exact hu2_0
      have hu3_1 : u3 (t + 2) = some (.inl ((X.2 0), 12, .inl (upd se (Int32.toNatClampNeg tc) b))) := by rw [hu3, gup_ne (by omega)]; exact hu2_1
      have hu3_2 : u3 (t + 3) = some (.inl ((X.2 0), 12, .inl (upd ge (Int32.toNatClampNeg tc) a))) := by rw [hu3, gup_ne (by omega)]; exact hu2_2
      have hu3_3 : u3 (t + 4) = some (.inl ((X.2 1), 12, .inr (.inl (vp_updL am (Int32.toNatClampNeg tc) sum)))) := by rw [hu3]; exact gup_self _ _ _
      have hu3_4 : u3 (t + 5) = some (.inl ((X.2 2), 12, .inl ti)) := by rw [hu3, gup_ne (by omega)]; exact hu2_4
      refine g_aload_n C d_S_addTransfer_71 rfl 0 rfl ?_
      refine g_get t 4 C hu3_0 rfl i_S (by decide) (gmem wd_127 rfl) rfl rfl d_S_addTransfer_72 ?_
      refine g_aload_n C d_S_addTransfer_75 rfl 0 rfl ?_
      refine g_get t 7 C hu3_0 rfl i_S (by decide) (gmem wd_135 rfl) rfl rfl d_S_addTransfer_76 ?_
      refine g_iconst (v := 0) C d_S_addTransfer_79 (by decide) ?_
      refine g_zast (t + 5) 2 C hu3_4 rfl (in12x htc c6) d_S_addTransfer_80 ?_
      rw [show vp_nar .boolean 0 = 0 from rfl]
      obtain ⟨u4, hu4⟩ : ∃ z, z = gup u3 (t + 5) (.inl ((X.2 2), 12, .inl (upd ti (Int32.toNatClampNeg tc) 0))) := ⟨_, rfl⟩
      rw [← hu4]
      have hu4_0 : u4 t = some (.inr (4, [.ref (ad (t + 1)), .ref (ad (t + 2)), .ref (ad (t + 3)), .ref (ad (t + 4)), .ref (ad (t + 5)), .int op, .int gc, .int tc, .int wa])) := by rw [hu4, gup_ne (by omega)]; exact hu3_0
      have hu4_1 : u4 (t + 2) = some (.inl ((X.2 0), 12, .inl (upd se (Int32.toNatClampNeg tc) b))) := by rw [hu4, gup_ne (by omega)]; exact hu3_1
      have hu4_2 : u4 (t + 3) = some (.inl ((X.2 0), 12, .inl (upd ge (Int32.toNatClampNeg tc) a))) := by rw [hu4, gup_ne (by omega)]; exact hu3_2
      have hu4_3 : u4 (t + 4) = some (.inl ((X.2 1), 12, .inr (.inl (vp_updL am (Int32.toNatClampNeg tc) sum)))) := by rw [hu4, gup_ne (by omega)]; exact hu3_3
      have hu4_4 : u4 (t + 5) = some (.inl ((X.2 2), 12, .inl (upd ti (Int32.toNatClampNeg tc) 0))) := by rw [hu4]; exact gup_self _ _ _
      refine g_aload_n C d_S_addTransfer_81 rfl 0 rfl ?_
      refine g_dup C d_S_addTransfer_82 rfl ?_
      refine g_get t 7 C hu4_0 rfl i_S (by decide) (gmem wd_135 rfl) rfl rfl d_S_addTransfer_83 ?_
      refine g_iconst (v := 1) C d_S_addTransfer_86 (by decide) ?_
      refine g_iadd C d_S_addTransfer_87 ?_
      refine g_topi (fun x88 ex88 => ?_)
      refine g_put t 7 C hu4_0 rfl i_S t_S t_S_ok n_S (by decide) (gmem wd_135 rfl) rfl rfl rfl rfl (Nat.le_of_ble_eq_true rfl) d_S_addTransfer_88 ?_
      show GW Z _ _ _ ad (gup u4 t (.inr (4, [.ref (ad (t + 1)), .ref (ad (t + 2)), .ref (ad (t + 3)), .ref (ad (t + 4)), .ref (ad (t + 5)), .int op, .int gc, .int x88, .int wa]))) _ _ _ _ _ _
      obtain ⟨u5, hu5⟩ : ∃ z, z = gup u4 t (.inr (4, [.ref (ad (t + 1)), .ref (ad (t + 2)), .ref (ad (t + 3)), .ref (ad (t + 4)), .ref (ad (t + 5)), .int op, .int gc, .int x88, .int wa])) := ⟨_, rfl⟩
      rw [← hu5]
      have hu5_0 : u5 t = some (.inr (4, [.ref (ad (t + 1)), .ref (ad (t + 2)), .ref (ad (t + 3)), .ref (ad (t + 4)), .ref (ad (t + 5)), .int op, .int gc, .int x88, .int wa])) := by rw [hu5]; exact gup_self _ _ _
      have hu5_1 : u5 (t + 2) = some (.inl ((X.2 0), 12, .inl (upd se (Int32.toNatClampNeg tc) b))) := by rw [hu5, gup_ne (by omega)]; exact hu4_1
      have hu5_2 : u5 (t + 3) = some (.inl ((X.2 0), 12, .inl (upd ge (Int32.toNatClampNeg tc) a))) := by rw [hu5, gup_ne (by omega)]; exact hu4_2
      have hu5_3 : u5 (t + 4) = some (.inl ((X.2 1), 12, .inr (.inl (vp_updL am (Int32.toNatClampNeg tc) sum)))) := by rw [hu5, gup_ne (by omega)]; exact hu4_3
      have hu5_4 : u5 (t + 5) = some (.inl ((X.2 2), 12, .inl (upd ti (Int32.toNatClampNeg tc) 0))) := by rw [hu5, gup_ne (by omega)]; exact hu4_4
      refine g_aload_n C d_S_addTransfer_91 rfl 0 rfl ?_
      refine g_dup C d_S_addTransfer_92 rfl ?_
      refine g_get t 8 C hu5_0 rfl i_S (by decide) (gmem wd_137 rfl) rfl rfl d_S_addTransfer_93 ?_
      refine g_iconst (v := 1) C d_S_addTransfer_96 (by decide) ?_
      refine g_iadd C d_S_addTransfer_97 ?_
      refine g_topi (fun x98 ex98 => ?_)
      refine g_put t 8 C hu5_0 rfl i_S t_S t_S_ok n_S (by decide) (gmem wd_137 rfl) rfl rfl rfl rfl (Nat.le_of_ble_eq_true rfl) d_S_addTransfer_98 ?_
      show GW Z _ _ _ ad (gup u5 t (.inr (4, [.ref (ad (t + 1)), .ref (ad (t + 2)), .ref (ad (t + 3)), .ref (ad (t + 4)), .ref (ad (t + 5)), .int op, .int gc, .int x88, .int x98]))) _ _ _ _ _ _
      obtain ⟨u6, hu6⟩ : ∃ z, z = gup u5 t (.inr (4, [.ref (ad (t + 1)), .ref (ad (t + 2)), .ref (ad (t + 3)), .ref (ad (t + 4)), .ref (ad (t + 5)), .int op, .int gc, .int x88, .int x98])) := ⟨_, rfl⟩
      rw [← hu6]
      have hu6_0 : u6 t = some (.inr (4, [.ref (ad (t + 1)), .ref (ad (t + 2)), .ref (ad (t + 3)), .ref (ad (t + 4)), .ref (ad (t + 5)), .int op, .int gc, .int x88, .int x98])) := by rw [hu6]; exact gup_self _ _ _
      have hu6_1 : u6 (t + 2) = some (.inl ((X.2 0), 12, .inl (upd se (Int32.toNatClampNeg tc) b))) := by rw [hu6, gup_ne (by omega)]; exact hu5_1
      have hu6_2 : u6 (t + 3) = some (.inl ((X.2 0), 12, .inl (upd ge (Int32.toNatClampNeg tc) a))) := by rw [hu6, gup_ne (by omega)]; exact hu5_2
      have hu6_3 : u6 (t + 4) = some (.inl ((X.2 1), 12, .inr (.inl (vp_updL am (Int32.toNatClampNeg tc) sum)))) := by rw [hu6, gup_ne (by omega)]; exact hu5_3
      have hu6_4 : u6 (t + 5) = some (.inl ((X.2 2), 12, .inl (upd ti (Int32.toNatClampNeg tc) 0))) := by rw [hu6, gup_ne (by omega)]; exact hu5_4
      exact g_vret C hR hret ⟨rfl, rfl, (by rw [hu6, hu5, hu4, hu3, hu2, hu1]; simp only [if_pos c6, if_pos c21, ex88, ex98]; funext k; simp only [gup]; (repeat' split) <;> first | rfl | (exfalso; omega))⟩ d_S_addTransfer_101
    · rw [lg_cmp_ge] at c21
      refine g_iload_n C d_S_addTransfer_24 rfl 1 rfl ?_
      refine g_goto 29 C d_S_addTransfer_25 (by decide) ?_
      refine g_iast (t + 2) 0 C h2 rfl (in12x htc c6) d_S_addTransfer_29 ?_
      obtain ⟨u7, hu7⟩ : ∃ z, z = gup u (t + 2) (.inl ((X.2 0), 12, .inl (upd se (Int32.toNatClampNeg tc) a))) := ⟨_, rfl⟩
      rw [← hu7]
      have hu7_0 : u7 t = some (.inr (4, [.ref (ad (t + 1)), .ref (ad (t + 2)), .ref (ad (t + 3)), .ref (ad (t + 4)), .ref (ad (t + 5)), .int op, .int gc, .int tc, .int wa])) := by rw [hu7, gup_ne (by omega)]; exact ht
      have hu7_1 : u7 (t + 2) = some (.inl ((X.2 0), 12, .inl (upd se (Int32.toNatClampNeg tc) a))) := by rw [hu7]; exact gup_self _ _ _
      have hu7_2 : u7 (t + 3) = some (.inl ((X.2 0), 12, .inl ge)) := by rw [hu7, gup_ne (by omega)]; exact h3
      have hu7_3 : u7 (t + 4) = some (.inl ((X.2 1), 12, .inr (.inl am))) := by rw [hu7, gup_ne (by omega)]; exact h4
      have hu7_4 : u7 (t + 5) = some (.inl ((X.2 2), 12, .inl ti)) := by rw [hu7, gup_ne (by omega)]; exact h5
      refine g_aload_n C d_S_addTransfer_30 rfl 0 rfl ?_
      refine g_get t 2 C hu7_0 rfl i_S (by decide) (gmem wd_121 rfl) rfl rfl d_S_addTransfer_31 ?_
      refine g_aload_n C d_S_addTransfer_34 rfl 0 rfl ?_
      refine g_get t 7 C hu7_0 rfl i_S (by decide) (gmem wd_135 rfl) rfl rfl d_S_addTransfer_35 ?_
      refine g_lload_n C d_S_addTransfer_38 rfl 3 rfl ?_
      refine g_lconst (v := 0) C d_S_addTransfer_39 (by decide) ?_
      refine g_lcmp C d_S_addTransfer_40 ?_
      refine g_if_ge 48 C d_S_addTransfer_41 (by decide) (fun c41 => ?_) (fun c41 => ?_)
      · rw [lg_cmp_ge] at c41; first | exact absurd c21 c41 | exact absurd c41 c21
      clear c41
      refine g_iload_n C d_S_addTransfer_44 rfl 2 rfl ?_
      refine g_goto 49 C d_S_addTransfer_45 (by decide) ?_
      refine g_iast (t + 3) 0 C hu7_2 rfl (in12x htc c6) d_S_addTransfer_49 ?_
      obtain ⟨u8, hu8⟩ : ∃ z, z = gup u7 (t + 3) (.inl ((X.2 0), 12, .inl (upd ge (Int32.toNatClampNeg tc) b))) := ⟨_, rfl⟩
      rw [← hu8]
      have hu8_0 : u8 t = some (.inr (4, [.ref (ad (t + 1)), .ref (ad (t + 2)), .ref (ad (t + 3)), .ref (ad (t + 4)), .ref (ad (t + 5)), .int op, .int gc, .int tc, .int wa])) := by rw [hu8, gup_ne (by omega)]; exact hu7_0
      have hu8_1 : u8 (t + 2) = some (.inl ((X.2 0), 12, .inl (upd se (Int32.toNatClampNeg tc) a))) := by rw [hu8, gup_ne (by omega)]; exact hu7_1
      have hu8_2 : u8 (t + 3) = some (.inl ((X.2 0), 12, .inl (upd ge (Int32.toNatClampNeg tc) b))) := by rw [hu8]; exact gup_self _ _ _
      have hu8_3 : u8 (t + 4) = some (.inl ((X.2 1), 12, .inr (.inl am))) := by rw [hu8, gup_ne (by omega)]; exact hu7_3
      have hu8_4 : u8 (t + 5) = some (.inl ((X.2 2), 12, .inl ti)) := by rw [hu8, gup_ne (by omega)]; exact hu7_4
      refine g_aload_n C d_S_addTransfer_50 rfl 0 rfl ?_
      refine g_get t 3 C hu8_0 rfl i_S (by decide) (gmem wd_124 rfl) rfl rfl d_S_addTransfer_51 ?_
      refine g_aload_n C d_S_addTransfer_54 rfl 0 rfl ?_
      refine g_get t 7 C hu8_0 rfl i_S (by decide) (gmem wd_135 rfl) rfl rfl d_S_addTransfer_55 ?_
      refine g_lload_n C d_S_addTransfer_58 rfl 3 rfl ?_
      refine g_lconst (v := 0) C d_S_addTransfer_59 (by decide) ?_
      refine g_lcmp C d_S_addTransfer_60 ?_
      refine g_if_ge 69 C d_S_addTransfer_61 (by decide) (fun c61 => ?_) (fun c61 => ?_)
      · rw [lg_cmp_ge] at c61; first | exact absurd c21 c61 | exact absurd c61 c21
      clear c61
      refine g_lload_n C d_S_addTransfer_64 rfl 3 rfl ?_
      refine g_lneg C d_S_addTransfer_65 ?_
      refine g_goto 70 C d_S_addTransfer_66 (by decide) ?_
      refine g_topl (fun x70 ex70 => ?_)
      refine g_last (t + 4) 1 C hu8_3 rfl (in12x htc c6) d_S_addTransfer_70 ?_
      obtain ⟨u9, hu9⟩ : ∃ z, z = gup u8 (t + 4) (.inl ((X.2 1), 12, .inr (.inl (vp_updL am (Int32.toNatClampNeg tc) x70)))) := ⟨_, rfl⟩
      rw [← hu9]
      have hu9_0 : u9 t = some (.inr (4, [.ref (ad (t + 1)), .ref (ad (t + 2)), .ref (ad (t + 3)), .ref (ad (t + 4)), .ref (ad (t + 5)), .int op, .int gc, .int tc, .int wa])) := by rw [hu9, gup_ne (by omega)]; exact hu8_0
      have hu9_1 : u9 (t + 2) = some (.inl ((X.2 0), 12, .inl (upd se (Int32.toNatClampNeg tc) a))) := by rw [hu9, gup_ne (by omega)]; exact hu8_1
      have hu9_2 : u9 (t + 3) = some (.inl ((X.2 0), 12, .inl (upd ge (Int32.toNatClampNeg tc) b))) := by rw [hu9, gup_ne (by omega)]; exact hu8_2
      have hu9_3 : u9 (t + 4) = some (.inl ((X.2 1), 12, .inr (.inl (vp_updL am (Int32.toNatClampNeg tc) x70)))) := by rw [hu9]; exact gup_self _ _ _
      have hu9_4 : u9 (t + 5) = some (.inl ((X.2 2), 12, .inl ti)) := by rw [hu9, gup_ne (by omega)]; exact hu8_4
      refine g_aload_n C d_S_addTransfer_71 rfl 0 rfl ?_
      refine g_get t 4 C hu9_0 rfl i_S (by decide) (gmem wd_127 rfl) rfl rfl d_S_addTransfer_72 ?_
      refine g_aload_n C d_S_addTransfer_75 rfl 0 rfl ?_
      refine g_get t 7 C hu9_0 rfl i_S (by decide) (gmem wd_135 rfl) rfl rfl d_S_addTransfer_76 ?_
      refine g_iconst (v := 0) C d_S_addTransfer_79 (by decide) ?_
      refine g_zast (t + 5) 2 C hu9_4 rfl (in12x htc c6) d_S_addTransfer_80 ?_
      rw [show vp_nar .boolean 0 = 0 from rfl]
      obtain ⟨u10, hu10⟩ : ∃ z, z = gup u9 (t + 5) (.inl ((X.2 2), 12, .inl (upd ti (Int32.toNatClampNeg tc) 0))) := ⟨_, rfl⟩
      rw [← hu10]
      have hu10_0 : u10 t = some (.inr (4, [.ref (ad (t + 1)), .ref (ad (t + 2)), .ref (ad (t + 3)), .ref (ad (t + 4)), .ref (ad (t + 5)), .int op, .int gc, .int tc, .int wa])) := by rw [hu10, gup_ne (by omega)]; exact hu9_0
      have hu10_1 : u10 (t + 2) = some (.inl ((X.2 0), 12, .inl (upd se (Int32.toNatClampNeg tc) a))) := by rw [hu10, gup_ne (by omega)]; exact hu9_1
      have hu10_2 : u10 (t + 3) = some (.inl ((X.2 0), 12, .inl (upd ge (Int32.toNatClampNeg tc) b))) := by rw [hu10, gup_ne (by omega)]; exact hu9_2
      have hu10_3 : u10 (t + 4) = some (.inl ((X.2 1), 12, .inr (.inl (vp_updL am (Int32.toNatClampNeg tc) x70)))) := by rw [hu10, gup_ne (by omega)]; exact hu9_3
      have hu10_4 : u10 (t + 5) = some (.inl ((X.2 2), 12, .inl (upd ti (Int32.toNatClampNeg tc) 0))) := by rw [hu10]; exact gup_self _ _ _
      refine g_aload_n C d_S_addTransfer_81 rfl 0 rfl ?_
      refine g_dup C d_S_addTransfer_82 rfl ?_
      refine g_get t 7 C hu10_0 rfl i_S (by decide) (gmem wd_135 rfl) rfl rfl d_S_addTransfer_83 ?_
      refine g_iconst (v := 1) C d_S_addTransfer_86 (by decide) ?_
      refine g_iadd C d_S_addTransfer_87 ?_
      refine g_topi (fun x88 ex88 => ?_)
      refine g_put t 7 C hu10_0 rfl i_S t_S t_S_ok n_S (by decide) (gmem wd_135 rfl) rfl rfl rfl rfl (Nat.le_of_ble_eq_true rfl) d_S_addTransfer_88 ?_
      show GW Z _ _ _ ad (gup u10 t (.inr (4, [.ref (ad (t + 1)), .ref (ad (t + 2)), .ref (ad (t + 3)), .ref (ad (t + 4)), .ref (ad (t + 5)), .int op, .int gc, .int x88, .int wa]))) _ _ _ _ _ _
      obtain ⟨u11, hu11⟩ : ∃ z, z = gup u10 t (.inr (4, [.ref (ad (t + 1)), .ref (ad (t + 2)), .ref (ad (t + 3)), .ref (ad (t + 4)), .ref (ad (t + 5)), .int op, .int gc, .int x88, .int wa])) := ⟨_, rfl⟩
      rw [← hu11]
      have hu11_0 : u11 t = some (.inr (4, [.ref (ad (t + 1)), .ref (ad (t + 2)), .ref (ad (t + 3)), .ref (ad (t + 4)), .ref (ad (t + 5)), .int op, .int gc, .int x88, .int wa])) := by rw [hu11]; exact gup_self _ _ _
      have hu11_1 : u11 (t + 2) = some (.inl ((X.2 0), 12, .inl (upd se (Int32.toNatClampNeg tc) a))) := by rw [hu11, gup_ne (by omega)]; exact hu10_1
      have hu11_2 : u11 (t + 3) = some (.inl ((X.2 0), 12, .inl (upd ge (Int32.toNatClampNeg tc) b))) := by rw [hu11, gup_ne (by omega)]; exact hu10_2
      have hu11_3 : u11 (t + 4) = some (.inl ((X.2 1), 12, .inr (.inl (vp_updL am (Int32.toNatClampNeg tc) x70)))) := by rw [hu11, gup_ne (by omega)]; exact hu10_3
      have hu11_4 : u11 (t + 5) = some (.inl ((X.2 2), 12, .inl (upd ti (Int32.toNatClampNeg tc) 0))) := by rw [hu11, gup_ne (by omega)]; exact hu10_4
      refine g_aload_n C d_S_addTransfer_91 rfl 0 rfl ?_
      refine g_dup C d_S_addTransfer_92 rfl ?_
      refine g_get t 8 C hu11_0 rfl i_S (by decide) (gmem wd_137 rfl) rfl rfl d_S_addTransfer_93 ?_
      refine g_iconst (v := 1) C d_S_addTransfer_96 (by decide) ?_
      refine g_iadd C d_S_addTransfer_97 ?_
      refine g_topi (fun x98 ex98 => ?_)
      refine g_put t 8 C hu11_0 rfl i_S t_S t_S_ok n_S (by decide) (gmem wd_137 rfl) rfl rfl rfl rfl (Nat.le_of_ble_eq_true rfl) d_S_addTransfer_98 ?_
      show GW Z _ _ _ ad (gup u11 t (.inr (4, [.ref (ad (t + 1)), .ref (ad (t + 2)), .ref (ad (t + 3)), .ref (ad (t + 4)), .ref (ad (t + 5)), .int op, .int gc, .int x88, .int x98]))) _ _ _ _ _ _
      obtain ⟨u12, hu12⟩ : ∃ z, z = gup u11 t (.inr (4, [.ref (ad (t + 1)), .ref (ad (t + 2)), .ref (ad (t + 3)), .ref (ad (t + 4)), .ref (ad (t + 5)), .int op, .int gc, .int x88, .int x98])) := ⟨_, rfl⟩
      rw [← hu12]
      have hu12_0 : u12 t = some (.inr (4, [.ref (ad (t + 1)), .ref (ad (t + 2)), .ref (ad (t + 3)), .ref (ad (t + 4)), .ref (ad (t + 5)), .int op, .int gc, .int x88, .int x98])) := by rw [hu12]; exact gup_self _ _ _
      have hu12_1 : u12 (t + 2) = some (.inl ((X.2 0), 12, .inl (upd se (Int32.toNatClampNeg tc) a))) := by rw [hu12, gup_ne (by omega)]; exact hu11_1
      have hu12_2 : u12 (t + 3) = some (.inl ((X.2 0), 12, .inl (upd ge (Int32.toNatClampNeg tc) b))) := by rw [hu12, gup_ne (by omega)]; exact hu11_2
      have hu12_3 : u12 (t + 4) = some (.inl ((X.2 1), 12, .inr (.inl (vp_updL am (Int32.toNatClampNeg tc) x70)))) := by rw [hu12, gup_ne (by omega)]; exact hu11_3
      have hu12_4 : u12 (t + 5) = some (.inl ((X.2 2), 12, .inl (upd ti (Int32.toNatClampNeg tc) 0))) := by rw [hu12, gup_ne (by omega)]; exact hu11_4
      exact g_vret C hR hret ⟨rfl, rfl, (by rw [hu12, hu11, hu10, hu9, hu8, hu7]; simp only [if_pos c6, if_neg c21, ex70, ex88, ex98]; funext k; simp only [gup]; (repeat' split) <;> first | rfl | (exfalso; omega))⟩ d_S_addTransfer_101
  · skip
    exact g_vret C hR hret ⟨rfl, rfl, (if_neg c6).symm⟩ d_S_addTransfer_9
end
section
set_option maxHeartbeats 4000000 in
set_option maxRecDepth 100000 in
/-- Club.book -/
theorem k_C_book (l : Launch) (X : gX) (ad : Nat → Nat) (u : gW) (sz : Nat) (b d : Nat) (bal dri pd sh df : Nat → Int64) (ow : Value) (cc : Int64) (mc go mk stk times : Int32) (hb : u b = some (.inr (1, [.ref (ad (b + 1)), .ref (ad (b + 2)), .ref (ad (b + 3)), .int mc, .int go, .int mk]))) (hb1 : u (b + 1) = some (.inl ((X.2 1), 12, .inr (.inl bal)))) (hb2 : u (b + 2) = some (.inl ((X.2 1), 12, .inr (.inl dri)))) (hd : u d = some (.inr (0, [ow, .long cc, .ref (ad (d + 1)), .ref (ad (d + 2)), .ref (ad (d + 3)), .int stk]))) (hd1 : u (d + 1) = some (.inl ((X.2 1), 12, .inr (.inl pd)))) (hd2 : u (d + 2) = some (.inl ((X.2 1), 12, .inr (.inl sh)))) (hd3 : u (d + 3) = some (.inl ((X.2 1), 12, .inr (.inl df)))) (hbd : b + 16 ≤ d) : gMet l (EE X) y_C_book c_C_book 4 none ({ frames := 0, cells := 0, slots := 0, locals := 0 }) [.ref (ad b), .ref (ad d), .int times] ad u sz (fun v u' sz' => v = none ∧ u' = gup (gup u (b + 1) (.inl ((X.2 1), 12, .inr (.inl (mapL bal (fun j => bal j + times.toInt64 * (pd j - sh j)) 12))))) (b + 2) (.inl ((X.2 1), 12, .inr (.inl (mapL dri (fun j => dri j + times.toInt64 * df j) 12)))) ∧ sz' = sz) := by
  refine gMet_of "ExpenseClubs$Club" rfl (by decide) (Nat.le_of_ble_eq_true rfl) (lv := [(0, .ref (ad b)), (1, .ref (ad d)), (2, .int times)]) rfl (fun Z hZl C hR hret hname => ?_)
  refine g_iconst (v := 0) C d_C_book_0 (by decide) ?_
  refine g_istore_n C d_C_book_1 rfl [(3, .int 0), (0, .ref (ad b)), (1, .ref (ad d)), (2, .int times)] (by decide) rfl ?_
  refine GW_eq (u2 := gup (gup u (b + 1) (.inl ((X.2 1), 12, .inr (.inl (mapL bal (fun j => bal j + times.toInt64 * (pd j - sh j)) 0))))) (b + 2) (.inl ((X.2 1), 12, .inr (.inl (mapL dri (fun j => dri j + times.toInt64 * df j) 0))))) (lv2 := [(3, .int (nI 0)), (0, .ref (ad b)), (1, .ref (ad d)), (2, .int times)]) (by rw [mapL_0, mapL_0, gup_id hb1, gup_id hb2]) (by first | rfl | simp only [nI_1, nI_0]) ?_
  refine g_loop 12 (fun iL1 => True) (fun iL1 => gup (gup u (b + 1) (.inl ((X.2 1), 12, .inr (.inl (mapL bal (fun j => bal j + times.toInt64 * (pd j - sh j)) iL1))))) (b + 2) (.inl ((X.2 1), 12, .inr (.inl (mapL dri (fun j => dri j + times.toInt64 * df j) iL1))))) (fun iL1 => [(3, .int (nI iL1)), (0, .ref (ad b)), (1, .ref (ad d)), (2, .int times)]) (fun iL1 hiL1 piL1 KL1 => ?_) (fun piL1 => ?_) 0 (by omega) trivial
  · skip
    show GW Z _ _ _ ad (gup (gup u (b + 1) (.inl ((X.2 1), 12, .inr (.inl (mapL bal (fun j => bal j + times.toInt64 * (pd j - sh j)) iL1))))) (b + 2) (.inl ((X.2 1), 12, .inr (.inl (mapL dri (fun j => dri j + times.toInt64 * df j) iL1))))) _ [(3, .int (nI iL1)), (0, .ref (ad b)), (1, .ref (ad d)), (2, .int times)] _ _ 2 []
    obtain ⟨wL1s, hwL1s⟩ : ∃ z, z = gup (gup u (b + 1) (.inl ((X.2 1), 12, .inr (.inl (mapL bal (fun j => bal j + times.toInt64 * (pd j - sh j)) iL1))))) (b + 2) (.inl ((X.2 1), 12, .inr (.inl (mapL dri (fun j => dri j + times.toInt64 * df j) iL1)))) := ⟨_, rfl⟩
    rw [← hwL1s]
    have hwL1s_0 : wL1s b = some (.inr (1, [.ref (ad (b + 1)), .ref (ad (b + 2)), .ref (ad (b + 3)), .int mc, .int go, .int mk])) := by rw [hwL1s, gup_ne (by omega), gup_ne (by omega)]; exact hb
    have hwL1s_1 : wL1s (b + 1) = some (.inl ((X.2 1), 12, .inr (.inl (mapL bal (fun j => bal j + times.toInt64 * (pd j - sh j)) iL1)))) := by rw [hwL1s, gup_ne (by omega), gup_self]
    have hwL1s_2 : wL1s (b + 2) = some (.inl ((X.2 1), 12, .inr (.inl (mapL dri (fun j => dri j + times.toInt64 * df j) iL1)))) := by rw [hwL1s, gup_self]
    have hwL1s_3 : wL1s d = some (.inr (0, [ow, .long cc, .ref (ad (d + 1)), .ref (ad (d + 2)), .ref (ad (d + 3)), .int stk])) := by rw [hwL1s, gup_ne (by omega), gup_ne (by omega)]; exact hd
    have hwL1s_4 : wL1s (d + 1) = some (.inl ((X.2 1), 12, .inr (.inl pd))) := by rw [hwL1s, gup_ne (by omega), gup_ne (by omega)]; exact hd1
    have hwL1s_5 : wL1s (d + 2) = some (.inl ((X.2 1), 12, .inr (.inl sh))) := by rw [hwL1s, gup_ne (by omega), gup_ne (by omega)]; exact hd2
    have hwL1s_6 : wL1s (d + 3) = some (.inl ((X.2 1), 12, .inr (.inl df))) := by rw [hwL1s, gup_ne (by omega), gup_ne (by omega)]; exact hd3
    refine g_iload_n C d_C_book_2 rfl 0 rfl ?_
    refine g_bipush (v := 12) C d_C_book_3 (by decide) ?_
    refine g_icmp_ge 57 C d_C_book_5 (by decide) (fun c1s5 => ?_) (fun c1s5 => ?_)
    · exact absurd c1s5 (ge12 hiL1)
    refine g_aload_n C d_C_book_8 rfl 1 rfl ?_
    refine g_get b 0 C hwL1s_0 rfl i_C (by decide) (gmem wd_160 rfl) rfl rfl d_C_book_9 ?_
    refine g_iload_n C d_C_book_12 rfl 0 rfl ?_
    refine g_dup2_11 C d_C_book_13 rfl rfl ?_
    refine g_lald (b + 1) 1 C hwL1s_1 rfl (vp_in_nI (by omega) (by decide)) d_C_book_14 ?_
    rw [show Int32.toNatClampNeg (nI iL1) = iL1 from nI_clamp (by omega)]
    refine g_iload_n C d_C_book_15 rfl 3 rfl ?_
    refine g_i2l C d_C_book_16 ?_
    refine g_aload_n C d_C_book_17 rfl 2 rfl ?_
    refine g_get d 2 C hwL1s_3 rfl i_B (by decide) (gmem wd_288 rfl) rfl rfl d_C_book_18 ?_
    refine g_iload_n C d_C_book_21 rfl 0 rfl ?_
    refine g_lald (d + 1) 1 C hwL1s_4 rfl (vp_in_nI (by omega) (by decide)) d_C_book_22 ?_
    rw [show Int32.toNatClampNeg (nI iL1) = iL1 from nI_clamp (by omega)]
    refine g_aload_n C d_C_book_23 rfl 2 rfl ?_
    refine g_get d 3 C hwL1s_3 rfl i_B (by decide) (gmem wd_292 rfl) rfl rfl d_C_book_24 ?_
    refine g_iload_n C d_C_book_27 rfl 0 rfl ?_
    refine g_lald (d + 2) 1 C hwL1s_5 rfl (vp_in_nI (by omega) (by decide)) d_C_book_28 ?_
    rw [show Int32.toNatClampNeg (nI iL1) = iL1 from nI_clamp (by omega)]
    refine g_lsub C d_C_book_29 ?_
    refine g_lmul C d_C_book_30 ?_
    refine g_ladd C d_C_book_31 ?_
    refine g_topl (fun x1s32 ex1s32 => ?_)
    refine g_last (b + 1) 1 C hwL1s_1 rfl (vp_in_nI (by omega) (by decide)) d_C_book_32 ?_
    rw [show Int32.toNatClampNeg (nI iL1) = iL1 from nI_clamp (by omega)]
    obtain ⟨u1s1, hu1s1⟩ : ∃ z, z = gup wL1s (b + 1) (.inl ((X.2 1), 12, .inr (.inl (vp_updL (mapL bal (fun j => bal j + times.toInt64 * (pd j - sh j)) iL1) iL1 x1s32)))) := ⟨_, rfl⟩
    rw [← hu1s1]
    have hu1s1_0 : u1s1 b = some (.inr (1, [.ref (ad (b + 1)), .ref (ad (b + 2)), .ref (ad (b + 3)), .int mc, .int go, .int mk])) := by rw [hu1s1, gup_ne (by omega)]; exact hwL1s_0
    have hu1s1_1 : u1s1 (b + 1) = some (.inl ((X.2 1), 12, .inr (.inl (vp_updL (mapL bal (fun j => bal j + times.toInt64 * (pd j - sh j)) iL1) iL1 x1s32)))) := by rw [hu1s1]; exact gup_self _ _ _
    have hu1s1_2 : u1s1 (b + 2) = some (.inl ((X.2 1), 12, .inr (.inl (mapL dri (fun j => dri j + times.toInt64 * df j) iL1)))) := by rw [hu1s1, gup_ne (by omega)]; exact hwL1s_2
    have hu1s1_3 : u1s1 d = some (.inr (0, [ow, .long cc, .ref (ad (d + 1)), .ref (ad (d + 2)), .ref (ad (d + 3)), .int stk])) := by rw [hu1s1, gup_ne (by omega)]; exact hwL1s_3
    have hu1s1_4 : u1s1 (d + 1) = some (.inl ((X.2 1), 12, .inr (.inl pd))) := by rw [hu1s1, gup_ne (by omega)]; exact hwL1s_4
    have hu1s1_5 : u1s1 (d + 2) = some (.inl ((X.2 1), 12, .inr (.inl sh))) := by rw [hu1s1, gup_ne (by omega)]; exact hwL1s_5
    have hu1s1_6 : u1s1 (d + 3) = some (.inl ((X.2 1), 12, .inr (.inl df))) := by rw [hu1s1, gup_ne (by omega)]; exact hwL1s_6
    refine g_aload_n C d_C_book_33 rfl 1 rfl ?_
    refine g_get b 1 C hu1s1_0 rfl i_C (by decide) (gmem wd_162 rfl) rfl rfl d_C_book_34 ?_
    refine g_iload_n C d_C_book_37 rfl 0 rfl ?_
    refine g_dup2_11 C d_C_book_38 rfl rfl ?_
    refine g_lald (b + 2) 1 C hu1s1_2 rfl (vp_in_nI (by omega) (by decide)) d_C_book_39 ?_
    rw [show Int32.toNatClampNeg (nI iL1) = iL1 from nI_clamp (by omega)]
    refine g_iload_n C d_C_book_40 rfl 3 rfl ?_
    refine g_i2l C d_C_book_41 ?_
    refine g_aload_n C d_C_book_42 rfl 2 rfl ?_
    refine g_get d 4 C hu1s1_3 rfl i_B (by decide) (gmem wd_296 rfl) rfl rfl d_C_book_43 ?_
    refine g_iload_n C d_C_book_46 rfl 0 rfl ?_
    refine g_lald (d + 3) 1 C hu1s1_6 rfl (vp_in_nI (by omega) (by decide)) d_C_book_47 ?_
    rw [show Int32.toNatClampNeg (nI iL1) = iL1 from nI_clamp (by omega)]
    refine g_lmul C d_C_book_48 ?_
    refine g_ladd C d_C_book_49 ?_
    refine g_topl (fun x1s50 ex1s50 => ?_)
    refine g_last (b + 2) 1 C hu1s1_2 rfl (vp_in_nI (by omega) (by decide)) d_C_book_50 ?_
    rw [show Int32.toNatClampNeg (nI iL1) = iL1 from nI_clamp (by omega)]
    obtain ⟨u1s2, hu1s2⟩ : ∃ z, z = gup u1s1 (b + 2) (.inl ((X.2 1), 12, .inr (.inl (vp_updL (mapL dri (fun j => dri j + times.toInt64 * df j) iL1) iL1 x1s50)))) := ⟨_, rfl⟩
    rw [← hu1s2]
    have hu1s2_0 : u1s2 b = some (.inr (1, [.ref (ad (b + 1)), .ref (ad (b + 2)), .ref (ad (b + 3)), .int mc, .int go, .int mk])) := by rw [hu1s2, gup_ne (by omega)]; exact hu1s1_0
    have hu1s2_1 : u1s2 (b + 1) = some (.inl ((X.2 1), 12, .inr (.inl (vp_updL (mapL bal (fun j => bal j + times.toInt64 * (pd j - sh j)) iL1) iL1 x1s32)))) := by rw [hu1s2, gup_ne (by omega)]; exact hu1s1_1
    have hu1s2_2 : u1s2 (b + 2) = some (.inl ((X.2 1), 12, .inr (.inl (vp_updL (mapL dri (fun j => dri j + times.toInt64 * df j) iL1) iL1 x1s50)))) := by rw [hu1s2]; exact gup_self _ _ _
    have hu1s2_3 : u1s2 d = some (.inr (0, [ow, .long cc, .ref (ad (d + 1)), .ref (ad (d + 2)), .ref (ad (d + 3)), .int stk])) := by rw [hu1s2, gup_ne (by omega)]; exact hu1s1_3
    have hu1s2_4 : u1s2 (d + 1) = some (.inl ((X.2 1), 12, .inr (.inl pd))) := by rw [hu1s2, gup_ne (by omega)]; exact hu1s1_4
    have hu1s2_5 : u1s2 (d + 2) = some (.inl ((X.2 1), 12, .inr (.inl sh))) := by rw [hu1s2, gup_ne (by omega)]; exact hu1s1_5
    have hu1s2_6 : u1s2 (d + 3) = some (.inl ((X.2 1), 12, .inr (.inl df))) := by rw [hu1s2, gup_ne (by omega)]; exact hu1s1_6
    obtain ⟨x1s51, ex1s51⟩ : ∃ y : Int32, y = (nI iL1) + 1 := ⟨_, rfl⟩
    refine g_iinc (v := x1s51) C d_C_book_51 0 rfl (by rw [ex1s51]; rfl) [(3, .int x1s51), (0, .ref (ad b)), (1, .ref (ad d)), (2, .int times)] (by decide) rfl ?_
    refine g_goto 2 C d_C_book_54 (by decide) ?_
    refine GW_eq (u2 := gup (gup u (b + 1) (.inl ((X.2 1), 12, .inr (.inl (mapL bal (fun j => bal j + times.toInt64 * (pd j - sh j)) (iL1 + 1)))))) (b + 2) (.inl ((X.2 1), 12, .inr (.inl (mapL dri (fun j => dri j + times.toInt64 * df j) (iL1 + 1)))))) (lv2 := [(3, .int (nI (iL1 + 1))), (0, .ref (ad b)), (1, .ref (ad d)), (2, .int times)]) ?_ ?_ (KL1 trivial)
    · first | (rw [hu1s2, hu1s1, hwL1s]; done) | (rw [hu1s2, hu1s1, hwL1s]; simp only [ex1s32, ex1s50, ex1s51, mapL_at, mapL_s]; done) | (rw [hu1s2, hu1s1, hwL1s]; simp only [ex1s32, ex1s50, ex1s51, mapL_at, mapL_s]; funext k; simp only [gup]; (repeat' split) <;> first | rfl | (exfalso; omega))
    · first | rfl | simp only [ex1s32, ex1s50, ex1s51, nI_1, nI_0]
  · skip
    show GW Z _ _ _ ad (gup (gup u (b + 1) (.inl ((X.2 1), 12, .inr (.inl (mapL bal (fun j => bal j + times.toInt64 * (pd j - sh j)) 12))))) (b + 2) (.inl ((X.2 1), 12, .inr (.inl (mapL dri (fun j => dri j + times.toInt64 * df j) 12))))) _ [(3, .int (nI 12)), (0, .ref (ad b)), (1, .ref (ad d)), (2, .int times)] _ _ 2 []
    obtain ⟨wL1e, hwL1e⟩ : ∃ z, z = gup (gup u (b + 1) (.inl ((X.2 1), 12, .inr (.inl (mapL bal (fun j => bal j + times.toInt64 * (pd j - sh j)) 12))))) (b + 2) (.inl ((X.2 1), 12, .inr (.inl (mapL dri (fun j => dri j + times.toInt64 * df j) 12)))) := ⟨_, rfl⟩
    rw [← hwL1e]
    have hwL1e_0 : wL1e b = some (.inr (1, [.ref (ad (b + 1)), .ref (ad (b + 2)), .ref (ad (b + 3)), .int mc, .int go, .int mk])) := by rw [hwL1e, gup_ne (by omega), gup_ne (by omega)]; exact hb
    have hwL1e_1 : wL1e (b + 1) = some (.inl ((X.2 1), 12, .inr (.inl (mapL bal (fun j => bal j + times.toInt64 * (pd j - sh j)) 12)))) := by rw [hwL1e, gup_ne (by omega), gup_self]
    have hwL1e_2 : wL1e (b + 2) = some (.inl ((X.2 1), 12, .inr (.inl (mapL dri (fun j => dri j + times.toInt64 * df j) 12)))) := by rw [hwL1e, gup_self]
    have hwL1e_3 : wL1e d = some (.inr (0, [ow, .long cc, .ref (ad (d + 1)), .ref (ad (d + 2)), .ref (ad (d + 3)), .int stk])) := by rw [hwL1e, gup_ne (by omega), gup_ne (by omega)]; exact hd
    have hwL1e_4 : wL1e (d + 1) = some (.inl ((X.2 1), 12, .inr (.inl pd))) := by rw [hwL1e, gup_ne (by omega), gup_ne (by omega)]; exact hd1
    have hwL1e_5 : wL1e (d + 2) = some (.inl ((X.2 1), 12, .inr (.inl sh))) := by rw [hwL1e, gup_ne (by omega), gup_ne (by omega)]; exact hd2
    have hwL1e_6 : wL1e (d + 3) = some (.inl ((X.2 1), 12, .inr (.inl df))) := by rw [hwL1e, gup_ne (by omega), gup_ne (by omega)]; exact hd3
    refine g_iload_n C d_C_book_2 rfl 0 rfl ?_
    refine g_bipush (v := 12) C d_C_book_3 (by decide) ?_
    refine g_icmp_ge 57 C d_C_book_5 (by decide) (fun c1e5 => ?_) (fun c1e5 => ?_)
    rotate_left
    · exact absurd (by decide) c1e5
    exact g_vret C hR hret ⟨rfl, (by first | (rw [hwL1e]; done) | (rw [hwL1e]; funext k; simp only [gup]; (repeat' split) <;> first | rfl | (exfalso; omega))), rfl⟩ d_C_book_57

set_option maxHeartbeats 4000000 in
set_option maxRecDepth 100000 in
/-- Club.makeTransfer -/
theorem k_C_makeTransfer (l : Launch) (X : gX) (ad : Nat → Nat) (u : gW) (sz : Nat) (b : Nat) (bal : Nat → Int64) (se ge : Nat → Int32) (am : Nat → Int64) (ti : Nat → Int32) (mc go mk op gc tc wa i : Int32) (hb : u b = some (.inr (1, [.ref (ad (b + 1)), .ref (ad (b + 2)), .ref (ad (b + 3)), .int mc, .int go, .int mk]))) (hb1 : u (b + 1) = some (.inl ((X.2 1), 12, .inr (.inl bal)))) (ht : u (b + 3) = some (.inr (4, [.ref (ad (b + 3 + 1)), .ref (ad (b + 3 + 2)), .ref (ad (b + 3 + 3)), .ref (ad (b + 3 + 4)), .ref (ad (b + 3 + 5)), .int op, .int gc, .int tc, .int wa]))) (ht2 : u (b + 3 + 2) = some (.inl ((X.2 0), 12, .inl se))) (ht3 : u (b + 3 + 3) = some (.inl ((X.2 0), 12, .inl ge))) (ht4 : u (b + 3 + 4) = some (.inl ((X.2 1), 12, .inr (.inl am)))) (ht5 : u (b + 3 + 5) = some (.inl ((X.2 2), 12, .inl ti))) (hi : vp_in i 12) (hs : vp_in (se i.toNatClampNeg) 12) (hg : vp_in (ge i.toNatClampNeg) 12) : gMet l (EE X) y_C_makeTransfer c_C_makeTransfer 2 none ({ frames := 0, cells := 0, slots := 0, locals := 0 }) [.ref (ad b), .int i] ad u sz (fun v u' sz' => v = none ∧ u' = gup (gup (gup u (b + 3 + 5) (.inl ((X.2 2), 12, .inl (upd ti i.toNatClampNeg 1)))) (b + 3) (.inr (4, [.ref (ad (b + 3 + 1)), .ref (ad (b + 3 + 2)), .ref (ad (b + 3 + 3)), .ref (ad (b + 3 + 4)), .ref (ad (b + 3 + 5)), .int op, .int gc, .int tc, .int (wa - 1)]))) (b + 1) (.inl ((X.2 1), 12, .inr (.inl (vp_updL (vp_updL bal ((se i.toNatClampNeg).toNatClampNeg) (bal ((se i.toNatClampNeg).toNatClampNeg) + am i.toNatClampNeg)) ((ge i.toNatClampNeg).toNatClampNeg) ((vp_updL bal ((se i.toNatClampNeg).toNatClampNeg) (bal ((se i.toNatClampNeg).toNatClampNeg) + am i.toNatClampNeg)) ((ge i.toNatClampNeg).toNatClampNeg) - am i.toNatClampNeg))))) ∧ sz' = sz) := by
  refine gMet_of "ExpenseClubs$Club" rfl (by decide) (Nat.le_of_ble_eq_true rfl) (lv := [(0, .ref (ad b)), (1, .int i)]) rfl (fun Z hZl C hR hret hname => ?_)
  refine g_aload_n C d_C_makeTransfer_0 rfl 0 rfl ?_
  refine g_get b 2 C hb rfl i_C (by decide) (gmem wd_164 rfl) rfl rfl d_C_makeTransfer_1 ?_
  refine g_get (b + 3) 4 C ht rfl i_S (by decide) (gmem wd_128 rfl) rfl rfl d_C_makeTransfer_4 ?_
  refine g_iload_n C d_C_makeTransfer_7 rfl 1 rfl ?_
  refine g_iconst (v := 1) C d_C_makeTransfer_8 (by decide) ?_
  refine g_zast (b + 3 + 5) 2 C ht5 rfl hi d_C_makeTransfer_9 ?_
  rw [show vp_nar .boolean 1 = 1 from rfl]
  obtain ⟨u1, hu1⟩ : ∃ z, z = gup u (b + 3 + 5) (.inl ((X.2 2), 12, .inl (upd ti (Int32.toNatClampNeg i) 1))) := ⟨_, rfl⟩
  rw [← hu1]
  have hu1_0 : u1 b = some (.inr (1, [.ref (ad (b + 1)), .ref (ad (b + 2)), .ref (ad (b + 3)), .int mc, .int go, .int mk])) := by rw [hu1, gup_ne (by omega)]; exact hb
  have hu1_1 : u1 (b + 1) = some (.inl ((X.2 1), 12, .inr (.inl bal))) := by rw [hu1, gup_ne (by omega)]; exact hb1
  have hu1_2 : u1 (b + 3) = some (.inr (4, [.ref (ad (b + 3 + 1)), .ref (ad (b + 3 + 2)), .ref (ad (b + 3 + 3)), .ref (ad (b + 3 + 4)), .ref (ad (b + 3 + 5)), .int op, .int gc, .int tc, .int wa])) := by rw [hu1, gup_ne (by omega)]; exact ht
  have hu1_3 : u1 (b + 3 + 2) = some (.inl ((X.2 0), 12, .inl se)) := by rw [hu1, gup_ne (by omega)]; exact ht2
  have hu1_4 : u1 (b + 3 + 3) = some (.inl ((X.2 0), 12, .inl ge)) := by rw [hu1, gup_ne (by omega)]; exact ht3
  have hu1_5 : u1 (b + 3 + 4) = some (.inl ((X.2 1), 12, .inr (.inl am))) := by rw [hu1, gup_ne (by omega)]; exact ht4
  have hu1_6 : u1 (b + 3 + 5) = some (.inl ((X.2 2), 12, .inl (upd ti (Int32.toNatClampNeg i) 1))) := by rw [hu1]; exact gup_self _ _ _
  refine g_aload_n C d_C_makeTransfer_10 rfl 0 rfl ?_
  refine g_get b 2 C hu1_0 rfl i_C (by decide) (gmem wd_164 rfl) rfl rfl d_C_makeTransfer_11 ?_
  refine g_dup C d_C_makeTransfer_14 rfl ?_
  refine g_get (b + 3) 8 C hu1_2 rfl i_S (by decide) (gmem wd_138 rfl) rfl rfl d_C_makeTransfer_15 ?_
  refine g_iconst (v := 1) C d_C_makeTransfer_18 (by decide) ?_
  refine g_isub C d_C_makeTransfer_19 ?_
  refine g_topi (fun x20 ex20 => ?_)
  refine g_put (b + 3) 8 C hu1_2 rfl i_S t_S t_S_ok n_S (by decide) (gmem wd_138 rfl) rfl rfl rfl rfl (Nat.le_of_ble_eq_true rfl) d_C_makeTransfer_20 ?_
  show GW Z _ _ _ ad (gup u1 (b + 3) (.inr (4, [.ref (ad (b + 3 + 1)), .ref (ad (b + 3 + 2)), .ref (ad (b + 3 + 3)), .ref (ad (b + 3 + 4)), .ref (ad (b + 3 + 5)), .int op, .int gc, .int tc, .int x20]))) _ _ _ _ _ _
  obtain ⟨u2, hu2⟩ : ∃ z, z = gup u1 (b + 3) (.inr (4, [.ref (ad (b + 3 + 1)), .ref (ad (b + 3 + 2)), .ref (ad (b + 3 + 3)), .ref (ad (b + 3 + 4)), .ref (ad (b + 3 + 5)), .int op, .int gc, .int tc, .int x20])) := ⟨_, rfl⟩
  rw [← hu2]
  have hu2_0 : u2 b = some (.inr (1, [.ref (ad (b + 1)), .ref (ad (b + 2)), .ref (ad (b + 3)), .int mc, .int go, .int mk])) := by rw [hu2, gup_ne (by omega)]; exact hu1_0
  have hu2_1 : u2 (b + 1) = some (.inl ((X.2 1), 12, .inr (.inl bal))) := by rw [hu2, gup_ne (by omega)]; exact hu1_1
  have hu2_2 : u2 (b + 3) = some (.inr (4, [.ref (ad (b + 3 + 1)), .ref (ad (b + 3 + 2)), .ref (ad (b + 3 + 3)), .ref (ad (b + 3 + 4)), .ref (ad (b + 3 + 5)), .int op, .int gc, .int tc, .int x20])) := by rw [hu2]; exact gup_self _ _ _
  have hu2_3 : u2 (b + 3 + 2) = some (.inl ((X.2 0), 12, .inl se)) := by rw [hu2, gup_ne (by omega)]; exact hu1_3
  have hu2_4 : u2 (b + 3 + 3) = some (.inl ((X.2 0), 12, .inl ge)) := by rw [hu2, gup_ne (by omega)]; exact hu1_4
  have hu2_5 : u2 (b + 3 + 4) = some (.inl ((X.2 1), 12, .inr (.inl am))) := by rw [hu2, gup_ne (by omega)]; exact hu1_5
  have hu2_6 : u2 (b + 3 + 5) = some (.inl ((X.2 2), 12, .inl (upd ti (Int32.toNatClampNeg i) 1))) := by rw [hu2, gup_ne (by omega)]; exact hu1_6
  refine g_aload_n C d_C_makeTransfer_23 rfl 0 rfl ?_
  refine g_get b 0 C hu2_0 rfl i_C (by decide) (gmem wd_160 rfl) rfl rfl d_C_makeTransfer_24 ?_
  refine g_aload_n C d_C_makeTransfer_27 rfl 0 rfl ?_
  refine g_get b 2 C hu2_0 rfl i_C (by decide) (gmem wd_164 rfl) rfl rfl d_C_makeTransfer_28 ?_
  refine g_get (b + 3) 1 C hu2_2 rfl i_S (by decide) (gmem wd_119 rfl) rfl rfl d_C_makeTransfer_31 ?_
  refine g_iload_n C d_C_makeTransfer_34 rfl 1 rfl ?_
  refine g_iald (b + 3 + 2) 0 C hu2_3 rfl hi d_C_makeTransfer_35 ?_
  refine g_dup2_11 C d_C_makeTransfer_36 rfl rfl ?_
  refine g_lald (b + 1) 1 C hu2_1 rfl hs d_C_makeTransfer_37 ?_
  refine g_aload_n C d_C_makeTransfer_38 rfl 0 rfl ?_
  refine g_get b 2 C hu2_0 rfl i_C (by decide) (gmem wd_164 rfl) rfl rfl d_C_makeTransfer_39 ?_
  refine g_get (b + 3) 3 C hu2_2 rfl i_S (by decide) (gmem wd_125 rfl) rfl rfl d_C_makeTransfer_42 ?_
  refine g_iload_n C d_C_makeTransfer_45 rfl 1 rfl ?_
  refine g_lald (b + 3 + 4) 1 C hu2_5 rfl hi d_C_makeTransfer_46 ?_
  refine g_ladd C d_C_makeTransfer_47 ?_
  refine g_topl (fun x48 ex48 => ?_)
  refine g_last (b + 1) 1 C hu2_1 rfl hs d_C_makeTransfer_48 ?_
  obtain ⟨u3, hu3⟩ : ∃ z, z = gup u2 (b + 1) (.inl ((X.2 1), 12, .inr (.inl (vp_updL bal (Int32.toNatClampNeg (se (Int32.toNatClampNeg i))) x48)))) := ⟨_, rfl⟩
  rw [← hu3]
  have hu3_0 : u3 b = some (.inr (1, [.ref (ad (b + 1)), .ref (ad (b + 2)), .ref (ad (b + 3)), .int mc, .int go, .int mk])) := by rw [hu3, gup_ne (by omega)]; exact hu2_0
  have hu3_1 : u3 (b + 1) = some (.inl ((X.2 1), 12, .inr (.inl (vp_updL bal (Int32.toNatClampNeg (se (Int32.toNatClampNeg i))) x48)))) := by rw [hu3]; exact gup_self _ _ _
  have hu3_2 : u3 (b + 3) = some (.inr (4, [.ref (ad (b + 3 + 1)), .ref (ad (b + 3 + 2)), .ref (ad (b + 3 + 3)), .ref (ad (b + 3 + 4)), .ref (ad (b + 3 + 5)), .int op, .int gc, .int tc, .int x20])) := by rw [hu3, gup_ne (by omega)]; exact hu2_2
  have hu3_3 : u3 (b + 3 + 2) = some (.inl ((X.2 0), 12, .inl se)) := by rw [hu3, gup_ne (by omega)]; exact hu2_3
  have hu3_4 : u3 (b + 3 + 3) = some (.inl ((X.2 0), 12, .inl ge)) := by rw [hu3, gup_ne (by omega)]; exact hu2_4
  have hu3_5 : u3 (b + 3 + 4) = some (.inl ((X.2 1), 12, .inr (.inl am))) := by rw [hu3, gup_ne (by omega)]; exact hu2_5
  have hu3_6 : u3 (b + 3 + 5) = some (.inl ((X.2 2), 12, .inl (upd ti (Int32.toNatClampNeg i) 1))) := by rw [hu3, gup_ne (by omega)]; exact hu2_6
  refine g_aload_n C d_C_makeTransfer_49 rfl 0 rfl ?_
  refine g_get b 0 C hu3_0 rfl i_C (by decide) (gmem wd_160 rfl) rfl rfl d_C_makeTransfer_50 ?_
  refine g_aload_n C d_C_makeTransfer_53 rfl 0 rfl ?_
  refine g_get b 2 C hu3_0 rfl i_C (by decide) (gmem wd_164 rfl) rfl rfl d_C_makeTransfer_54 ?_
  refine g_get (b + 3) 2 C hu3_2 rfl i_S (by decide) (gmem wd_122 rfl) rfl rfl d_C_makeTransfer_57 ?_
  refine g_iload_n C d_C_makeTransfer_60 rfl 1 rfl ?_
  refine g_iald (b + 3 + 3) 0 C hu3_4 rfl hi d_C_makeTransfer_61 ?_
  refine g_dup2_11 C d_C_makeTransfer_62 rfl rfl ?_
  refine g_lald (b + 1) 1 C hu3_1 rfl hg d_C_makeTransfer_63 ?_
  refine g_aload_n C d_C_makeTransfer_64 rfl 0 rfl ?_
  refine g_get b 2 C hu3_0 rfl i_C (by decide) (gmem wd_164 rfl) rfl rfl d_C_makeTransfer_65 ?_
  refine g_get (b + 3) 3 C hu3_2 rfl i_S (by decide) (gmem wd_125 rfl) rfl rfl d_C_makeTransfer_68 ?_
  refine g_iload_n C d_C_makeTransfer_71 rfl 1 rfl ?_
  refine g_lald (b + 3 + 4) 1 C hu3_5 rfl hi d_C_makeTransfer_72 ?_
  refine g_lsub C d_C_makeTransfer_73 ?_
  refine g_topl (fun x74 ex74 => ?_)
  refine g_last (b + 1) 1 C hu3_1 rfl hg d_C_makeTransfer_74 ?_
  obtain ⟨u4, hu4⟩ : ∃ z, z = gup u3 (b + 1) (.inl ((X.2 1), 12, .inr (.inl (vp_updL (vp_updL bal (Int32.toNatClampNeg (se (Int32.toNatClampNeg i))) x48) (Int32.toNatClampNeg (ge (Int32.toNatClampNeg i))) x74)))) := ⟨_, rfl⟩
  rw [← hu4]
  have hu4_0 : u4 b = some (.inr (1, [.ref (ad (b + 1)), .ref (ad (b + 2)), .ref (ad (b + 3)), .int mc, .int go, .int mk])) := by rw [hu4, gup_ne (by omega)]; exact hu3_0
  have hu4_1 : u4 (b + 1) = some (.inl ((X.2 1), 12, .inr (.inl (vp_updL (vp_updL bal (Int32.toNatClampNeg (se (Int32.toNatClampNeg i))) x48) (Int32.toNatClampNeg (ge (Int32.toNatClampNeg i))) x74)))) := by rw [hu4]; exact gup_self _ _ _
  have hu4_2 : u4 (b + 3) = some (.inr (4, [.ref (ad (b + 3 + 1)), .ref (ad (b + 3 + 2)), .ref (ad (b + 3 + 3)), .ref (ad (b + 3 + 4)), .ref (ad (b + 3 + 5)), .int op, .int gc, .int tc, .int x20])) := by rw [hu4, gup_ne (by omega)]; exact hu3_2
  have hu4_3 : u4 (b + 3 + 2) = some (.inl ((X.2 0), 12, .inl se)) := by rw [hu4, gup_ne (by omega)]; exact hu3_3
  have hu4_4 : u4 (b + 3 + 3) = some (.inl ((X.2 0), 12, .inl ge)) := by rw [hu4, gup_ne (by omega)]; exact hu3_4
  have hu4_5 : u4 (b + 3 + 4) = some (.inl ((X.2 1), 12, .inr (.inl am))) := by rw [hu4, gup_ne (by omega)]; exact hu3_5
  have hu4_6 : u4 (b + 3 + 5) = some (.inl ((X.2 2), 12, .inl (upd ti (Int32.toNatClampNeg i) 1))) := by rw [hu4, gup_ne (by omega)]; exact hu3_6
  exact g_vret C hR hret ⟨rfl, (by rw [hu4, hu3, hu2, hu1]; simp only [ex20, ex48, ex74]; funext k; simp only [gup]; (repeat' split) <;> first | rfl | (exfalso; omega)), rfl⟩ d_C_makeTransfer_75
end
section
def mostW (way : Int32) : Int32 := if way = 1 then 1 else if way = 2 then 1000 else if way = 3 then 100000000 else if way = 4 then 10000 else 0
def shf : Nat → Int32
  | 0 => 40
  | 1 => 20
  | 2 => 0
  | _ => -20
theorem shf_nn {i : Nat} (h : i < 3) : ¬ shf i < 0 := (show ∀ i, i < 3 → ¬ shf i < 0 by decide +kernel) i h
theorem shf_s {i : Nat} (h : i < 3) : shf i + (-20) = shf (i + 1) := (show ∀ i, i < 3 → shf i + (-20) = shf (i + 1) by decide +kernel) i h
def porT (a w : Int64) (i : Nat) (r : Int64) : Int64 := (r <<< (Int32.toInt64 20 &&& 63)) + ((a >>> ((shf i).toInt64 &&& 63)) &&& 1048575) * w
def porS (a w s : Int64) : Nat → Int64 × Int64
  | 0 => (0, 0)
  | i + 1 => (((porS a w s i).1 <<< (Int32.toInt64 20 &&& 63)) + porT a w i (porS a w s i).2 / s, porT a w i (porS a w s i).2 - porT a w i (porS a w s i).2 / s * s)
def por (a w s : Int64) : Int64 := if 0 < s then (porS a w s 3).1 else 0
theorem l_pos_ne {s : Int64} (h : 0 < s) : ¬ s = 0 := by
  intro e; rw [e] at h; exact absurd h (by decide)
def wantS (a : Int64) (g : Nat → Int64) : Nat → Int64
  | 0 => a
  | i + 1 => wantS a g i - g i
def handS (w : Nat → Int64) (s0 : Nat) (p0 : Nat → Int64) (w0 : Int64) : Nat → (Nat → Int64) × Int64 × Nat
  | 0 => (p0, w0, s0)
  | k + 1 => if ¬ (handS w s0 p0 w0 k).2.1 ≤ 0 ∧ ¬ w ((s0 + k) % 12) ≤ 0 then (vp_updL (handS w s0 p0 w0 k).1 ((s0 + k) % 12) ((handS w s0 p0 w0 k).1 ((s0 + k) % 12) + 1), (handS w s0 p0 w0 k).2.1 - 1, ((s0 + k) % 12 + 1) % 12) else handS w s0 p0 w0 k
theorem handS_t {w : Nat → Int64} {s0 : Nat} {p0 : Nat → Int64} {w0 : Int64} {k : Nat} (h1 : ¬ (handS w s0 p0 w0 k).2.1 ≤ 0) (h2 : ¬ w ((s0 + k) % 12) ≤ 0) : handS w s0 p0 w0 (k + 1) = (vp_updL (handS w s0 p0 w0 k).1 ((s0 + k) % 12) ((handS w s0 p0 w0 k).1 ((s0 + k) % 12) + 1), (handS w s0 p0 w0 k).2.1 - 1, ((s0 + k) % 12 + 1) % 12) := if_pos ⟨h1, h2⟩
theorem handS_f1 {w : Nat → Int64} {s0 : Nat} {p0 : Nat → Int64} {w0 : Int64} {k : Nat} (h1 : (handS w s0 p0 w0 k).2.1 ≤ 0) : handS w s0 p0 w0 (k + 1) = handS w s0 p0 w0 k := if_neg (fun h => h.1 h1)
theorem handS_f2 {w : Nat → Int64} {s0 : Nat} {p0 : Nat → Int64} {w0 : Int64} {k : Nat} (h2 : w ((s0 + k) % 12) ≤ 0) : handS w s0 p0 w0 (k + 1) = handS w s0 p0 w0 k := if_neg (fun h => h.2 h2)
theorem rem12 {a : Nat} (h : a < 2 ^ 31) : nI a - nI a / 12 * 12 = nI (a % 12) := pk_rem (d := 12) h (by decide) (by decide)
/-- the cents by weights, and those that are wanting handed out from s0 on -/
def cutG (a : Int64) (w : Nat → Int64) : Nat → Int64 := fun j => por a (w j) (sumL w 12)
def cutS (a : Int64) (w : Nat → Int64) (s0 : Nat) (p : Nat → Int64) : (Nat → Int64) × Int64 × Nat := handS w s0 (mapL p (cutG a w) 12) (wantS a (cutG a w) 12) 12
theorem handS_lt {w : Nat → Int64} {s0 : Nat} {p0 : Nat → Int64} {w0 : Int64} (h : s0 < 12) (k : Nat) : (handS w s0 p0 w0 k).2.2 < 12 := by
  induction k with
  | zero => exact h
  | succ k ih =>
    unfold handS
    split
    · exact Nat.mod_lt _ (by decide)
    · exact ih

set_option maxHeartbeats 4000000 in
set_option maxRecDepth 100000 in
/-- mostWeight -/
theorem k_X_mostWeight (l : Launch) (X : gX) (ad : Nat → Nat) (u : gW) (sz : Nat) (w : Int32)   : gMet l (EE X) y_X_mostWeight c_X_mostWeight 1 (some .int) ({ frames := 0, cells := 0, slots := 0, locals := 0 }) [.int w] ad u sz (fun v u' sz' => v = some (.int (mostW w)) ∧ u' = u ∧ sz' = sz) := by
  refine gMet_of "ExpenseClubs" rfl (by decide) (Nat.le_of_ble_eq_true rfl) (lv := [(0, .int w)]) rfl (fun Z hZl C hR hret hname => ?_)
  refine g_iload_n C d_X_mostWeight_0 rfl 0 rfl ?_
  by_cases c1_1 : w = 1
  · refine g_tableIn (off := 31) 32 C d_X_mostWeight_1 (by rw [c1_1]; decide) (by rw [c1_1]; decide) (by rw [c1_1]; rfl) (by decide) ?_
    refine g_iconst (v := 1) C d_X_mostWeight_32 (by decide) ?_
    exact g_iret C hR hret ⟨by simp_all [mostW], rfl, rfl⟩ d_X_mostWeight_33
  by_cases c1_2 : w = 2
  · refine g_tableIn (off := 33) 34 C d_X_mostWeight_1 (by rw [c1_2]; decide) (by rw [c1_2]; decide) (by rw [c1_2]; rfl) (by decide) ?_
    refine g_sipush (v := 1000) C d_X_mostWeight_34 (by decide) ?_
    exact g_iret C hR hret ⟨by simp_all [mostW], rfl, rfl⟩ d_X_mostWeight_37
  by_cases c1_3 : w = 3
  · refine g_tableIn (off := 37) 38 C d_X_mostWeight_1 (by rw [c1_3]; decide) (by rw [c1_3]; decide) (by rw [c1_3]; rfl) (by decide) ?_
    refine g_ldc C (gmem wd_213 rfl) d_X_mostWeight_38 ?_
    exact g_iret C hR hret ⟨by simp_all [mostW], rfl, rfl⟩ d_X_mostWeight_40
  by_cases c1_4 : w = 4
  · refine g_tableIn (off := 40) 41 C d_X_mostWeight_1 (by rw [c1_4]; decide) (by rw [c1_4]; decide) (by rw [c1_4]; rfl) (by decide) ?_
    refine g_sipush (v := 10000) C d_X_mostWeight_41 (by decide) ?_
    exact g_iret C hR hret ⟨by simp_all [mostW], rfl, rfl⟩ d_X_mostWeight_44
  refine g_tableOut 45 C d_X_mostWeight_1 (by have h0 := lv_neT c1_1 (a := 1) (by decide); have h1 := lv_neT c1_2 (a := 2) (by decide); have h2 := lv_neT c1_3 (a := 3) (by decide); have h3 := lv_neT c1_4 (a := 4) (by decide); omega) (by decide) ?_
  refine g_iconst (v := 0) C d_X_mostWeight_45 (by decide) ?_
  exact g_iret C hR hret ⟨by simp_all [mostW], rfl, rfl⟩ d_X_mostWeight_46

set_option maxHeartbeats 4000000 in
set_option maxRecDepth 100000 in
/-- sumOf -/
theorem k_X_sumOf (l : Launch) (X : gX) (ad : Nat → Nat) (u : gW) (sz : Nat) (n : Nat) (f : Nat → Int64) (hn : u n = some (.inl ((X.2 1), 12, .inr (.inl f))))  : gMet l (EE X) y_X_sumOf c_X_sumOf 4 (some .long) ({ frames := 0, cells := 0, slots := 0, locals := 0 }) [.ref (ad n)] ad u sz (fun v u' sz' => v = some (.long (sumL f 12)) ∧ u' = u ∧ sz' = sz) := by
  refine gMet_of "ExpenseClubs" rfl (by decide) (Nat.le_of_ble_eq_true rfl) (lv := [(0, .ref (ad n))]) rfl (fun Z hZl C hR hret hname => ?_)
  refine g_lconst (v := 0) C d_X_sumOf_0 (by decide) ?_
  refine g_lstore_n C d_X_sumOf_1 rfl [(1, .long 0), (0, .ref (ad n))] (by decide) rfl ?_
  refine g_iconst (v := 0) C d_X_sumOf_2 (by decide) ?_
  refine g_istore_n C d_X_sumOf_3 rfl [(3, .int 0), (1, .long 0), (0, .ref (ad n))] (by decide) rfl ?_
  refine g_fewer (lv' := [(0, .ref (ad n)), (1, .long 0), (3, .int 0)]) [2, 1, 0] rfl ?_
  refine GW_eq (u2 := u) (lv2 := [(0, .ref (ad n)), (1, .long (sumL f 0)), (3, .int (nI 0))]) rfl rfl ?_
  refine g_loop 12 (fun iL1 => True) (fun iL1 => u) (fun iL1 => [(0, .ref (ad n)), (1, .long (sumL f iL1)), (3, .int (nI iL1))]) (fun iL1 hiL1 piL1 KL1 => ?_) (fun piL1 => ?_) 0 (by omega) trivial
  · skip
    show GW Z _ _ _ ad (u) _ [(0, .ref (ad n)), (1, .long (sumL f iL1)), (3, .int (nI iL1))] _ _ 4 []
    obtain ⟨wL1s, hwL1s⟩ : ∃ z, z = u := ⟨_, rfl⟩
    rw [← hwL1s]
    have hwL1s_0 : wL1s n = some (.inl ((X.2 1), 12, .inr (.inl f))) := by rw [hwL1s]; exact hn
    refine g_iload_n C d_X_sumOf_4 rfl 2 rfl ?_
    refine g_bipush (v := 12) C d_X_sumOf_5 (by decide) ?_
    refine g_icmp_ge 22 C d_X_sumOf_7 (by decide) (fun c1s7 => ?_) (fun c1s7 => ?_)
    · exact absurd c1s7 (ge12 hiL1)
    refine g_lload_n C d_X_sumOf_10 rfl 1 rfl ?_
    refine g_aload_n C d_X_sumOf_11 rfl 0 rfl ?_
    refine g_iload_n C d_X_sumOf_12 rfl 2 rfl ?_
    refine g_lald n 1 C hwL1s_0 rfl (vp_in_nI (by omega) (by decide)) d_X_sumOf_13 ?_
    rw [show Int32.toNatClampNeg (nI iL1) = iL1 from nI_clamp (by omega)]
    refine g_ladd C d_X_sumOf_14 ?_
    refine g_topl (fun x1s15 ex1s15 => ?_)
    refine g_lstore_n C d_X_sumOf_15 rfl [(1, .long x1s15), (0, .ref (ad n)), (3, .int (nI iL1))] (by decide) rfl ?_
    obtain ⟨x1s16, ex1s16⟩ : ∃ y : Int32, y = (nI iL1) + 1 := ⟨_, rfl⟩
    refine g_iinc (v := x1s16) C d_X_sumOf_16 2 rfl (by rw [ex1s16]; rfl) [(3, .int x1s16), (1, .long x1s15), (0, .ref (ad n))] (by decide) rfl ?_
    refine g_goto 4 C d_X_sumOf_19 (by decide) ?_
    refine g_fewer (lv' := [(0, .ref (ad n)), (1, .long x1s15), (3, .int x1s16)]) [2, 1, 0] rfl ?_
    refine GW_eq (u2 := u) (lv2 := [(0, .ref (ad n)), (1, .long (sumL f (iL1 + 1))), (3, .int (nI (iL1 + 1)))]) ?_ ?_ (KL1 trivial)
    · first | (rw [hwL1s]; done) | (rw [hwL1s]; funext k; simp only [gup]; (repeat' split) <;> first | with_reducible rfl | (exfalso; omega) | rfl)
    · simp only [ex1s15, ex1s16, nI_1]; rfl
  · skip
    show GW Z _ _ _ ad (u) _ [(0, .ref (ad n)), (1, .long (sumL f 12)), (3, .int (nI 12))] _ _ 4 []
    obtain ⟨wL1e, hwL1e⟩ : ∃ z, z = u := ⟨_, rfl⟩
    rw [← hwL1e]
    have hwL1e_0 : wL1e n = some (.inl ((X.2 1), 12, .inr (.inl f))) := by rw [hwL1e]; exact hn
    refine g_iload_n C d_X_sumOf_4 rfl 2 rfl ?_
    refine g_bipush (v := 12) C d_X_sumOf_5 (by decide) ?_
    refine g_icmp_ge 22 C d_X_sumOf_7 (by decide) (fun c1e7 => ?_) (fun c1e7 => ?_)
    rotate_left
    · exact absurd (by decide) c1e7
    refine g_lload_n C d_X_sumOf_22 rfl 1 rfl ?_
    exact g_lret C hR hret ⟨rfl, (by first | (rw [hwL1e]; done) | (rw [hwL1e]; funext k; simp only [gup]; (repeat' split) <;> first | with_reducible rfl | (exfalso; omega) | rfl)), rfl⟩ d_X_sumOf_23

set_option maxHeartbeats 4000000 in
set_option maxRecDepth 100000 in
/-- portion -/
theorem k_X_portion (l : Launch) (X : gX) (ad : Nat → Nat) (u : gW) (sz : Nat) (a w s : Int64)   : gMet l (EE X) y_X_portion c_X_portion 15 (some .long) ({ frames := 0, cells := 0, slots := 0, locals := 0 }) [.long a, .long w, .long s] ad u sz (fun v u' sz' => v = some (.long (por a w s)) ∧ u' = u ∧ sz' = sz) := by
  refine gMet_of "ExpenseClubs" rfl (by decide) (Nat.le_of_ble_eq_true rfl) (lv := [(0, .long a), (2, .long w), (4, .long s)]) rfl (fun Z hZl C hR hret hname => ?_)
  refine g_lload C d_X_portion_0 2 rfl ?_
  refine g_lconst (v := 0) C d_X_portion_2 (by decide) ?_
  refine g_lcmp C d_X_portion_3 ?_
  refine g_if_gt 9 C d_X_portion_4 (by decide) (fun c4 => ?_) (fun c4 => ?_)
  · rw [lg_cmp_gt] at c4
    refine g_lconst (v := 0) C d_X_portion_9 (by decide) ?_
    refine g_lstore C d_X_portion_10 [(6, .long 0), (0, .long a), (2, .long w), (4, .long s)] (by decide) rfl ?_
    refine g_lconst (v := 0) C d_X_portion_12 (by decide) ?_
    refine g_lstore C d_X_portion_13 [(8, .long 0), (6, .long 0), (0, .long a), (2, .long w), (4, .long s)] (by decide) rfl ?_
    refine g_bipush (v := 40) C d_X_portion_15 (by decide) ?_
    refine g_istore C d_X_portion_17 [(10, .int 40), (8, .long 0), (6, .long 0), (0, .long a), (2, .long w), (4, .long s)] (by decide) rfl ?_
    refine g_fewer (lv' := [(0, .long a), (2, .long w), (4, .long s), (6, .long 0), (8, .long 0), (10, .int 40)]) [3, 4, 5, 2, 1, 0] rfl ?_
    refine GW_eq (u2 := u) (lv2 := [(0, .long a), (2, .long w), (4, .long s), (6, .long ((porS a w s 0).1)), (8, .long ((porS a w s 0).2)), (10, .int (shf 0))]) rfl rfl ?_
    refine g_loop 3 (fun iL2 => True) (fun iL2 => u) (fun iL2 => [(0, .long a), (2, .long w), (4, .long s), (6, .long ((porS a w s iL2).1)), (8, .long ((porS a w s iL2).2)), (10, .int (shf iL2))]) (fun iL2 hiL2 piL2 KL2 => ?_) (fun piL2 => ?_) 0 (by omega) trivial
    · skip
      show GW Z _ _ _ ad (u) _ [(0, .long a), (2, .long w), (4, .long s), (6, .long ((porS a w s iL2).1)), (8, .long ((porS a w s iL2).2)), (10, .int (shf iL2))] _ _ 19 []
      obtain ⟨wL2s, hwL2s⟩ : ∃ z, z = u := ⟨_, rfl⟩
      rw [← hwL2s]
      refine g_iload C d_X_portion_19 5 rfl ?_
      refine g_if_lt 72 C d_X_portion_21 (by decide) (fun c2s21 => ?_) (fun c2s21 => ?_)
      · exact absurd c2s21 (shf_nn hiL2)
      refine g_lload_n C d_X_portion_24 rfl 0 rfl ?_
      refine g_iload C d_X_portion_25 5 rfl ?_
      refine g_lshr C d_X_portion_27 ?_
      refine g_ldc2 C (gmem wd_320 rfl) d_X_portion_28 ?_
      refine g_land C d_X_portion_31 ?_
      refine g_topl (fun x2s32 ex2s32 => ?_)
      refine g_lstore C d_X_portion_32 [(11, .long x2s32), (0, .long a), (2, .long w), (4, .long s), (6, .long ((porS a w s iL2).1)), (8, .long ((porS a w s iL2).2)), (10, .int (shf iL2))] (by decide) rfl ?_
      refine g_lload C d_X_portion_34 5 rfl ?_
      refine g_bipush (v := 20) C d_X_portion_36 (by decide) ?_
      refine g_lshl C d_X_portion_38 ?_
      refine g_lload C d_X_portion_39 0 rfl ?_
      refine g_lload_n C d_X_portion_41 rfl 2 rfl ?_
      refine g_lmul C d_X_portion_42 ?_
      refine g_ladd C d_X_portion_43 ?_
      refine g_topl (fun x2s44 ex2s44 => ?_)
      refine g_lstore C d_X_portion_44 [(13, .long x2s44), (11, .long x2s32), (0, .long a), (2, .long w), (4, .long s), (6, .long ((porS a w s iL2).1)), (8, .long ((porS a w s iL2).2)), (10, .int (shf iL2))] (by decide) rfl ?_
      refine g_lload C d_X_portion_46 5 rfl ?_
      refine g_bipush (v := 20) C d_X_portion_48 (by decide) ?_
      refine g_lshl C d_X_portion_50 ?_
      refine g_lload C d_X_portion_51 0 rfl ?_
      refine g_lload C d_X_portion_53 4 rfl ?_
      refine g_ldiv C d_X_portion_55 (l_pos_ne c4) ?_
      refine g_ladd C d_X_portion_56 ?_
      refine g_topl (fun x2s57 ex2s57 => ?_)
      refine g_lstore C d_X_portion_57 [(6, .long x2s57), (13, .long x2s44), (11, .long x2s32), (0, .long a), (2, .long w), (4, .long s), (8, .long ((porS a w s iL2).2)), (10, .int (shf iL2))] (by decide) rfl ?_
      refine g_lload C d_X_portion_59 1 rfl ?_
      refine g_lload C d_X_portion_61 5 rfl ?_
      refine g_lrem C d_X_portion_63 (l_pos_ne c4) ?_
      refine g_topl (fun x2s64 ex2s64 => ?_)
      refine g_lstore C d_X_portion_64 [(8, .long x2s64), (6, .long x2s57), (13, .long x2s44), (11, .long x2s32), (0, .long a), (2, .long w), (4, .long s), (10, .int (shf iL2))] (by decide) rfl ?_
      obtain ⟨x2s66, ex2s66⟩ : ∃ y : Int32, y = (shf iL2) + (-20) := ⟨_, rfl⟩
      refine g_iinc (v := x2s66) C d_X_portion_66 7 rfl (by rw [ex2s66]; rfl) [(10, .int x2s66), (8, .long x2s64), (6, .long x2s57), (13, .long x2s44), (11, .long x2s32), (0, .long a), (2, .long w), (4, .long s)] (by decide) rfl ?_
      refine g_goto 19 C d_X_portion_69 (by decide) ?_
      refine g_fewer (lv' := [(0, .long a), (2, .long w), (4, .long s), (6, .long x2s57), (8, .long x2s64), (10, .int x2s66)]) [5, 6, 7, 2, 1, 0] rfl ?_
      refine GW_eq (u2 := u) (lv2 := [(0, .long a), (2, .long w), (4, .long s), (6, .long ((porS a w s (iL2 + 1)).1)), (8, .long ((porS a w s (iL2 + 1)).2)), (10, .int (shf (iL2 + 1)))]) ?_ ?_ (KL2 trivial)
      · first | (rw [hwL2s]; done) | (rw [hwL2s]; funext k; simp only [gup]; (repeat' split) <;> first | with_reducible rfl | (exfalso; omega) | rfl)
      · simp only [ex2s32, ex2s44, ex2s57, ex2s64, ex2s66, shf_s hiL2]; rfl
    · skip
      show GW Z _ _ _ ad (u) _ [(0, .long a), (2, .long w), (4, .long s), (6, .long ((porS a w s 3).1)), (8, .long ((porS a w s 3).2)), (10, .int (shf 3))] _ _ 19 []
      obtain ⟨wL2e, hwL2e⟩ : ∃ z, z = u := ⟨_, rfl⟩
      rw [← hwL2e]
      refine g_iload C d_X_portion_19 5 rfl ?_
      refine g_if_lt 72 C d_X_portion_21 (by decide) (fun c2e21 => ?_) (fun c2e21 => ?_)
      rotate_left
      · exact absurd (by decide) c2e21
      refine g_lload C d_X_portion_72 3 rfl ?_
      exact g_lret C hR hret ⟨by simp only [por, if_pos c4], (by first | (rw [hwL2e]; done) | (rw [hwL2e]; funext k; simp only [gup]; (repeat' split) <;> first | with_reducible rfl | (exfalso; omega) | rfl)), rfl⟩ d_X_portion_74
  · rw [lg_cmp_gt] at c4
    refine g_lconst (v := 0) C d_X_portion_7 (by decide) ?_
    exact g_lret C hR hret ⟨by simp only [por, if_neg c4], rfl, rfl⟩ d_X_portion_8

set_option maxHeartbeats 4000000 in
set_option maxRecDepth 100000 in
/-- cut -/
theorem k_X_cut (l : Launch) (X : gX) (ad : Nat → Nat) (u : gW) (sz : Nat) (a : Int64) (n q s0 : Nat) (w p : Nat → Int64) (hn : u n = some (.inl ((X.2 1), 12, .inr (.inl w)))) (hq : u q = some (.inl ((X.2 1), 12, .inr (.inl p)))) (hnq : n ≠ q) (hs0 : s0 < 12) : gMet l (EE X) y_X_cut c_X_cut 12 (some .int) ({ frames := 1, cells := 0, slots := 0, locals := 34 }) [.long a, .ref (ad n), .int (nI s0), .ref (ad q)] ad u sz (fun v u' sz' => v = some (.int (nI (handS w s0 (mapL p (cutG a w) 12) (wantS a (cutG a w) 12) 12).2.2)) ∧ u' = gup u q (.inl ((X.2 1), 12, .inr (.inl ((handS w s0 (mapL p (cutG a w) 12) (wantS a (cutG a w) 12) 12).1)))) ∧ sz' = sz) := by
  refine gMet_of "ExpenseClubs" rfl (by decide) (Nat.le_of_ble_eq_true rfl) (lv := [(0, .long a), (2, .ref (ad n)), (3, .int (nI s0)), (4, .ref (ad q))]) rfl (fun Z hZl C hR hret hname => ?_)
  refine g_aload_n C d_X_cut_0 rfl 1 rfl ?_
  refine g_callS 1 C (k_X_sumOf _ X ad u sz n w hn) (gmem wd_316 rfl) (gmem wd_262 rfl) (gmem wd_1 rfl) (gmem wd_263 rfl) ⟨by decide, by decide, by decide +kernel⟩ ⟨Nat.le_of_ble_eq_true rfl, Nat.le_of_ble_eq_true rfl⟩ rfl rfl (Nat.le_of_ble_eq_true rfl) d_X_cut_1 ⟨Nat.le_of_ble_eq_true rfl, Nat.le_of_ble_eq_true rfl⟩ ?_
  rintro v9 u9 s9 ⟨h9, hu9, hs9⟩; rw [h9, hu9, hs9]; clear h9 hu9 hs9 v9 u9 s9
  show GW Z _ _ _ ad u sz [(0, .long a), (2, .ref (ad n)), (3, .int (nI s0)), (4, .ref (ad q))] 0 0 4 [.long (sumL w 12)]
  refine g_topl (fun x4 ex4 => ?_)
  refine g_lstore C d_X_cut_4 [(5, .long x4), (0, .long a), (2, .ref (ad n)), (3, .int (nI s0)), (4, .ref (ad q))] (by decide) rfl ?_
  refine g_lload_n C d_X_cut_6 rfl 1 rfl ?_
  refine g_lstore C d_X_cut_7 [(7, .long a), (5, .long x4), (0, .long a), (2, .ref (ad n)), (3, .int (nI s0)), (4, .ref (ad q))] (by decide) rfl ?_
  refine g_iconst (v := 0) C d_X_cut_9 (by decide) ?_
  refine g_istore C d_X_cut_10 [(9, .int 0), (7, .long a), (5, .long x4), (0, .long a), (2, .ref (ad n)), (3, .int (nI s0)), (4, .ref (ad q))] (by decide) rfl ?_
  refine g_fewer (lv' := [(0, .long a), (2, .ref (ad n)), (3, .int (nI s0)), (4, .ref (ad q)), (5, .long x4), (7, .long a), (9, .int 0)]) [3, 4, 5, 6, 2, 1, 0] rfl ?_
  refine GW_eq (u2 := gup u q (.inl ((X.2 1), 12, .inr (.inl (mapL p (cutG a w) 0))))) (lv2 := [(0, .long a), (2, .ref (ad n)), (3, .int (nI s0)), (4, .ref (ad q)), (5, .long (sumL w 12)), (7, .long (wantS a (cutG a w) 0)), (9, .int (nI 0))]) (by rw [mapL_0, gup_id hq]) (by simp only [ex4]; rfl) ?_
  refine g_loop 12 (fun iL3 => True) (fun iL3 => gup u q (.inl ((X.2 1), 12, .inr (.inl (mapL p (cutG a w) iL3))))) (fun iL3 => [(0, .long a), (2, .ref (ad n)), (3, .int (nI s0)), (4, .ref (ad q)), (5, .long (sumL w 12)), (7, .long (wantS a (cutG a w) iL3)), (9, .int (nI iL3))]) (fun iL3 hiL3 piL3 KL3 => ?_) (fun piL3 => ?_) 0 (by omega) trivial
  · skip
    show GW Z _ _ _ ad (gup u q (.inl ((X.2 1), 12, .inr (.inl (mapL p (cutG a w) iL3))))) _ [(0, .long a), (2, .ref (ad n)), (3, .int (nI s0)), (4, .ref (ad q)), (5, .long (sumL w 12)), (7, .long (wantS a (cutG a w) iL3)), (9, .int (nI iL3))] _ _ 12 []
    obtain ⟨wL3s, hwL3s⟩ : ∃ z, z = gup u q (.inl ((X.2 1), 12, .inr (.inl (mapL p (cutG a w) iL3)))) := ⟨_, rfl⟩
    rw [← hwL3s]
    have hwL3s_0 : wL3s n = some (.inl ((X.2 1), 12, .inr (.inl w))) := by rw [hwL3s, gup_ne (by omega)]; exact hn
    have hwL3s_1 : wL3s q = some (.inl ((X.2 1), 12, .inr (.inl (mapL p (cutG a w) iL3)))) := by rw [hwL3s, gup_self]
    refine g_iload C d_X_cut_12 6 rfl ?_
    refine g_bipush (v := 12) C d_X_cut_14 (by decide) ?_
    refine g_icmp_ge 50 C d_X_cut_16 (by decide) (fun c3s16 => ?_) (fun c3s16 => ?_)
    · exact absurd c3s16 (ge12 hiL3)
    refine g_aload C d_X_cut_19 3 rfl ?_
    refine g_iload C d_X_cut_21 6 rfl ?_
    refine g_lload_n C d_X_cut_23 rfl 0 rfl ?_
    refine g_aload_n C d_X_cut_24 rfl 1 rfl ?_
    refine g_iload C d_X_cut_25 6 rfl ?_
    refine g_lald n 1 C hwL3s_0 rfl (vp_in_nI (by omega) (by decide)) d_X_cut_27 ?_
    rw [show Int32.toNatClampNeg (nI iL3) = iL3 from nI_clamp (by omega)]
    refine g_lload C d_X_cut_28 4 rfl ?_
    refine g_callS 3 C (k_X_portion _ X ad wL3s sz a (w iL3) (sumL w 12)) (gmem wd_317 rfl) (gmem wd_318 rfl) (gmem wd_1 rfl) (gmem wd_319 rfl) ⟨by decide, by decide, by decide +kernel⟩ ⟨Nat.le_of_ble_eq_true rfl, Nat.le_of_ble_eq_true rfl⟩ rfl rfl (Nat.le_of_ble_eq_true rfl) d_X_cut_30 ⟨Nat.le_of_ble_eq_true rfl, Nat.le_of_ble_eq_true rfl⟩ ?_
    rintro v9 u9 s9 ⟨h9, hu9, hs9⟩; rw [h9, hu9, hs9]; clear h9 hu9 hs9 v9 u9 s9
    show GW Z _ _ _ ad wL3s sz [(0, .long a), (2, .ref (ad n)), (3, .int (nI s0)), (4, .ref (ad q)), (5, .long (sumL w 12)), (7, .long (wantS a (cutG a w) iL3)), (9, .int (nI iL3))] 0 0 33 [.long (por a (w iL3) (sumL w 12)), .int (nI iL3), .ref (ad q)]
    refine g_topl (fun x3s33 ex3s33 => ?_)
    refine g_last q 1 C hwL3s_1 rfl (vp_in_nI (by omega) (by decide)) d_X_cut_33 ?_
    rw [show Int32.toNatClampNeg (nI iL3) = iL3 from nI_clamp (by omega)]
    obtain ⟨u3s1, hu3s1⟩ : ∃ z, z = gup wL3s q (.inl ((X.2 1), 12, .inr (.inl (vp_updL (mapL p (cutG a w) iL3) iL3 x3s33)))) := ⟨_, rfl⟩
    rw [← hu3s1]
    have hu3s1_0 : u3s1 n = some (.inl ((X.2 1), 12, .inr (.inl w))) := by rw [hu3s1, gup_ne (by omega)]; exact hwL3s_0
    have hu3s1_1 : u3s1 q = some (.inl ((X.2 1), 12, .inr (.inl (vp_updL (mapL p (cutG a w) iL3) iL3 x3s33)))) := by rw [hu3s1]; exact gup_self _ _ _
    refine g_lload C d_X_cut_34 5 rfl ?_
    refine g_aload C d_X_cut_36 3 rfl ?_
    refine g_iload C d_X_cut_38 6 rfl ?_
    refine g_lald q 1 C hu3s1_1 rfl (vp_in_nI (by omega) (by decide)) d_X_cut_40 ?_
    rw [show Int32.toNatClampNeg (nI iL3) = iL3 from nI_clamp (by omega)]
    refine g_lsub C d_X_cut_41 ?_
    refine g_topl (fun x3s42 ex3s42 => ?_)
    refine g_lstore C d_X_cut_42 [(7, .long x3s42), (0, .long a), (2, .ref (ad n)), (3, .int (nI s0)), (4, .ref (ad q)), (5, .long (sumL w 12)), (9, .int (nI iL3))] (by decide) rfl ?_
    obtain ⟨x3s44, ex3s44⟩ : ∃ y : Int32, y = (nI iL3) + 1 := ⟨_, rfl⟩
    refine g_iinc (v := x3s44) C d_X_cut_44 6 rfl (by rw [ex3s44]; rfl) [(9, .int x3s44), (7, .long x3s42), (0, .long a), (2, .ref (ad n)), (3, .int (nI s0)), (4, .ref (ad q)), (5, .long (sumL w 12))] (by decide) rfl ?_
    refine g_goto 12 C d_X_cut_47 (by decide) ?_
    refine g_fewer (lv' := [(0, .long a), (2, .ref (ad n)), (3, .int (nI s0)), (4, .ref (ad q)), (5, .long (sumL w 12)), (7, .long x3s42), (9, .int x3s44)]) [2, 3, 4, 5, 6, 1, 0] rfl ?_
    refine GW_eq (u2 := gup u q (.inl ((X.2 1), 12, .inr (.inl (mapL p (cutG a w) (iL3 + 1)))))) (lv2 := [(0, .long a), (2, .ref (ad n)), (3, .int (nI s0)), (4, .ref (ad q)), (5, .long (sumL w 12)), (7, .long (wantS a (cutG a w) (iL3 + 1))), (9, .int (nI (iL3 + 1)))]) ?_ ?_ (KL3 trivial)
    · first | (rw [hu3s1, hwL3s]; done) | (rw [hu3s1, hwL3s]; simp only [ex3s33, ex3s42, ex3s44]; done) | (rw [hu3s1, hwL3s]; simp only [ex3s33, ex3s42, ex3s44]; rw [mapL_s (x := por a (w iL3) (sumL w 12)) (g := cutG a w) rfl]; done) | (rw [hu3s1, hwL3s]; simp only [ex3s33, ex3s42, ex3s44]; rw [mapL_s (x := por a (w iL3) (sumL w 12)) (g := cutG a w) rfl]; funext k; simp only [gup]; (repeat' split) <;> first | with_reducible rfl | (exfalso; omega) | rfl)
    · simp only [ex3s33, ex3s42, ex3s44, pk_uLs, nI_1]; rfl
  · skip
    show GW Z _ _ _ ad (gup u q (.inl ((X.2 1), 12, .inr (.inl (mapL p (cutG a w) 12))))) _ [(0, .long a), (2, .ref (ad n)), (3, .int (nI s0)), (4, .ref (ad q)), (5, .long (sumL w 12)), (7, .long (wantS a (cutG a w) 12)), (9, .int (nI 12))] _ _ 12 []
    obtain ⟨wL3e, hwL3e⟩ : ∃ z, z = gup u q (.inl ((X.2 1), 12, .inr (.inl (mapL p (cutG a w) 12)))) := ⟨_, rfl⟩
    rw [← hwL3e]
    have hwL3e_0 : wL3e n = some (.inl ((X.2 1), 12, .inr (.inl w))) := by rw [hwL3e, gup_ne (by omega)]; exact hn
    have hwL3e_1 : wL3e q = some (.inl ((X.2 1), 12, .inr (.inl (mapL p (cutG a w) 12)))) := by rw [hwL3e, gup_self]
    refine g_iload C d_X_cut_12 6 rfl ?_
    refine g_bipush (v := 12) C d_X_cut_14 (by decide) ?_
    refine g_icmp_ge 50 C d_X_cut_16 (by decide) (fun c3e16 => ?_) (fun c3e16 => ?_)
    rotate_left
    · exact absurd (by decide) c3e16
    refine g_iload_n C d_X_cut_50 rfl 2 rfl ?_
    refine g_istore C d_X_cut_51 [(9, .int (nI s0)), (0, .long a), (2, .ref (ad n)), (3, .int (nI s0)), (4, .ref (ad q)), (5, .long (sumL w 12)), (7, .long (wantS a (cutG a w) 12))] (by decide) rfl ?_
    refine g_iconst (v := 0) C d_X_cut_53 (by decide) ?_
    refine g_istore C d_X_cut_54 [(10, .int 0), (9, .int (nI s0)), (0, .long a), (2, .ref (ad n)), (3, .int (nI s0)), (4, .ref (ad q)), (5, .long (sumL w 12)), (7, .long (wantS a (cutG a w) 12))] (by decide) rfl ?_
    refine g_fewer (lv' := [(2, .ref (ad n)), (3, .int (nI s0)), (4, .ref (ad q)), (7, .long (wantS a (cutG a w) 12)), (9, .int (nI s0)), (10, .int 0)]) [3, 4, 5, 7, 1, 0] rfl ?_
    refine GW_eq (u2 := gup wL3e q (.inl ((X.2 1), 12, .inr (.inl ((handS w s0 (mapL p (cutG a w) 12) (wantS a (cutG a w) 12) 0).1))))) (lv2 := [(2, .ref (ad n)), (3, .int (nI s0)), (4, .ref (ad q)), (7, .long ((handS w s0 (mapL p (cutG a w) 12) (wantS a (cutG a w) 12) 0).2.1)), (9, .int (nI (handS w s0 (mapL p (cutG a w) 12) (wantS a (cutG a w) 12) 0).2.2)), (10, .int (nI 0))]) (gup_id hwL3e_1).symm rfl ?_
    refine g_loop 12 (fun iL4 => True) (fun iL4 => gup wL3e q (.inl ((X.2 1), 12, .inr (.inl ((handS w s0 (mapL p (cutG a w) 12) (wantS a (cutG a w) 12) iL4).1))))) (fun iL4 => [(2, .ref (ad n)), (3, .int (nI s0)), (4, .ref (ad q)), (7, .long ((handS w s0 (mapL p (cutG a w) 12) (wantS a (cutG a w) 12) iL4).2.1)), (9, .int (nI (handS w s0 (mapL p (cutG a w) 12) (wantS a (cutG a w) 12) iL4).2.2)), (10, .int (nI iL4))]) (fun iL4 hiL4 piL4 KL4 => ?_) (fun piL4 => ?_) 0 (by omega) trivial
    · skip
      show GW Z _ _ _ ad (gup wL3e q (.inl ((X.2 1), 12, .inr (.inl ((handS w s0 (mapL p (cutG a w) 12) (wantS a (cutG a w) 12) iL4).1))))) _ [(2, .ref (ad n)), (3, .int (nI s0)), (4, .ref (ad q)), (7, .long ((handS w s0 (mapL p (cutG a w) 12) (wantS a (cutG a w) 12) iL4).2.1)), (9, .int (nI (handS w s0 (mapL p (cutG a w) 12) (wantS a (cutG a w) 12) iL4).2.2)), (10, .int (nI iL4))] _ _ 56 []
      obtain ⟨wL4s, hwL4s⟩ : ∃ z, z = gup wL3e q (.inl ((X.2 1), 12, .inr (.inl ((handS w s0 (mapL p (cutG a w) 12) (wantS a (cutG a w) 12) iL4).1)))) := ⟨_, rfl⟩
      rw [← hwL4s]
      have hwL4s_0 : wL4s n = some (.inl ((X.2 1), 12, .inr (.inl w))) := by rw [hwL4s, gup_ne (by omega)]; exact hwL3e_0
      have hwL4s_1 : wL4s q = some (.inl ((X.2 1), 12, .inr (.inl ((handS w s0 (mapL p (cutG a w) 12) (wantS a (cutG a w) 12) iL4).1)))) := by rw [hwL4s, gup_self]
      refine g_iload C d_X_cut_56 5 rfl ?_
      refine g_bipush (v := 12) C d_X_cut_58 (by decide) ?_
      refine g_icmp_ge 118 C d_X_cut_60 (by decide) (fun c3e4s60 => ?_) (fun c3e4s60 => ?_)
      · exact absurd c3e4s60 (ge12 hiL4)
      refine g_iload_n C d_X_cut_63 rfl 1 rfl ?_
      refine g_iload C d_X_cut_64 5 rfl ?_
      refine g_iadd C d_X_cut_66 ?_
      refine g_bipush (v := 12) C d_X_cut_67 (by decide) ?_
      refine g_irem C d_X_cut_69 (by decide) ?_
      rw [show (nI s0 + nI iL4) - (nI s0 + nI iL4) / 12 * 12 = nI ((s0 + iL4) % 12) from (by rw [nI_add]; exact rem12 (by omega))]
      refine g_istore C d_X_cut_70 [(11, .int (nI ((s0 + iL4) % 12))), (2, .ref (ad n)), (3, .int (nI s0)), (4, .ref (ad q)), (7, .long ((handS w s0 (mapL p (cutG a w) 12) (wantS a (cutG a w) 12) iL4).2.1)), (9, .int (nI (handS w s0 (mapL p (cutG a w) 12) (wantS a (cutG a w) 12) iL4).2.2)), (10, .int (nI iL4))] (by decide) rfl ?_
      refine g_lload C d_X_cut_72 4 rfl ?_
      refine g_lconst (v := 0) C d_X_cut_74 (by decide) ?_
      refine g_lcmp C d_X_cut_75 ?_
      refine g_if_le 112 C d_X_cut_76 (by decide) (fun c3e4s76 => ?_) (fun c3e4s76 => ?_)
      · rw [lg_cmp_le] at c3e4s76
        obtain ⟨x3e4s112, ex3e4s112⟩ : ∃ y : Int32, y = (nI iL4) + 1 := ⟨_, rfl⟩
        refine g_iinc (v := x3e4s112) C d_X_cut_112 6 rfl (by rw [ex3e4s112]; rfl) [(10, .int x3e4s112), (11, .int (nI ((s0 + iL4) % 12))), (2, .ref (ad n)), (3, .int (nI s0)), (4, .ref (ad q)), (7, .long ((handS w s0 (mapL p (cutG a w) 12) (wantS a (cutG a w) 12) iL4).2.1)), (9, .int (nI (handS w s0 (mapL p (cutG a w) 12) (wantS a (cutG a w) 12) iL4).2.2))] (by decide) rfl ?_
        refine g_goto 56 C d_X_cut_115 (by decide) ?_
        refine g_fewer (lv' := [(2, .ref (ad n)), (3, .int (nI s0)), (4, .ref (ad q)), (7, .long ((handS w s0 (mapL p (cutG a w) 12) (wantS a (cutG a w) 12) iL4).2.1)), (9, .int (nI (handS w s0 (mapL p (cutG a w) 12) (wantS a (cutG a w) 12) iL4).2.2)), (10, .int x3e4s112)]) [2, 3, 4, 5, 6, 0] rfl ?_
        refine GW_eq (u2 := gup wL3e q (.inl ((X.2 1), 12, .inr (.inl ((handS w s0 (mapL p (cutG a w) 12) (wantS a (cutG a w) 12) (iL4 + 1)).1))))) (lv2 := [(2, .ref (ad n)), (3, .int (nI s0)), (4, .ref (ad q)), (7, .long ((handS w s0 (mapL p (cutG a w) 12) (wantS a (cutG a w) 12) (iL4 + 1)).2.1)), (9, .int (nI (handS w s0 (mapL p (cutG a w) 12) (wantS a (cutG a w) 12) (iL4 + 1)).2.2)), (10, .int (nI (iL4 + 1)))]) ?_ ?_ (KL4 trivial)
        · first | (rw [hwL4s]; done) | (rw [hwL4s]; rw [handS_f1 c3e4s76]; done) | (rw [hwL4s]; rw [handS_f1 c3e4s76]; funext k; simp only [gup]; (repeat' split) <;> first | with_reducible rfl | (exfalso; omega) | rfl)
        · rw [handS_f1 c3e4s76]; simp only [ex3e4s112, nI_1]
      · rw [lg_cmp_le] at c3e4s76
        refine g_aload_n C d_X_cut_79 rfl 1 rfl ?_
        refine g_iload C d_X_cut_80 0 rfl ?_
        refine g_lald n 1 C hwL4s_0 rfl (vp_in_nI (by omega) (by decide)) d_X_cut_82 ?_
        rw [show Int32.toNatClampNeg (nI ((s0 + iL4) % 12)) = ((s0 + iL4) % 12) from nI_clamp (by omega)]
        refine g_lconst (v := 0) C d_X_cut_83 (by decide) ?_
        refine g_lcmp C d_X_cut_84 ?_
        refine g_if_le 112 C d_X_cut_85 (by decide) (fun c3e4s85 => ?_) (fun c3e4s85 => ?_)
        · rw [lg_cmp_le] at c3e4s85
          obtain ⟨x3e4s112, ex3e4s112⟩ : ∃ y : Int32, y = (nI iL4) + 1 := ⟨_, rfl⟩
          refine g_iinc (v := x3e4s112) C d_X_cut_112 6 rfl (by rw [ex3e4s112]; rfl) [(10, .int x3e4s112), (11, .int (nI ((s0 + iL4) % 12))), (2, .ref (ad n)), (3, .int (nI s0)), (4, .ref (ad q)), (7, .long ((handS w s0 (mapL p (cutG a w) 12) (wantS a (cutG a w) 12) iL4).2.1)), (9, .int (nI (handS w s0 (mapL p (cutG a w) 12) (wantS a (cutG a w) 12) iL4).2.2))] (by decide) rfl ?_
          refine g_goto 56 C d_X_cut_115 (by decide) ?_
          refine g_fewer (lv' := [(2, .ref (ad n)), (3, .int (nI s0)), (4, .ref (ad q)), (7, .long ((handS w s0 (mapL p (cutG a w) 12) (wantS a (cutG a w) 12) iL4).2.1)), (9, .int (nI (handS w s0 (mapL p (cutG a w) 12) (wantS a (cutG a w) 12) iL4).2.2)), (10, .int x3e4s112)]) [2, 3, 4, 5, 6, 0] rfl ?_
          refine GW_eq (u2 := gup wL3e q (.inl ((X.2 1), 12, .inr (.inl ((handS w s0 (mapL p (cutG a w) 12) (wantS a (cutG a w) 12) (iL4 + 1)).1))))) (lv2 := [(2, .ref (ad n)), (3, .int (nI s0)), (4, .ref (ad q)), (7, .long ((handS w s0 (mapL p (cutG a w) 12) (wantS a (cutG a w) 12) (iL4 + 1)).2.1)), (9, .int (nI (handS w s0 (mapL p (cutG a w) 12) (wantS a (cutG a w) 12) (iL4 + 1)).2.2)), (10, .int (nI (iL4 + 1)))]) ?_ ?_ (KL4 trivial)
          · first | (rw [hwL4s]; done) | (rw [hwL4s]; rw [handS_f2 c3e4s85]; done) | (rw [hwL4s]; rw [handS_f2 c3e4s85]; simp only [ex3e4s112]; done) | (rw [hwL4s]; rw [handS_f2 c3e4s85]; simp only [ex3e4s112]; funext k; simp only [gup]; (repeat' split) <;> first | with_reducible rfl | (exfalso; omega) | rfl)
          · rw [handS_f2 c3e4s85]; simp only [ex3e4s112, nI_1]
        · rw [lg_cmp_le] at c3e4s85
          refine g_aload C d_X_cut_88 3 rfl ?_
          refine g_iload C d_X_cut_90 0 rfl ?_
          refine g_dup2_11 C d_X_cut_92 rfl rfl ?_
          refine g_lald q 1 C hwL4s_1 rfl (vp_in_nI (by omega) (by decide)) d_X_cut_93 ?_
          rw [show Int32.toNatClampNeg (nI ((s0 + iL4) % 12)) = ((s0 + iL4) % 12) from nI_clamp (by omega)]
          refine g_lconst (v := 1) C d_X_cut_94 (by decide) ?_
          refine g_ladd C d_X_cut_95 ?_
          refine g_topl (fun x3e4s96 ex3e4s96 => ?_)
          refine g_last q 1 C hwL4s_1 rfl (vp_in_nI (by omega) (by decide)) d_X_cut_96 ?_
          rw [show Int32.toNatClampNeg (nI ((s0 + iL4) % 12)) = ((s0 + iL4) % 12) from nI_clamp (by omega)]
          obtain ⟨u3e4s2, hu3e4s2⟩ : ∃ z, z = gup wL4s q (.inl ((X.2 1), 12, .inr (.inl (vp_updL ((handS w s0 (mapL p (cutG a w) 12) (wantS a (cutG a w) 12) iL4).1) ((s0 + iL4) % 12) x3e4s96)))) := ⟨_, rfl⟩
          rw [← hu3e4s2]
          have hu3e4s2_0 : u3e4s2 n = some (.inl ((X.2 1), 12, .inr (.inl w))) := by rw [hu3e4s2, gup_ne (by omega)]; exact hwL4s_0
          have hu3e4s2_1 : u3e4s2 q = some (.inl ((X.2 1), 12, .inr (.inl (vp_updL ((handS w s0 (mapL p (cutG a w) 12) (wantS a (cutG a w) 12) iL4).1) ((s0 + iL4) % 12) x3e4s96)))) := by rw [hu3e4s2]; exact gup_self _ _ _
          refine g_lload C d_X_cut_97 4 rfl ?_
          refine g_lconst (v := 1) C d_X_cut_99 (by decide) ?_
          refine g_lsub C d_X_cut_100 ?_
          refine g_topl (fun x3e4s101 ex3e4s101 => ?_)
          refine g_lstore C d_X_cut_101 [(7, .long x3e4s101), (11, .int (nI ((s0 + iL4) % 12))), (2, .ref (ad n)), (3, .int (nI s0)), (4, .ref (ad q)), (9, .int (nI (handS w s0 (mapL p (cutG a w) 12) (wantS a (cutG a w) 12) iL4).2.2)), (10, .int (nI iL4))] (by decide) rfl ?_
          refine g_iload C d_X_cut_103 1 rfl ?_
          refine g_iconst (v := 1) C d_X_cut_105 (by decide) ?_
          refine g_iadd C d_X_cut_106 ?_
          refine g_bipush (v := 12) C d_X_cut_107 (by decide) ?_
          refine g_irem C d_X_cut_109 (by decide) ?_
          rw [show ((nI ((s0 + iL4) % 12)) + 1) - ((nI ((s0 + iL4) % 12)) + 1) / 12 * 12 = nI (((s0 + iL4) % 12 + 1) % 12) from (by rw [nI_1]; exact rem12 (by omega))]
          refine g_istore C d_X_cut_110 [(9, .int (nI (((s0 + iL4) % 12 + 1) % 12))), (7, .long x3e4s101), (11, .int (nI ((s0 + iL4) % 12))), (2, .ref (ad n)), (3, .int (nI s0)), (4, .ref (ad q)), (10, .int (nI iL4))] (by decide) rfl ?_
          obtain ⟨x3e4s112, ex3e4s112⟩ : ∃ y : Int32, y = (nI iL4) + 1 := ⟨_, rfl⟩
          refine g_iinc (v := x3e4s112) C d_X_cut_112 6 rfl (by rw [ex3e4s112]; rfl) [(10, .int x3e4s112), (9, .int (nI (((s0 + iL4) % 12 + 1) % 12))), (7, .long x3e4s101), (11, .int (nI ((s0 + iL4) % 12))), (2, .ref (ad n)), (3, .int (nI s0)), (4, .ref (ad q))] (by decide) rfl ?_
          refine g_goto 56 C d_X_cut_115 (by decide) ?_
          refine g_fewer (lv' := [(2, .ref (ad n)), (3, .int (nI s0)), (4, .ref (ad q)), (7, .long x3e4s101), (9, .int (nI (((s0 + iL4) % 12 + 1) % 12))), (10, .int x3e4s112)]) [4, 5, 6, 2, 1, 0] rfl ?_
          refine GW_eq (u2 := gup wL3e q (.inl ((X.2 1), 12, .inr (.inl ((handS w s0 (mapL p (cutG a w) 12) (wantS a (cutG a w) 12) (iL4 + 1)).1))))) (lv2 := [(2, .ref (ad n)), (3, .int (nI s0)), (4, .ref (ad q)), (7, .long ((handS w s0 (mapL p (cutG a w) 12) (wantS a (cutG a w) 12) (iL4 + 1)).2.1)), (9, .int (nI (handS w s0 (mapL p (cutG a w) 12) (wantS a (cutG a w) 12) (iL4 + 1)).2.2)), (10, .int (nI (iL4 + 1)))]) ?_ ?_ (KL4 trivial)
          · first | (rw [hu3e4s2, hwL4s]; done) | (rw [hu3e4s2, hwL4s]; rw [handS_t c3e4s76 c3e4s85]; done) | (rw [hu3e4s2, hwL4s]; rw [handS_t c3e4s76 c3e4s85]; simp only [ex3e4s96, ex3e4s101, ex3e4s112]; done) | (rw [hu3e4s2, hwL4s]; rw [handS_t c3e4s76 c3e4s85]; simp only [ex3e4s96, ex3e4s101, ex3e4s112]; funext k; simp only [gup]; (repeat' split) <;> first | with_reducible rfl | (exfalso; omega) | rfl)
          · rw [handS_t c3e4s76 c3e4s85]; simp only [ex3e4s96, ex3e4s101, ex3e4s112, nI_1]
    · skip
      show GW Z _ _ _ ad (gup wL3e q (.inl ((X.2 1), 12, .inr (.inl ((handS w s0 (mapL p (cutG a w) 12) (wantS a (cutG a w) 12) 12).1))))) _ [(2, .ref (ad n)), (3, .int (nI s0)), (4, .ref (ad q)), (7, .long ((handS w s0 (mapL p (cutG a w) 12) (wantS a (cutG a w) 12) 12).2.1)), (9, .int (nI (handS w s0 (mapL p (cutG a w) 12) (wantS a (cutG a w) 12) 12).2.2)), (10, .int (nI 12))] _ _ 56 []
      obtain ⟨wL4e, hwL4e⟩ : ∃ z, z = gup wL3e q (.inl ((X.2 1), 12, .inr (.inl ((handS w s0 (mapL p (cutG a w) 12) (wantS a (cutG a w) 12) 12).1)))) := ⟨_, rfl⟩
      rw [← hwL4e]
      have hwL4e_0 : wL4e n = some (.inl ((X.2 1), 12, .inr (.inl w))) := by rw [hwL4e, gup_ne (by omega)]; exact hwL3e_0
      have hwL4e_1 : wL4e q = some (.inl ((X.2 1), 12, .inr (.inl ((handS w s0 (mapL p (cutG a w) 12) (wantS a (cutG a w) 12) 12).1)))) := by rw [hwL4e, gup_self]
      refine g_iload C d_X_cut_56 5 rfl ?_
      refine g_bipush (v := 12) C d_X_cut_58 (by decide) ?_
      refine g_icmp_ge 118 C d_X_cut_60 (by decide) (fun c3e4e60 => ?_) (fun c3e4e60 => ?_)
      rotate_left
      · exact absurd (by decide) c3e4e60
      refine g_iload C d_X_cut_118 4 rfl ?_
      exact g_iret C hR hret ⟨rfl, (by rw [hwL4e, hwL3e, gup_gup]), rfl⟩ d_X_cut_120
end
section
theorem d_I_bitCount_0 : decode c_I_bitCount 0 = .ok (.iload_n 0, 1) := by decide +kernel
theorem d_I_bitCount_1 : decode c_I_bitCount 1 = .ok (.iload_n 0, 1) := by decide +kernel
theorem d_I_bitCount_2 : decode c_I_bitCount 2 = .ok (.iconst 1, 1) := by decide +kernel
theorem d_I_bitCount_3 : decode c_I_bitCount 3 = .ok (.iushr, 1) := by decide +kernel
theorem d_I_bitCount_4 : decode c_I_bitCount 4 = .ok (.ldc_w 265, 3) := by decide +kernel
theorem d_I_bitCount_7 : decode c_I_bitCount 7 = .ok (.iand, 1) := by decide +kernel
theorem d_I_bitCount_8 : decode c_I_bitCount 8 = .ok (.isub, 1) := by decide +kernel
theorem d_I_bitCount_9 : decode c_I_bitCount 9 = .ok (.istore_n 0, 1) := by decide +kernel
theorem d_I_bitCount_10 : decode c_I_bitCount 10 = .ok (.iload_n 0, 1) := by decide +kernel
theorem d_I_bitCount_11 : decode c_I_bitCount 11 = .ok (.ldc_w 266, 3) := by decide +kernel
theorem d_I_bitCount_14 : decode c_I_bitCount 14 = .ok (.iand, 1) := by decide +kernel
theorem d_I_bitCount_15 : decode c_I_bitCount 15 = .ok (.iload_n 0, 1) := by decide +kernel
theorem d_I_bitCount_16 : decode c_I_bitCount 16 = .ok (.iconst 2, 1) := by decide +kernel
theorem d_I_bitCount_17 : decode c_I_bitCount 17 = .ok (.iushr, 1) := by decide +kernel
theorem d_I_bitCount_18 : decode c_I_bitCount 18 = .ok (.ldc_w 266, 3) := by decide +kernel
theorem d_I_bitCount_21 : decode c_I_bitCount 21 = .ok (.iand, 1) := by decide +kernel
theorem d_I_bitCount_22 : decode c_I_bitCount 22 = .ok (.iadd, 1) := by decide +kernel
theorem d_I_bitCount_23 : decode c_I_bitCount 23 = .ok (.istore_n 0, 1) := by decide +kernel
theorem d_I_bitCount_24 : decode c_I_bitCount 24 = .ok (.iload_n 0, 1) := by decide +kernel
theorem d_I_bitCount_25 : decode c_I_bitCount 25 = .ok (.iload_n 0, 1) := by decide +kernel
theorem d_I_bitCount_26 : decode c_I_bitCount 26 = .ok (.iconst 4, 1) := by decide +kernel
theorem d_I_bitCount_27 : decode c_I_bitCount 27 = .ok (.iushr, 1) := by decide +kernel
theorem d_I_bitCount_28 : decode c_I_bitCount 28 = .ok (.iadd, 1) := by decide +kernel
theorem d_I_bitCount_29 : decode c_I_bitCount 29 = .ok (.ldc_w 267, 3) := by decide +kernel
theorem d_I_bitCount_32 : decode c_I_bitCount 32 = .ok (.iand, 1) := by decide +kernel
theorem d_I_bitCount_33 : decode c_I_bitCount 33 = .ok (.istore_n 0, 1) := by decide +kernel
theorem d_I_bitCount_34 : decode c_I_bitCount 34 = .ok (.iload_n 0, 1) := by decide +kernel
theorem d_I_bitCount_35 : decode c_I_bitCount 35 = .ok (.iload_n 0, 1) := by decide +kernel
theorem d_I_bitCount_36 : decode c_I_bitCount 36 = .ok (.bipush 8, 2) := by decide +kernel
theorem d_I_bitCount_38 : decode c_I_bitCount 38 = .ok (.iushr, 1) := by decide +kernel
theorem d_I_bitCount_39 : decode c_I_bitCount 39 = .ok (.iadd, 1) := by decide +kernel
theorem d_I_bitCount_40 : decode c_I_bitCount 40 = .ok (.istore_n 0, 1) := by decide +kernel
theorem d_I_bitCount_41 : decode c_I_bitCount 41 = .ok (.iload_n 0, 1) := by decide +kernel
theorem d_I_bitCount_42 : decode c_I_bitCount 42 = .ok (.iload_n 0, 1) := by decide +kernel
theorem d_I_bitCount_43 : decode c_I_bitCount 43 = .ok (.bipush 16, 2) := by decide +kernel
theorem d_I_bitCount_45 : decode c_I_bitCount 45 = .ok (.iushr, 1) := by decide +kernel
theorem d_I_bitCount_46 : decode c_I_bitCount 46 = .ok (.iadd, 1) := by decide +kernel
theorem d_I_bitCount_47 : decode c_I_bitCount 47 = .ok (.istore_n 0, 1) := by decide +kernel
theorem d_I_bitCount_48 : decode c_I_bitCount 48 = .ok (.iload_n 0, 1) := by decide +kernel
theorem d_I_bitCount_49 : decode c_I_bitCount 49 = .ok (.bipush 63, 2) := by decide +kernel
theorem d_I_bitCount_51 : decode c_I_bitCount 51 = .ok (.iand, 1) := by decide +kernel
theorem d_I_bitCount_52 : decode c_I_bitCount 52 = .ok (.ireturn, 1) := by decide +kernel
def us (x : Int32) (k : Int32) : Int32 := (x.toUInt32 >>> (k.toUInt32 &&& Int32.toUInt32 31)).toInt32
def bc1 (x : Int32) : Int32 := x - (us x 1 &&& 1431655765)
def bc2 (x : Int32) : Int32 := (x &&& 858993459) + (us x 2 &&& 858993459)
def bc3 (x : Int32) : Int32 := (x + us x 4) &&& 252645135
def bc4 (x : Int32) : Int32 := x + us x 8
def bc5 (x : Int32) : Int32 := x + us x 16
def bitC (x : Int32) : Int32 := bc5 (bc4 (bc3 (bc2 (bc1 x)))) &&& 63
set_option maxHeartbeats 4000000 in
set_option maxRecDepth 100000 in
/-- Integer.bitCount -/
theorem k_I_bitCount (l : Launch) (X : gX) (ad : Nat → Nat) (u : gW) (sz : Nat) (x : Int32)   : gMet l (EE X) y_I_bitCount c_I_bitCount 1 (some .int) ({ frames := 0, cells := 0, slots := 0, locals := 0 }) [.int x] ad u sz (fun v u' sz' => v = some (.int (bitC x)) ∧ u' = u ∧ sz' = sz) := by
  refine gMet_of "java/lang/Integer" rfl (by decide) (Nat.le_of_ble_eq_true rfl) (lv := [(0, .int x)]) rfl (fun Z hZl C hR hret hname => ?_)
  refine g_iload_n C d_I_bitCount_0 rfl 0 rfl ?_
  refine g_iload_n C d_I_bitCount_1 rfl 0 rfl ?_
  refine g_iconst (v := 1) C d_I_bitCount_2 (by decide) ?_
  refine g_iushr C d_I_bitCount_3 ?_
  refine g_ldcw C (gmem wd_245 rfl) d_I_bitCount_4 ?_
  refine g_iand C d_I_bitCount_7 ?_
  refine g_isub C d_I_bitCount_8 ?_
  refine g_topi (fun x9 ex9 => ?_)
  refine g_istore_n C d_I_bitCount_9 rfl [(0, .int x9)] (by decide) rfl ?_
  refine g_iload_n C d_I_bitCount_10 rfl 0 rfl ?_
  refine g_ldcw C (gmem wd_246 rfl) d_I_bitCount_11 ?_
  refine g_iand C d_I_bitCount_14 ?_
  refine g_iload_n C d_I_bitCount_15 rfl 0 rfl ?_
  refine g_iconst (v := 2) C d_I_bitCount_16 (by decide) ?_
  refine g_iushr C d_I_bitCount_17 ?_
  refine g_ldcw C (gmem wd_246 rfl) d_I_bitCount_18 ?_
  refine g_iand C d_I_bitCount_21 ?_
  refine g_iadd C d_I_bitCount_22 ?_
  refine g_topi (fun x23 ex23 => ?_)
  refine g_istore_n C d_I_bitCount_23 rfl [(0, .int x23)] (by decide) rfl ?_
  refine g_iload_n C d_I_bitCount_24 rfl 0 rfl ?_
  refine g_iload_n C d_I_bitCount_25 rfl 0 rfl ?_
  refine g_iconst (v := 4) C d_I_bitCount_26 (by decide) ?_
  refine g_iushr C d_I_bitCount_27 ?_
  refine g_iadd C d_I_bitCount_28 ?_
  refine g_ldcw C (gmem wd_247 rfl) d_I_bitCount_29 ?_
  refine g_iand C d_I_bitCount_32 ?_
  refine g_topi (fun x33 ex33 => ?_)
  refine g_istore_n C d_I_bitCount_33 rfl [(0, .int x33)] (by decide) rfl ?_
  refine g_iload_n C d_I_bitCount_34 rfl 0 rfl ?_
  refine g_iload_n C d_I_bitCount_35 rfl 0 rfl ?_
  refine g_bipush (v := 8) C d_I_bitCount_36 (by decide) ?_
  refine g_iushr C d_I_bitCount_38 ?_
  refine g_iadd C d_I_bitCount_39 ?_
  refine g_topi (fun x40 ex40 => ?_)
  refine g_istore_n C d_I_bitCount_40 rfl [(0, .int x40)] (by decide) rfl ?_
  refine g_iload_n C d_I_bitCount_41 rfl 0 rfl ?_
  refine g_iload_n C d_I_bitCount_42 rfl 0 rfl ?_
  refine g_bipush (v := 16) C d_I_bitCount_43 (by decide) ?_
  refine g_iushr C d_I_bitCount_45 ?_
  refine g_iadd C d_I_bitCount_46 ?_
  refine g_topi (fun x47 ex47 => ?_)
  refine g_istore_n C d_I_bitCount_47 rfl [(0, .int x47)] (by decide) rfl ?_
  refine g_iload_n C d_I_bitCount_48 rfl 0 rfl ?_
  refine g_bipush (v := 63) C d_I_bitCount_49 (by decide) ?_
  refine g_iand C d_I_bitCount_51 ?_
  exact g_iret C hR hret ⟨by simp only [ex47, ex40, ex33, ex23, ex9]; rfl, rfl, rfl⟩ d_I_bitCount_52

set_option maxHeartbeats 4000000 in
set_option maxRecDepth 100000 in
/-- Draft.begin -/
theorem k_D_begin (l : Launch) (X : gX) (ad : Nat → Nat) (u : gW) (sz : Nat) (d b : Nat) (py wt : Nat → Int64) (cv : Value) (way ce ra lc w2 c2 r2 : Int32) (hd : u d = some (.inr (2, [.ref (ad (d + 1)), .ref (ad (d + 2)), cv, .int way, .int ce, .int ra, .int lc]))) (hd1 : u (d + 1) = some (.inl ((X.2 1), 12, .inr (.inl py)))) (hd2 : u (d + 2) = some (.inl ((X.2 1), 12, .inr (.inl wt))))  : gMet l (EE X) y_D_begin c_D_begin 6 none ({ frames := 0, cells := 0, slots := 0, locals := 0 }) [.ref (ad d), .ref (ad b), .int w2, .int c2, .int r2] ad u sz (fun v u' sz' => v = none ∧ u' = gup (gup (gup u d (.inr (2, [.ref (ad (d + 1)), .ref (ad (d + 2)), .ref (ad b), .int w2, .int c2, .int r2, .int 0]))) (d + 1) (.inl ((X.2 1), 12, .inr (.inl (fillL py 0 12))))) (d + 2) (.inl ((X.2 1), 12, .inr (.inl (fillL wt 0 12)))) ∧ sz' = sz) := by
  refine gMet_of "ExpenseClubs$Draft" rfl (by decide) (Nat.le_of_ble_eq_true rfl) (lv := [(0, .ref (ad d)), (1, .ref (ad b)), (2, .int w2), (3, .int c2), (4, .int r2)]) rfl (fun Z hZl C hR hret hname => ?_)
  refine g_aload_n C d_D_begin_0 rfl 0 rfl ?_
  refine g_aload_n C d_D_begin_1 rfl 1 rfl ?_
  refine g_put d 2 C hd rfl i_D t_D t_D_ok n_D (by decide) (gmem wd_37 rfl) rfl rfl rfl rfl (Nat.le_of_ble_eq_true rfl) d_D_begin_2 ?_
  show GW Z _ _ _ ad (gup u d (.inr (2, [.ref (ad (d + 1)), .ref (ad (d + 2)), .ref (ad b), .int way, .int ce, .int ra, .int lc]))) _ _ _ _ _ _
  obtain ⟨u1, hu1⟩ : ∃ z, z = gup u d (.inr (2, [.ref (ad (d + 1)), .ref (ad (d + 2)), .ref (ad b), .int way, .int ce, .int ra, .int lc])) := ⟨_, rfl⟩
  rw [← hu1]
  have hu1_0 : u1 d = some (.inr (2, [.ref (ad (d + 1)), .ref (ad (d + 2)), .ref (ad b), .int way, .int ce, .int ra, .int lc])) := by rw [hu1]; exact gup_self _ _ _
  have hu1_1 : u1 (d + 1) = some (.inl ((X.2 1), 12, .inr (.inl py))) := by rw [hu1, gup_ne (by omega)]; exact hd1
  have hu1_2 : u1 (d + 2) = some (.inl ((X.2 1), 12, .inr (.inl wt))) := by rw [hu1, gup_ne (by omega)]; exact hd2
  refine g_aload_n C d_D_begin_5 rfl 0 rfl ?_
  refine g_iload_n C d_D_begin_6 rfl 2 rfl ?_
  refine g_put d 3 C hu1_0 rfl i_D t_D t_D_ok n_D (by decide) (gmem wd_39 rfl) rfl rfl rfl rfl (Nat.le_of_ble_eq_true rfl) d_D_begin_7 ?_
  show GW Z _ _ _ ad (gup u1 d (.inr (2, [.ref (ad (d + 1)), .ref (ad (d + 2)), .ref (ad b), .int w2, .int ce, .int ra, .int lc]))) _ _ _ _ _ _
  obtain ⟨u2, hu2⟩ : ∃ z, z = gup u1 d (.inr (2, [.ref (ad (d + 1)), .ref (ad (d + 2)), .ref (ad b), .int w2, .int ce, .int ra, .int lc])) := ⟨_, rfl⟩
  rw [← hu2]
  have hu2_0 : u2 d = some (.inr (2, [.ref (ad (d + 1)), .ref (ad (d + 2)), .ref (ad b), .int w2, .int ce, .int ra, .int lc])) := by rw [hu2]; exact gup_self _ _ _
  have hu2_1 : u2 (d + 1) = some (.inl ((X.2 1), 12, .inr (.inl py))) := by rw [hu2, gup_ne (by omega)]; exact hu1_1
  have hu2_2 : u2 (d + 2) = some (.inl ((X.2 1), 12, .inr (.inl wt))) := by rw [hu2, gup_ne (by omega)]; exact hu1_2
  refine g_aload_n C d_D_begin_10 rfl 0 rfl ?_
  refine g_iload_n C d_D_begin_11 rfl 3 rfl ?_
  refine g_put d 4 C hu2_0 rfl i_D t_D t_D_ok n_D (by decide) (gmem wd_41 rfl) rfl rfl rfl rfl (Nat.le_of_ble_eq_true rfl) d_D_begin_12 ?_
  show GW Z _ _ _ ad (gup u2 d (.inr (2, [.ref (ad (d + 1)), .ref (ad (d + 2)), .ref (ad b), .int w2, .int c2, .int ra, .int lc]))) _ _ _ _ _ _
  obtain ⟨u3, hu3⟩ : ∃ z, z = gup u2 d (.inr (2, [.ref (ad (d + 1)), .ref (ad (d + 2)), .ref (ad b), .int w2, .int c2, .int ra, .int lc])) := ⟨_, rfl⟩
  rw [← hu3]
  have hu3_0 : u3 d = some (.inr (2, [.ref (ad (d + 1)), .ref (ad (d + 2)), .ref (ad b), .int w2, .int c2, .int ra, .int lc])) := by rw [hu3]; exact gup_self _ _ _
  have hu3_1 : u3 (d + 1) = some (.inl ((X.2 1), 12, .inr (.inl py))) := by rw [hu3, gup_ne (by omega)]; exact hu2_1
  have hu3_2 : u3 (d + 2) = some (.inl ((X.2 1), 12, .inr (.inl wt))) := by rw [hu3, gup_ne (by omega)]; exact hu2_2
  refine g_aload_n C d_D_begin_15 rfl 0 rfl ?_
  refine g_iload C d_D_begin_16 4 rfl ?_
  refine g_put d 5 C hu3_0 rfl i_D t_D t_D_ok n_D (by decide) (gmem wd_42 rfl) rfl rfl rfl rfl (Nat.le_of_ble_eq_true rfl) d_D_begin_18 ?_
  show GW Z _ _ _ ad (gup u3 d (.inr (2, [.ref (ad (d + 1)), .ref (ad (d + 2)), .ref (ad b), .int w2, .int c2, .int r2, .int lc]))) _ _ _ _ _ _
  obtain ⟨u4, hu4⟩ : ∃ z, z = gup u3 d (.inr (2, [.ref (ad (d + 1)), .ref (ad (d + 2)), .ref (ad b), .int w2, .int c2, .int r2, .int lc])) := ⟨_, rfl⟩
  rw [← hu4]
  have hu4_0 : u4 d = some (.inr (2, [.ref (ad (d + 1)), .ref (ad (d + 2)), .ref (ad b), .int w2, .int c2, .int r2, .int lc])) := by rw [hu4]; exact gup_self _ _ _
  have hu4_1 : u4 (d + 1) = some (.inl ((X.2 1), 12, .inr (.inl py))) := by rw [hu4, gup_ne (by omega)]; exact hu3_1
  have hu4_2 : u4 (d + 2) = some (.inl ((X.2 1), 12, .inr (.inl wt))) := by rw [hu4, gup_ne (by omega)]; exact hu3_2
  refine g_aload_n C d_D_begin_21 rfl 0 rfl ?_
  refine g_iconst (v := 0) C d_D_begin_22 (by decide) ?_
  refine g_put d 6 C hu4_0 rfl i_D t_D t_D_ok n_D (by decide) (gmem wd_43 rfl) rfl rfl rfl rfl (Nat.le_of_ble_eq_true rfl) d_D_begin_23 ?_
  show GW Z _ _ _ ad (gup u4 d (.inr (2, [.ref (ad (d + 1)), .ref (ad (d + 2)), .ref (ad b), .int w2, .int c2, .int r2, .int 0]))) _ _ _ _ _ _
  obtain ⟨u5, hu5⟩ : ∃ z, z = gup u4 d (.inr (2, [.ref (ad (d + 1)), .ref (ad (d + 2)), .ref (ad b), .int w2, .int c2, .int r2, .int 0])) := ⟨_, rfl⟩
  rw [← hu5]
  have hu5_0 : u5 d = some (.inr (2, [.ref (ad (d + 1)), .ref (ad (d + 2)), .ref (ad b), .int w2, .int c2, .int r2, .int 0])) := by rw [hu5]; exact gup_self _ _ _
  have hu5_1 : u5 (d + 1) = some (.inl ((X.2 1), 12, .inr (.inl py))) := by rw [hu5, gup_ne (by omega)]; exact hu4_1
  have hu5_2 : u5 (d + 2) = some (.inl ((X.2 1), 12, .inr (.inl wt))) := by rw [hu5, gup_ne (by omega)]; exact hu4_2
  refine g_iconst (v := 0) C d_D_begin_26 (by decide) ?_
  refine g_istore C d_D_begin_27 [(5, .int 0), (0, .ref (ad d)), (1, .ref (ad b)), (2, .int w2), (3, .int c2), (4, .int r2)] (by decide) rfl ?_
  refine g_fewer (lv' := [(5, .int 0), (0, .ref (ad d))]) [0, 1] rfl ?_
  refine GW_eq (u2 := gup (gup u5 (d + 1) (.inl ((X.2 1), 12, .inr (.inl (fillL py 0 0))))) (d + 2) (.inl ((X.2 1), 12, .inr (.inl (fillL wt 0 0))))) (lv2 := [(5, .int (nI 0)), (0, .ref (ad d))]) (by rw [fillL_0, fillL_0, gup_id hu5_1, gup_id hu5_2]) rfl ?_
  refine g_loop 12 (fun iL5 => True) (fun iL5 => gup (gup u5 (d + 1) (.inl ((X.2 1), 12, .inr (.inl (fillL py 0 iL5))))) (d + 2) (.inl ((X.2 1), 12, .inr (.inl (fillL wt 0 iL5))))) (fun iL5 => [(5, .int (nI iL5)), (0, .ref (ad d))]) (fun iL5 hiL5 piL5 KL5 => ?_) (fun piL5 => ?_) 0 (by omega) trivial
  · skip
    show GW Z _ _ _ ad (gup (gup u5 (d + 1) (.inl ((X.2 1), 12, .inr (.inl (fillL py 0 iL5))))) (d + 2) (.inl ((X.2 1), 12, .inr (.inl (fillL wt 0 iL5))))) _ [(5, .int (nI iL5)), (0, .ref (ad d))] _ _ 29 []
    obtain ⟨wL5s, hwL5s⟩ : ∃ z, z = gup (gup u5 (d + 1) (.inl ((X.2 1), 12, .inr (.inl (fillL py 0 iL5))))) (d + 2) (.inl ((X.2 1), 12, .inr (.inl (fillL wt 0 iL5)))) := ⟨_, rfl⟩
    rw [← hwL5s]
    have hwL5s_0 : wL5s d = some (.inr (2, [.ref (ad (d + 1)), .ref (ad (d + 2)), .ref (ad b), .int w2, .int c2, .int r2, .int 0])) := by rw [hwL5s, gup_ne (by omega), gup_ne (by omega)]; exact hu5_0
    have hwL5s_1 : wL5s (d + 1) = some (.inl ((X.2 1), 12, .inr (.inl (fillL py 0 iL5)))) := by rw [hwL5s, gup_ne (by omega), gup_self]
    have hwL5s_2 : wL5s (d + 2) = some (.inl ((X.2 1), 12, .inr (.inl (fillL wt 0 iL5)))) := by rw [hwL5s, gup_self]
    refine g_iload C d_D_begin_29 0 rfl ?_
    refine g_bipush (v := 12) C d_D_begin_31 (by decide) ?_
    refine g_icmp_ge 58 C d_D_begin_33 (by decide) (fun c5s33 => ?_) (fun c5s33 => ?_)
    · exact absurd c5s33 (ge12 hiL5)
    refine g_aload_n C d_D_begin_36 rfl 1 rfl ?_
    refine g_get d 0 C hwL5s_0 rfl i_D (by decide) (gmem wd_33 rfl) rfl rfl d_D_begin_37 ?_
    refine g_iload C d_D_begin_40 0 rfl ?_
    refine g_lconst (v := 0) C d_D_begin_42 (by decide) ?_
    refine g_last (d + 1) 1 C hwL5s_1 rfl (vp_in_nI (by omega) (by decide)) d_D_begin_43 ?_
    rw [show Int32.toNatClampNeg (nI iL5) = iL5 from nI_clamp (by omega)]
    obtain ⟨u5s6, hu5s6⟩ : ∃ z, z = gup wL5s (d + 1) (.inl ((X.2 1), 12, .inr (.inl (vp_updL (fillL py 0 iL5) iL5 0)))) := ⟨_, rfl⟩
    rw [← hu5s6]
    have hu5s6_0 : u5s6 d = some (.inr (2, [.ref (ad (d + 1)), .ref (ad (d + 2)), .ref (ad b), .int w2, .int c2, .int r2, .int 0])) := by rw [hu5s6, gup_ne (by omega)]; exact hwL5s_0
    have hu5s6_1 : u5s6 (d + 1) = some (.inl ((X.2 1), 12, .inr (.inl (vp_updL (fillL py 0 iL5) iL5 0)))) := by rw [hu5s6]; exact gup_self _ _ _
    have hu5s6_2 : u5s6 (d + 2) = some (.inl ((X.2 1), 12, .inr (.inl (fillL wt 0 iL5)))) := by rw [hu5s6, gup_ne (by omega)]; exact hwL5s_2
    refine g_aload_n C d_D_begin_44 rfl 1 rfl ?_
    refine g_get d 1 C hu5s6_0 rfl i_D (by decide) (gmem wd_35 rfl) rfl rfl d_D_begin_45 ?_
    refine g_iload C d_D_begin_48 0 rfl ?_
    refine g_lconst (v := 0) C d_D_begin_50 (by decide) ?_
    refine g_last (d + 2) 1 C hu5s6_2 rfl (vp_in_nI (by omega) (by decide)) d_D_begin_51 ?_
    rw [show Int32.toNatClampNeg (nI iL5) = iL5 from nI_clamp (by omega)]
    obtain ⟨u5s7, hu5s7⟩ : ∃ z, z = gup u5s6 (d + 2) (.inl ((X.2 1), 12, .inr (.inl (vp_updL (fillL wt 0 iL5) iL5 0)))) := ⟨_, rfl⟩
    rw [← hu5s7]
    have hu5s7_0 : u5s7 d = some (.inr (2, [.ref (ad (d + 1)), .ref (ad (d + 2)), .ref (ad b), .int w2, .int c2, .int r2, .int 0])) := by rw [hu5s7, gup_ne (by omega)]; exact hu5s6_0
    have hu5s7_1 : u5s7 (d + 1) = some (.inl ((X.2 1), 12, .inr (.inl (vp_updL (fillL py 0 iL5) iL5 0)))) := by rw [hu5s7, gup_ne (by omega)]; exact hu5s6_1
    have hu5s7_2 : u5s7 (d + 2) = some (.inl ((X.2 1), 12, .inr (.inl (vp_updL (fillL wt 0 iL5) iL5 0)))) := by rw [hu5s7]; exact gup_self _ _ _
    obtain ⟨x5s52, ex5s52⟩ : ∃ y : Int32, y = (nI iL5) + 1 := ⟨_, rfl⟩
    refine g_iinc (v := x5s52) C d_D_begin_52 0 rfl (by rw [ex5s52]; rfl) [(5, .int x5s52), (0, .ref (ad d))] (by decide) rfl ?_
    refine g_goto 29 C d_D_begin_55 (by decide) ?_
    refine GW_eq (u2 := gup (gup u5 (d + 1) (.inl ((X.2 1), 12, .inr (.inl (fillL py 0 (iL5 + 1)))))) (d + 2) (.inl ((X.2 1), 12, .inr (.inl (fillL wt 0 (iL5 + 1)))))) (lv2 := [(5, .int (nI (iL5 + 1))), (0, .ref (ad d))]) ?_ ?_ (KL5 trivial)
    · first | (rw [hu5s7, hu5s6, hwL5s]; done) | (rw [hu5s7, hu5s6, hwL5s]; simp only [fillL_s]; done) | (rw [hu5s7, hu5s6, hwL5s]; simp only [fillL_s]; funext k; simp only [gup]; (repeat' split) <;> first | with_reducible rfl | (exfalso; omega) | rfl)
    · first | rfl | simp only [ex5s52, nI_1, nI_0]
  · skip
    show GW Z _ _ _ ad (gup (gup u5 (d + 1) (.inl ((X.2 1), 12, .inr (.inl (fillL py 0 12))))) (d + 2) (.inl ((X.2 1), 12, .inr (.inl (fillL wt 0 12))))) _ [(5, .int (nI 12)), (0, .ref (ad d))] _ _ 29 []
    obtain ⟨wL5e, hwL5e⟩ : ∃ z, z = gup (gup u5 (d + 1) (.inl ((X.2 1), 12, .inr (.inl (fillL py 0 12))))) (d + 2) (.inl ((X.2 1), 12, .inr (.inl (fillL wt 0 12)))) := ⟨_, rfl⟩
    rw [← hwL5e]
    have hwL5e_0 : wL5e d = some (.inr (2, [.ref (ad (d + 1)), .ref (ad (d + 2)), .ref (ad b), .int w2, .int c2, .int r2, .int 0])) := by rw [hwL5e, gup_ne (by omega), gup_ne (by omega)]; exact hu5_0
    have hwL5e_1 : wL5e (d + 1) = some (.inl ((X.2 1), 12, .inr (.inl (fillL py 0 12)))) := by rw [hwL5e, gup_ne (by omega), gup_self]
    have hwL5e_2 : wL5e (d + 2) = some (.inl ((X.2 1), 12, .inr (.inl (fillL wt 0 12)))) := by rw [hwL5e, gup_self]
    refine g_iload C d_D_begin_29 0 rfl ?_
    refine g_bipush (v := 12) C d_D_begin_31 (by decide) ?_
    refine g_icmp_ge 58 C d_D_begin_33 (by decide) (fun c5e33 => ?_) (fun c5e33 => ?_)
    rotate_left
    · exact absurd (by decide) c5e33
    exact g_vret C hR hret ⟨rfl, (by first | (rw [hwL5e, hu5, hu4, hu3, hu2, hu1]; done) | (rw [hwL5e, hu5, hu4, hu3, hu2, hu1]; funext k; simp only [gup]; (repeat' split) <;> first | with_reducible rfl | (exfalso; omega) | rfl)), rfl⟩ d_D_begin_58

def lineG (wt : Nat → Int64) (set lc : Int32) : Nat → Int64 := fun j => if (set >>> (nI j &&& 31)) &&& 1 = 0 then wt j else wt j + (27720 / bitC set).toInt64 * lc.toInt64
set_option maxHeartbeats 4000000 in
set_option maxRecDepth 100000 in
/-- Draft.addLine -/
theorem k_D_addLine (l : Launch) (X : gX) (ad : Nat → Nat) (u : gW) (sz : Nat) (d : Nat) (wt : Nat → Int64) (cv : Value) (way ce ra lc ln set : Int32) (hd : u d = some (.inr (2, [.ref (ad (d + 1)), .ref (ad (d + 2)), cv, .int way, .int ce, .int ra, .int lc]))) (hd2 : u (d + 2) = some (.inl ((X.2 1), 12, .inr (.inl wt))))  : gMet l (EE X) y_D_addLine c_D_addLine 7 none ({ frames := 1, cells := 0, slots := 0, locals := 20 }) [.ref (ad d), .int ln, .int set] ad u sz (fun v u' sz' => v = none ∧ sz' = sz ∧ u' = if bitC set = 0 then u else gup (gup u (d + 2) (.inl ((X.2 1), 12, .inr (.inl (mapL wt (lineG wt set ln) 12))))) d (.inr (2, [.ref (ad (d + 1)), .ref (ad (d + 2)), cv, .int way, .int ce, .int ra, .int (lc + 1)]))) := by
  refine gMet_of "ExpenseClubs$Draft" rfl (by decide) (Nat.le_of_ble_eq_true rfl) (lv := [(0, .ref (ad d)), (1, .int ln), (2, .int set)]) rfl (fun Z hZl C hR hret hname => ?_)
  refine g_iload_n C d_D_addLine_0 rfl 2 rfl ?_
  refine g_callS 1 C (k_I_bitCount _ X ad u sz set) (gmem wd_242 rfl) (gmem wd_243 rfl) (gmem wd_7 rfl) (gmem wd_244 rfl) ⟨by decide, by decide, by decide +kernel⟩ ⟨Nat.le_of_ble_eq_true rfl, Nat.le_of_ble_eq_true rfl⟩ rfl rfl (Nat.le_of_ble_eq_true rfl) d_D_addLine_1 ⟨Nat.le_of_ble_eq_true rfl, Nat.le_of_ble_eq_true rfl⟩ ?_
  rintro v9 u9 s9 ⟨h9, hu9, hs9⟩; rw [h9, hu9, hs9]; clear h9 hu9 hs9 v9 u9 s9
  show GW Z _ _ _ ad u sz [(0, .ref (ad d)), (1, .int ln), (2, .int set)] 0 0 4 [.int (bitC set)]
  refine g_topi (fun x4 ex4 => ?_)
  refine g_istore_n C d_D_addLine_4 rfl [(3, .int x4), (0, .ref (ad d)), (1, .int ln), (2, .int set)] (by decide) rfl ?_
  refine g_iload_n C d_D_addLine_5 rfl 0 rfl ?_
  refine g_if_ne 10 C d_D_addLine_6 (by decide) (fun c6 => ?_) (fun c6 => ?_)
  · skip
    refine g_sipush (v := 27720) C d_D_addLine_10 (by decide) ?_
    refine g_iload_n C d_D_addLine_13 rfl 0 rfl ?_
    refine g_idiv C d_D_addLine_14 c6 ?_
    refine g_i2l C d_D_addLine_15 ?_
    refine g_iload_n C d_D_addLine_16 rfl 2 rfl ?_
    refine g_i2l C d_D_addLine_17 ?_
    refine g_lmul C d_D_addLine_18 ?_
    refine g_topl (fun x19 ex19 => ?_)
    refine g_lstore C d_D_addLine_19 [(4, .long x19), (3, .int x4), (0, .ref (ad d)), (1, .int ln), (2, .int set)] (by decide) rfl ?_
    refine g_iconst (v := 0) C d_D_addLine_21 (by decide) ?_
    refine g_istore C d_D_addLine_22 [(6, .int 0), (4, .long x19), (3, .int x4), (0, .ref (ad d)), (1, .int ln), (2, .int set)] (by decide) rfl ?_
    refine g_fewer (lv' := [(0, .ref (ad d)), (2, .int set), (4, .long x19), (6, .int 0)]) [3, 5, 1, 0] rfl ?_
    refine GW_eq (u2 := gup u (d + 2) (.inl ((X.2 1), 12, .inr (.inl (mapL wt (lineG wt set ln) 0))))) (lv2 := [(0, .ref (ad d)), (2, .int set), (4, .long ((27720 / bitC set).toInt64 * ln.toInt64)), (6, .int (nI 0))]) (by rw [mapL_0, gup_id hd2]) (by simp only [ex4, ex19]; rfl) ?_
    refine g_loop 12 (fun iL6 => True) (fun iL6 => gup u (d + 2) (.inl ((X.2 1), 12, .inr (.inl (mapL wt (lineG wt set ln) iL6))))) (fun iL6 => [(0, .ref (ad d)), (2, .int set), (4, .long ((27720 / bitC set).toInt64 * ln.toInt64)), (6, .int (nI iL6))]) (fun iL6 hiL6 piL6 KL6 => ?_) (fun piL6 => ?_) 0 (by omega) trivial
    · skip
      show GW Z _ _ _ ad (gup u (d + 2) (.inl ((X.2 1), 12, .inr (.inl (mapL wt (lineG wt set ln) iL6))))) _ [(0, .ref (ad d)), (2, .int set), (4, .long ((27720 / bitC set).toInt64 * ln.toInt64)), (6, .int (nI iL6))] _ _ 24 []
      obtain ⟨wL6s, hwL6s⟩ : ∃ z, z = gup u (d + 2) (.inl ((X.2 1), 12, .inr (.inl (mapL wt (lineG wt set ln) iL6)))) := ⟨_, rfl⟩
      rw [← hwL6s]
      have hwL6s_0 : wL6s d = some (.inr (2, [.ref (ad (d + 1)), .ref (ad (d + 2)), cv, .int way, .int ce, .int ra, .int lc])) := by rw [hwL6s, gup_ne (by omega)]; exact hd
      have hwL6s_1 : wL6s (d + 2) = some (.inl ((X.2 1), 12, .inr (.inl (mapL wt (lineG wt set ln) iL6)))) := by rw [hwL6s, gup_self]
      refine g_iload C d_D_addLine_24 3 rfl ?_
      refine g_bipush (v := 12) C d_D_addLine_26 (by decide) ?_
      refine g_icmp_ge 58 C d_D_addLine_28 (by decide) (fun c6s28 => ?_) (fun c6s28 => ?_)
      · exact absurd c6s28 (ge12 hiL6)
      refine g_iload_n C d_D_addLine_31 rfl 1 rfl ?_
      refine g_iload C d_D_addLine_32 3 rfl ?_
      refine g_ishr C d_D_addLine_34 ?_
      refine g_iconst (v := 1) C d_D_addLine_35 (by decide) ?_
      refine g_iand C d_D_addLine_36 ?_
      refine g_if_eq 52 C d_D_addLine_37 (by decide) (fun c6s37 => ?_) (fun c6s37 => ?_)
      · skip
        obtain ⟨x6s52, ex6s52⟩ : ∃ y : Int32, y = (nI iL6) + 1 := ⟨_, rfl⟩
        refine g_iinc (v := x6s52) C d_D_addLine_52 3 rfl (by rw [ex6s52]; rfl) [(6, .int x6s52), (0, .ref (ad d)), (2, .int set), (4, .long ((27720 / bitC set).toInt64 * ln.toInt64))] (by decide) rfl ?_
        refine g_goto 24 C d_D_addLine_55 (by decide) ?_
        refine g_fewer (lv' := [(0, .ref (ad d)), (2, .int set), (4, .long ((27720 / bitC set).toInt64 * ln.toInt64)), (6, .int x6s52)]) [1, 2, 3, 0] rfl ?_
        refine GW_eq (u2 := gup u (d + 2) (.inl ((X.2 1), 12, .inr (.inl (mapL wt (lineG wt set ln) (iL6 + 1)))))) (lv2 := [(0, .ref (ad d)), (2, .int set), (4, .long ((27720 / bitC set).toInt64 * ln.toInt64)), (6, .int (nI (iL6 + 1)))]) ?_ ?_ (KL6 trivial)
        · first | (rw [hwL6s]; done) | (rw [hwL6s]; rw [mapL_k (f := wt) (g := lineG wt set ln) (if_pos c6s37)]; done) | (rw [hwL6s]; rw [mapL_k (f := wt) (g := lineG wt set ln) (if_pos c6s37)]; funext k; simp only [gup]; (repeat' split) <;> first | with_reducible rfl | (exfalso; omega) | rfl)
        · first | rfl | simp only [ex6s52, nI_1, nI_0]
      · skip
        refine g_aload_n C d_D_addLine_40 rfl 0 rfl ?_
        refine g_get d 1 C hwL6s_0 rfl i_D (by decide) (gmem wd_35 rfl) rfl rfl d_D_addLine_41 ?_
        refine g_iload C d_D_addLine_44 3 rfl ?_
        refine g_dup2_11 C d_D_addLine_46 rfl rfl ?_
        refine g_lald (d + 2) 1 C hwL6s_1 rfl (vp_in_nI (by omega) (by decide)) d_D_addLine_47 ?_
        rw [show Int32.toNatClampNeg (nI iL6) = iL6 from nI_clamp (by omega)]
        refine g_lload C d_D_addLine_48 2 rfl ?_
        refine g_ladd C d_D_addLine_50 ?_
        refine g_topl (fun x6s51 ex6s51 => ?_)
        refine g_last (d + 2) 1 C hwL6s_1 rfl (vp_in_nI (by omega) (by decide)) d_D_addLine_51 ?_
        rw [show Int32.toNatClampNeg (nI iL6) = iL6 from nI_clamp (by omega)]
        obtain ⟨u6s1, hu6s1⟩ : ∃ z, z = gup wL6s (d + 2) (.inl ((X.2 1), 12, .inr (.inl (vp_updL (mapL wt (lineG wt set ln) iL6) iL6 x6s51)))) := ⟨_, rfl⟩
        rw [← hu6s1]
        have hu6s1_0 : u6s1 d = some (.inr (2, [.ref (ad (d + 1)), .ref (ad (d + 2)), cv, .int way, .int ce, .int ra, .int lc])) := by rw [hu6s1, gup_ne (by omega)]; exact hwL6s_0
        have hu6s1_1 : u6s1 (d + 2) = some (.inl ((X.2 1), 12, .inr (.inl (vp_updL (mapL wt (lineG wt set ln) iL6) iL6 x6s51)))) := by rw [hu6s1]; exact gup_self _ _ _
        obtain ⟨x6s52, ex6s52⟩ : ∃ y : Int32, y = (nI iL6) + 1 := ⟨_, rfl⟩
        refine g_iinc (v := x6s52) C d_D_addLine_52 3 rfl (by rw [ex6s52]; rfl) [(6, .int x6s52), (0, .ref (ad d)), (2, .int set), (4, .long ((27720 / bitC set).toInt64 * ln.toInt64))] (by decide) rfl ?_
        refine g_goto 24 C d_D_addLine_55 (by decide) ?_
        refine g_fewer (lv' := [(0, .ref (ad d)), (2, .int set), (4, .long ((27720 / bitC set).toInt64 * ln.toInt64)), (6, .int x6s52)]) [1, 2, 3, 0] rfl ?_
        refine GW_eq (u2 := gup u (d + 2) (.inl ((X.2 1), 12, .inr (.inl (mapL wt (lineG wt set ln) (iL6 + 1)))))) (lv2 := [(0, .ref (ad d)), (2, .int set), (4, .long ((27720 / bitC set).toInt64 * ln.toInt64)), (6, .int (nI (iL6 + 1)))]) ?_ ?_ (KL6 trivial)
        · first | (rw [hu6s1, hwL6s]; done) | (rw [hu6s1, hwL6s]; simp only [ex6s51, ex6s52, mapL_at]; done) | (rw [hu6s1, hwL6s]; simp only [ex6s51, ex6s52, mapL_at]; rw [mapL_s (g := lineG wt set ln) (if_neg c6s37).symm]; done) | (rw [hu6s1, hwL6s]; simp only [ex6s51, ex6s52, mapL_at]; rw [mapL_s (g := lineG wt set ln) (if_neg c6s37).symm]; funext k; simp only [gup]; (repeat' split) <;> first | with_reducible rfl | (exfalso; omega) | rfl)
        · first | rfl | simp only [ex6s51, ex6s52, nI_1, nI_0]
    · skip
      show GW Z _ _ _ ad (gup u (d + 2) (.inl ((X.2 1), 12, .inr (.inl (mapL wt (lineG wt set ln) 12))))) _ [(0, .ref (ad d)), (2, .int set), (4, .long ((27720 / bitC set).toInt64 * ln.toInt64)), (6, .int (nI 12))] _ _ 24 []
      obtain ⟨wL6e, hwL6e⟩ : ∃ z, z = gup u (d + 2) (.inl ((X.2 1), 12, .inr (.inl (mapL wt (lineG wt set ln) 12)))) := ⟨_, rfl⟩
      rw [← hwL6e]
      have hwL6e_0 : wL6e d = some (.inr (2, [.ref (ad (d + 1)), .ref (ad (d + 2)), cv, .int way, .int ce, .int ra, .int lc])) := by rw [hwL6e, gup_ne (by omega)]; exact hd
      have hwL6e_1 : wL6e (d + 2) = some (.inl ((X.2 1), 12, .inr (.inl (mapL wt (lineG wt set ln) 12)))) := by rw [hwL6e, gup_self]
      refine g_iload C d_D_addLine_24 3 rfl ?_
      refine g_bipush (v := 12) C d_D_addLine_26 (by decide) ?_
      refine g_icmp_ge 58 C d_D_addLine_28 (by decide) (fun c6e28 => ?_) (fun c6e28 => ?_)
      rotate_left
      · exact absurd (by decide) c6e28
      refine g_aload_n C d_D_addLine_58 rfl 0 rfl ?_
      refine g_dup C d_D_addLine_59 rfl ?_
      refine g_get d 6 C hwL6e_0 rfl i_D (by decide) (gmem wd_43 rfl) rfl rfl d_D_addLine_60 ?_
      refine g_iconst (v := 1) C d_D_addLine_63 (by decide) ?_
      refine g_iadd C d_D_addLine_64 ?_
      refine g_topi (fun x6e65 ex6e65 => ?_)
      refine g_put d 6 C hwL6e_0 rfl i_D t_D t_D_ok n_D (by decide) (gmem wd_43 rfl) rfl rfl rfl rfl (Nat.le_of_ble_eq_true rfl) d_D_addLine_65 ?_
      show GW Z _ _ _ ad (gup wL6e d (.inr (2, [.ref (ad (d + 1)), .ref (ad (d + 2)), cv, .int way, .int ce, .int ra, .int x6e65]))) _ _ _ _ _ _
      obtain ⟨u6e2, hu6e2⟩ : ∃ z, z = gup wL6e d (.inr (2, [.ref (ad (d + 1)), .ref (ad (d + 2)), cv, .int way, .int ce, .int ra, .int x6e65])) := ⟨_, rfl⟩
      rw [← hu6e2]
      have hu6e2_0 : u6e2 d = some (.inr (2, [.ref (ad (d + 1)), .ref (ad (d + 2)), cv, .int way, .int ce, .int ra, .int x6e65])) := by rw [hu6e2]; exact gup_self _ _ _
      have hu6e2_1 : u6e2 (d + 2) = some (.inl ((X.2 1), 12, .inr (.inl (mapL wt (lineG wt set ln) 12)))) := by rw [hu6e2, gup_ne (by omega)]; exact hwL6e_1
      exact g_vret C hR hret ⟨rfl, rfl, (by rw [if_neg (by rw [← ex4]; exact c6)]; first | (rw [hu6e2, hwL6e]; done) | (rw [hu6e2, hwL6e]; simp only [ex6e65]; done) | (rw [hu6e2, hwL6e]; simp only [ex6e65]; funext k; simp only [gup]; (repeat' split) <;> first | with_reducible rfl | (exfalso; omega) | rfl))⟩ d_D_addLine_68
  · skip
    exact g_vret C hR hret ⟨rfl, rfl, (if_pos (by rw [← ex4]; exact c6)).symm⟩ d_D_addLine_9

def dueS (way ce : Int32) (s : Int64) : Int64 := if way = 3 then ce.toInt64 else if way = 4 then 10000 else if way = 5 then 27720 * ce.toInt64 else s
set_option maxHeartbeats 4000000 in
set_option maxRecDepth 100000 in
/-- Draft.dueSum -/
theorem k_D_dueSum (l : Launch) (X : gX) (ad : Nat → Nat) (u : gW) (sz : Nat) (d : Nat) (q1 q2 cv : Value) (way ce ra lc : Int32) (s : Int64) (hd : u d = some (.inr (2, [q1, q2, cv, .int way, .int ce, .int ra, .int lc])))  : gMet l (EE X) y_D_dueSum c_D_dueSum 3 (some .long) ({ frames := 0, cells := 0, slots := 0, locals := 0 }) [.ref (ad d), .long s] ad u sz (fun v u' sz' => v = some (.long (dueS way ce s)) ∧ u' = u ∧ sz' = sz) := by
  refine gMet_of "ExpenseClubs$Draft" rfl (by decide) (Nat.le_of_ble_eq_true rfl) (lv := [(0, .ref (ad d)), (1, .long s)]) rfl (fun Z hZl C hR hret hname => ?_)
  refine g_aload_n C d_D_dueSum_0 rfl 0 rfl ?_
  refine g_get d 3 C hd rfl i_D (by decide) (gmem wd_39 rfl) rfl rfl d_D_dueSum_1 ?_
  by_cases c4_3 : way = 3
  · refine g_tableIn (off := 28) 32 C d_D_dueSum_4 (by rw [c4_3]; decide) (by rw [c4_3]; decide) (by rw [c4_3]; rfl) (by decide) ?_
    refine g_aload_n C d_D_dueSum_32 rfl 0 rfl ?_
    refine g_get d 4 C hd rfl i_D (by decide) (gmem wd_41 rfl) rfl rfl d_D_dueSum_33 ?_
    refine g_i2l C d_D_dueSum_36 ?_
    exact g_lret C hR hret ⟨by simp_all [dueS], rfl, rfl⟩ d_D_dueSum_37
  by_cases c4_4 : way = 4
  · refine g_tableIn (off := 34) 38 C d_D_dueSum_4 (by rw [c4_4]; decide) (by rw [c4_4]; decide) (by rw [c4_4]; rfl) (by decide) ?_
    refine g_ldc2 C (gmem wd_268 rfl) d_D_dueSum_38 ?_
    exact g_lret C hR hret ⟨by simp_all [dueS], rfl, rfl⟩ d_D_dueSum_41
  by_cases c4_5 : way = 5
  · refine g_tableIn (off := 38) 42 C d_D_dueSum_4 (by rw [c4_5]; decide) (by rw [c4_5]; decide) (by rw [c4_5]; rfl) (by decide) ?_
    refine g_ldc2 C (gmem wd_269 rfl) d_D_dueSum_42 ?_
    refine g_aload_n C d_D_dueSum_45 rfl 0 rfl ?_
    refine g_get d 4 C hd rfl i_D (by decide) (gmem wd_41 rfl) rfl rfl d_D_dueSum_46 ?_
    refine g_i2l C d_D_dueSum_49 ?_
    refine g_lmul C d_D_dueSum_50 ?_
    exact g_lret C hR hret ⟨by simp_all [dueS], rfl, rfl⟩ d_D_dueSum_51
  refine g_tableOut 52 C d_D_dueSum_4 (by have h0 := lv_neT c4_3 (a := 3) (by decide); have h1 := lv_neT c4_4 (a := 4) (by decide); have h2 := lv_neT c4_5 (a := 5) (by decide); omega) (by decide) ?_
  refine g_lload_n C d_D_dueSum_52 rfl 1 rfl ?_
  exact g_lret C hR hret ⟨by simp_all [dueS], rfl, rfl⟩ d_D_dueSum_53

/-- one who left pays or has a weight -/
def badL (py wt : Nat → Int64) (go : Int32) (j : Nat) : Prop := gBit go (nI j) = true ∧ (0 < py j ∨ ¬ wt j ≤ 0)
def refuse (py wt : Nat → Int64) (go way ce : Int32) (r : Int32) : Prop :=
  ((∃ j, j < 12 ∧ badL py wt go j) ∧ r = -4) ∨ ((∀ j, j < 12 → ¬ badL py wt go j) ∧ r = if ¬ sumL py 12 = ce.toInt64 then -5 else if sumL wt 12 = 0 then -6 else if ¬ sumL wt 12 = dueS way ce (sumL wt 12) then -7 else 0)
set_option maxHeartbeats 4000000 in
set_option maxRecDepth 100000 in
/-- Draft.refusalFor -/
theorem k_D_refusalFor (l : Launch) (X : gX) (ad : Nat → Nat) (u : gW) (sz : Nat) (d b : Nat) (py wt : Nat → Int64) (cv r0 r1 r2 : Value) (way ce ra lc mc go mk : Int32) (hd : u d = some (.inr (2, [.ref (ad (d + 1)), .ref (ad (d + 2)), cv, .int way, .int ce, .int ra, .int lc]))) (hd1 : u (d + 1) = some (.inl ((X.2 1), 12, .inr (.inl py)))) (hd2 : u (d + 2) = some (.inl ((X.2 1), 12, .inr (.inl wt)))) (hb : u b = some (.inr (1, [r0, r1, r2, .int mc, .int go, .int mk])))  : gMet l (EE X) y_D_refusalFor c_D_refusalFor 4 (some .int) ({ frames := 1, cells := 0, slots := 0, locals := 23 }) [.ref (ad d), .ref (ad b)] ad u sz (fun v u' sz' => ∃ r : Int32, v = some (.int r) ∧ refuse py wt go way ce r ∧ u' = u ∧ sz' = sz) := by
  refine gMet_of "ExpenseClubs$Draft" rfl (by decide) (Nat.le_of_ble_eq_true rfl) (lv := [(0, .ref (ad d)), (1, .ref (ad b))]) rfl (fun Z hZl C hR hret hname => ?_)
  refine g_iconst (v := 0) C d_D_refusalFor_0 (by decide) ?_
  refine g_istore_n C d_D_refusalFor_1 rfl [(2, .int 0), (0, .ref (ad d)), (1, .ref (ad b))] (by decide) rfl ?_
  refine g_fewer (lv' := [(0, .ref (ad d)), (1, .ref (ad b)), (2, .int 0)]) [1, 2, 0] rfl ?_
  refine GW_eq (u2 := u) (lv2 := [(0, .ref (ad d)), (1, .ref (ad b)), (2, .int (nI 0))]) rfl rfl ?_
  refine g_loop 12 (fun iL7 => ∀ j, j < iL7 → ¬ badL py wt go j) (fun iL7 => u) (fun iL7 => [(0, .ref (ad d)), (1, .ref (ad b)), (2, .int (nI iL7))]) (fun iL7 hiL7 piL7 KL7 => ?_) (fun piL7 => ?_) 0 (by omega) lt_0
  · skip
    show GW Z _ _ _ ad (u) _ [(0, .ref (ad d)), (1, .ref (ad b)), (2, .int (nI iL7))] _ _ 2 []
    obtain ⟨wL7s, hwL7s⟩ : ∃ z, z = u := ⟨_, rfl⟩
    rw [← hwL7s]
    have hwL7s_0 : wL7s d = some (.inr (2, [.ref (ad (d + 1)), .ref (ad (d + 2)), cv, .int way, .int ce, .int ra, .int lc])) := by rw [hwL7s]; exact hd
    have hwL7s_1 : wL7s (d + 1) = some (.inl ((X.2 1), 12, .inr (.inl py))) := by rw [hwL7s]; exact hd1
    have hwL7s_2 : wL7s (d + 2) = some (.inl ((X.2 1), 12, .inr (.inl wt))) := by rw [hwL7s]; exact hd2
    have hwL7s_3 : wL7s b = some (.inr (1, [r0, r1, r2, .int mc, .int go, .int mk])) := by rw [hwL7s]; exact hb
    refine g_iload_n C d_D_refusalFor_2 rfl 2 rfl ?_
    refine g_bipush (v := 12) C d_D_refusalFor_3 (by decide) ?_
    refine g_icmp_ge 47 C d_D_refusalFor_5 (by decide) (fun c7s5 => ?_) (fun c7s5 => ?_)
    · exact absurd c7s5 (ge12 hiL7)
    refine g_aload_n C d_D_refusalFor_8 rfl 1 rfl ?_
    refine g_iload_n C d_D_refusalFor_9 rfl 2 rfl ?_
    refine g_callV 1 C (k_C_isGone _ X ad wL7s sz b r0 r1 r2 mc go mk (nI iL7) hwL7s_3) (gmem wd_260 rfl) (gmem wd_206 rfl) (gmem wd_207 rfl) (gmem wd_5 rfl) (gmem wd_208 rfl) ⟨by decide, by decide, by decide +kernel⟩ ⟨Nat.le_of_ble_eq_true rfl, Nat.le_of_ble_eq_true rfl⟩ hwL7s_3 rfl rfl rfl (Nat.le_of_ble_eq_true rfl) d_D_refusalFor_10 ⟨Nat.le_of_ble_eq_true rfl, Nat.le_of_ble_eq_true rfl⟩ ?_
    rintro v9 u9 s9 ⟨h9, hu9, hs9⟩; rw [h9, hu9, hs9]; clear h9 hu9 hs9 v9 u9 s9
    show GW Z _ _ _ ad wL7s sz [(0, .ref (ad d)), (1, .ref (ad b)), (2, .int (nI iL7))] 0 0 13 [.int (bI (gBit go (nI iL7)))]
    refine g_if_eq 41 C d_D_refusalFor_13 (by decide) (fun c7s13 => ?_) (fun c7s13 => ?_)
    · skip
      obtain ⟨x7s41, ex7s41⟩ : ∃ y : Int32, y = (nI iL7) + 1 := ⟨_, rfl⟩
      refine g_iinc (v := x7s41) C d_D_refusalFor_41 2 rfl (by rw [ex7s41]; rfl) [(2, .int x7s41), (0, .ref (ad d)), (1, .ref (ad b))] (by decide) rfl ?_
      refine g_goto 2 C d_D_refusalFor_44 (by decide) ?_
      refine g_fewer (lv' := [(0, .ref (ad d)), (1, .ref (ad b)), (2, .int x7s41)]) [1, 2, 0] rfl ?_
      refine GW_eq (u2 := u) (lv2 := [(0, .ref (ad d)), (1, .ref (ad b)), (2, .int (nI (iL7 + 1)))]) ?_ ?_ (KL7 (lt_s piL7 (fun hB => absurd hB.1 (by rw [bI_eq0.mp c7s13]; decide))))
      · first | (rw [hwL7s]; done) | (rw [hwL7s]; funext k; simp only [gup]; (repeat' split) <;> first | with_reducible rfl | (exfalso; omega) | rfl)
      · first | rfl | simp only [ex7s41, nI_1, nI_0]
    · skip
      refine g_aload_n C d_D_refusalFor_16 rfl 0 rfl ?_
      refine g_get d 0 C hwL7s_0 rfl i_D (by decide) (gmem wd_33 rfl) rfl rfl d_D_refusalFor_17 ?_
      refine g_iload_n C d_D_refusalFor_20 rfl 2 rfl ?_
      refine g_lald (d + 1) 1 C hwL7s_1 rfl (vp_in_nI (by omega) (by decide)) d_D_refusalFor_21 ?_
      rw [show Int32.toNatClampNeg (nI iL7) = iL7 from nI_clamp (by omega)]
      refine g_lconst (v := 0) C d_D_refusalFor_22 (by decide) ?_
      refine g_lcmp C d_D_refusalFor_23 ?_
      refine g_if_gt 38 C d_D_refusalFor_24 (by decide) (fun c7s24 => ?_) (fun c7s24 => ?_)
      · rw [lg_cmp_gt] at c7s24
        refine g_bipush (v := (-4)) C d_D_refusalFor_38 (by decide) ?_
        exact g_iret C hR hret ⟨_, rfl, Or.inl ⟨⟨iL7, hiL7, bI_ne0.mp c7s13, (Or.inl c7s24)⟩, rfl⟩, (by first | (rw [hwL7s]; done) | (rw [hwL7s]; funext k; simp only [gup]; (repeat' split) <;> first | with_reducible rfl | (exfalso; omega) | rfl)), rfl⟩ d_D_refusalFor_40
      · rw [lg_cmp_gt] at c7s24
        refine g_aload_n C d_D_refusalFor_27 rfl 0 rfl ?_
        refine g_get d 1 C hwL7s_0 rfl i_D (by decide) (gmem wd_35 rfl) rfl rfl d_D_refusalFor_28 ?_
        refine g_iload_n C d_D_refusalFor_31 rfl 2 rfl ?_
        refine g_lald (d + 2) 1 C hwL7s_2 rfl (vp_in_nI (by omega) (by decide)) d_D_refusalFor_32 ?_
        rw [show Int32.toNatClampNeg (nI iL7) = iL7 from nI_clamp (by omega)]
        refine g_lconst (v := 0) C d_D_refusalFor_33 (by decide) ?_
        refine g_lcmp C d_D_refusalFor_34 ?_
        refine g_if_le 41 C d_D_refusalFor_35 (by decide) (fun c7s35 => ?_) (fun c7s35 => ?_)
        · rw [lg_cmp_le] at c7s35
          obtain ⟨x7s41, ex7s41⟩ : ∃ y : Int32, y = (nI iL7) + 1 := ⟨_, rfl⟩
          refine g_iinc (v := x7s41) C d_D_refusalFor_41 2 rfl (by rw [ex7s41]; rfl) [(2, .int x7s41), (0, .ref (ad d)), (1, .ref (ad b))] (by decide) rfl ?_
          refine g_goto 2 C d_D_refusalFor_44 (by decide) ?_
          refine g_fewer (lv' := [(0, .ref (ad d)), (1, .ref (ad b)), (2, .int x7s41)]) [1, 2, 0] rfl ?_
          refine GW_eq (u2 := u) (lv2 := [(0, .ref (ad d)), (1, .ref (ad b)), (2, .int (nI (iL7 + 1)))]) ?_ ?_ (KL7 (lt_s piL7 (fun hB => hB.2.elim c7s24 (fun h9 => h9 c7s35))))
          · first | (rw [hwL7s]; done) | (rw [hwL7s]; funext k; simp only [gup]; (repeat' split) <;> first | with_reducible rfl | (exfalso; omega) | rfl)
          · first | rfl | simp only [ex7s41, nI_1, nI_0]
        · rw [lg_cmp_le] at c7s35
          refine g_bipush (v := (-4)) C d_D_refusalFor_38 (by decide) ?_
          exact g_iret C hR hret ⟨_, rfl, Or.inl ⟨⟨iL7, hiL7, bI_ne0.mp c7s13, (Or.inr c7s35)⟩, rfl⟩, (by first | (rw [hwL7s]; done) | (rw [hwL7s]; funext k; simp only [gup]; (repeat' split) <;> first | with_reducible rfl | (exfalso; omega) | rfl)), rfl⟩ d_D_refusalFor_40
  · skip
    show GW Z _ _ _ ad (u) _ [(0, .ref (ad d)), (1, .ref (ad b)), (2, .int (nI 12))] _ _ 2 []
    obtain ⟨wL7e, hwL7e⟩ : ∃ z, z = u := ⟨_, rfl⟩
    rw [← hwL7e]
    have hwL7e_0 : wL7e d = some (.inr (2, [.ref (ad (d + 1)), .ref (ad (d + 2)), cv, .int way, .int ce, .int ra, .int lc])) := by rw [hwL7e]; exact hd
    have hwL7e_1 : wL7e (d + 1) = some (.inl ((X.2 1), 12, .inr (.inl py))) := by rw [hwL7e]; exact hd1
    have hwL7e_2 : wL7e (d + 2) = some (.inl ((X.2 1), 12, .inr (.inl wt))) := by rw [hwL7e]; exact hd2
    have hwL7e_3 : wL7e b = some (.inr (1, [r0, r1, r2, .int mc, .int go, .int mk])) := by rw [hwL7e]; exact hb
    refine g_iload_n C d_D_refusalFor_2 rfl 2 rfl ?_
    refine g_bipush (v := 12) C d_D_refusalFor_3 (by decide) ?_
    refine g_icmp_ge 47 C d_D_refusalFor_5 (by decide) (fun c7e5 => ?_) (fun c7e5 => ?_)
    rotate_left
    · exact absurd (by decide) c7e5
    refine g_aload_n C d_D_refusalFor_47 rfl 0 rfl ?_
    refine g_get d 0 C hwL7e_0 rfl i_D (by decide) (gmem wd_33 rfl) rfl rfl d_D_refusalFor_48 ?_
    refine g_callSN 1 C (k_X_sumOf _ X ad wL7e sz (d + 1) py hwL7e_1) (gmem wd_263 rfl) (gmem wd_1 rfl) (List.mem_of_getElem? (i := 4) rfl) (gmem wd_262 rfl) ⟨by decide, by decide, by decide +kernel⟩ ⟨Nat.le_of_ble_eq_true rfl, Nat.le_of_ble_eq_true rfl⟩ rfl rfl (Nat.le_of_ble_eq_true rfl) d_D_refusalFor_51 ⟨Nat.le_of_ble_eq_true rfl, Nat.le_of_ble_eq_true rfl⟩ ?_
    rintro v9 u9 s9 ⟨h9, hu9, hs9⟩; rw [h9, hu9, hs9]; clear h9 hu9 hs9 v9 u9 s9
    show GW Z _ _ _ ad wL7e sz [(0, .ref (ad d)), (1, .ref (ad b)), (2, .int (nI 12))] 0 0 54 [.long (sumL py 12)]
    refine g_aload_n C d_D_refusalFor_54 rfl 0 rfl ?_
    refine g_get d 4 C hwL7e_0 rfl i_D (by decide) (gmem wd_41 rfl) rfl rfl d_D_refusalFor_55 ?_
    refine g_i2l C d_D_refusalFor_58 ?_
    refine g_lcmp C d_D_refusalFor_59 ?_
    refine g_if_eq 66 C d_D_refusalFor_60 (by decide) (fun c7e60 => ?_) (fun c7e60 => ?_)
    · rw [lg_cmp_eq] at c7e60
      refine g_aload_n C d_D_refusalFor_66 rfl 0 rfl ?_
      refine g_get d 1 C hwL7e_0 rfl i_D (by decide) (gmem wd_35 rfl) rfl rfl d_D_refusalFor_67 ?_
      refine g_callSN 1 C (k_X_sumOf _ X ad wL7e sz (d + 2) wt hwL7e_2) (gmem wd_263 rfl) (gmem wd_1 rfl) (List.mem_of_getElem? (i := 4) rfl) (gmem wd_262 rfl) ⟨by decide, by decide, by decide +kernel⟩ ⟨Nat.le_of_ble_eq_true rfl, Nat.le_of_ble_eq_true rfl⟩ rfl rfl (Nat.le_of_ble_eq_true rfl) d_D_refusalFor_70 ⟨Nat.le_of_ble_eq_true rfl, Nat.le_of_ble_eq_true rfl⟩ ?_
      rintro v9 u9 s9 ⟨h9, hu9, hs9⟩; rw [h9, hu9, hs9]; clear h9 hu9 hs9 v9 u9 s9
      show GW Z _ _ _ ad wL7e sz [(0, .ref (ad d)), (1, .ref (ad b)), (2, .int (nI 12))] 0 0 73 [.long (sumL wt 12)]
      refine g_topl (fun x7e73 ex7e73 => ?_)
      refine g_lstore_n C d_D_refusalFor_73 rfl [(2, .long x7e73), (0, .ref (ad d)), (1, .ref (ad b))] (by decide) rfl ?_
      refine g_lload_n C d_D_refusalFor_74 rfl 0 rfl ?_
      refine g_lconst (v := 0) C d_D_refusalFor_75 (by decide) ?_
      refine g_lcmp C d_D_refusalFor_76 ?_
      refine g_if_ne 83 C d_D_refusalFor_77 (by decide) (fun c7e77 => ?_) (fun c7e77 => ?_)
      · rw [lg_cmp_eq] at c7e77
        refine g_lload_n C d_D_refusalFor_83 rfl 0 rfl ?_
        refine g_aload_n C d_D_refusalFor_84 rfl 1 rfl ?_
        refine g_lload_n C d_D_refusalFor_85 rfl 0 rfl ?_
        refine g_callV 1 C (k_D_dueSum _ X ad wL7e sz d _ _ cv way ce ra lc x7e73 hwL7e_0) (gmem wd_264 rfl) (gmem wd_266 rfl) (gmem ws_2 rfl) (gmem wd_2 rfl) (gmem wd_267 rfl) ⟨by decide, by decide, by decide +kernel⟩ ⟨Nat.le_of_ble_eq_true rfl, Nat.le_of_ble_eq_true rfl⟩ hwL7e_0 rfl rfl rfl (Nat.le_of_ble_eq_true rfl) d_D_refusalFor_86 ⟨Nat.le_of_ble_eq_true rfl, Nat.le_of_ble_eq_true rfl⟩ ?_
        rintro v9 u9 s9 ⟨h9, hu9, hs9⟩; rw [h9, hu9, hs9]; clear h9 hu9 hs9 v9 u9 s9
        show GW Z _ _ _ ad wL7e sz [(2, .long x7e73), (0, .ref (ad d)), (1, .ref (ad b))] 0 0 89 [.long (dueS way ce x7e73), .long x7e73]
        refine g_lcmp C d_D_refusalFor_89 ?_
        refine g_if_ne 97 C d_D_refusalFor_90 (by decide) (fun c7e90 => ?_) (fun c7e90 => ?_)
        · rw [lg_cmp_eq] at c7e90
          refine g_bipush (v := (-7)) C d_D_refusalFor_97 (by decide) ?_
          exact g_iret C hR hret ⟨_, rfl, Or.inr ⟨piL7, by simp only [ex7e73] at c7e77 c7e90; rw [if_neg (not_not_intro c7e60), if_neg c7e77, if_pos c7e90]⟩, (by first | (rw [hwL7e]; done) | (rw [hwL7e]; funext k; simp only [gup]; (repeat' split) <;> first | with_reducible rfl | (exfalso; omega) | rfl)), rfl⟩ d_D_refusalFor_99
        · rw [lg_cmp_eq] at c7e90
          refine g_iconst (v := 0) C d_D_refusalFor_93 (by decide) ?_
          refine g_goto 99 C d_D_refusalFor_94 (by decide) ?_
          exact g_iret C hR hret ⟨_, rfl, Or.inr ⟨piL7, by simp only [ex7e73] at c7e77 c7e90; rw [if_neg (not_not_intro c7e60), if_neg c7e77, if_neg (not_not_intro c7e90)]⟩, (by first | (rw [hwL7e]; done) | (rw [hwL7e]; funext k; simp only [gup]; (repeat' split) <;> first | with_reducible rfl | (exfalso; omega) | rfl)), rfl⟩ d_D_refusalFor_99
      · rw [lg_cmp_eq] at c7e77
        refine g_bipush (v := (-6)) C d_D_refusalFor_80 (by decide) ?_
        exact g_iret C hR hret ⟨_, rfl, Or.inr ⟨piL7, by simp only [ex7e73] at c7e77; rw [if_neg (not_not_intro c7e60), if_pos c7e77]⟩, (by first | (rw [hwL7e]; done) | (rw [hwL7e]; funext k; simp only [gup]; (repeat' split) <;> first | with_reducible rfl | (exfalso; omega) | rfl)), rfl⟩ d_D_refusalFor_82
    · rw [lg_cmp_eq] at c7e60
      refine g_bipush (v := (-5)) C d_D_refusalFor_63 (by decide) ?_
      exact g_iret C hR hret ⟨_, rfl, Or.inr ⟨piL7, by rw [if_pos c7e60]⟩, (by first | (rw [hwL7e]; done) | (rw [hwL7e]; funext k; simp only [gup]; (repeat' split) <;> first | with_reducible rfl | (exfalso; omega) | rfl)), rfl⟩ d_D_refusalFor_65
end
section
section GNQ
variable {Z : gZ} {R : Room} {cc : ByteArray} {nL : Nat} {own : String} {Ts : List Cond} {E : gE} {ad : Nat → Nat} {u : gW} {sz : Nat} {lv : List (Nat × Value)} {cells slots pc : Nat} {st : List Value}
theorem g_newq {C0 : String} {index : Nat} {i : Int32} {N : Nat} {cA : ClassId} (n t0 : Nat) (C : gC Z cc nL own Ts E) (hn : u n = none) (ha : ad n = sz) (hcl : Cond.classLink own index C0 ∈ Ts) (hover : va_AO C0 (gs Z)) (ht : E.2.2[t0]? = some (cA, .object C0)) (hi : ¬ i < 0) (hN : i.toNatClampNeg = N) (hbytes : N * 4 ≤ 536870912) (hcells : cells + 1 ≤ R.cells) (hslots : slots + N ≤ R.slots) (hd : decode cc pc = .ok (.anewarray index, 3))
    (kk : GW Z R nL E ad (gup u n (.inl (cA, N, .inr (.inr (.inr (.inr (fun _ => none))))))) (sz + 1) lv (cells + 1) (slots + N) (pc + 3) (.ref (ad n) :: st)) : GW Z R nL E ad u sz lv cells slots pc (.int i :: st) := by
  intro H locs ls h1 h2 h3 h4 h5
  obtain ⟨hx, hb, hml, hown, hts, hK, hA, hlk⟩ := C
  have hsz : ad n = H.size := ha.trans h1.symm
  subst hN
  refine W.anew hx hb hown (hts _ hcl) (va_AO.use hover) rfl hd rfl hi hbytes hcells hslots fun cA' kA comp f1 f2 f3 f4 => ?_
  obtain ⟨kA2, comp2, k1, k2, k3, k4⟩ := (hK.2 t0 _ ht).2
  have hsame : cA' = cA := Option.some.inj (f1.symm.trans k4)
  subst hsame
  generalize hH1 : H.push ({ cls := cA', slots := Array.replicate i.toNatClampNeg .null, vm := .none } : Cell) = H1
  have z1 : H1.size = H.size + 1 := by rw [← hH1, Array.size_push]
  have e1 : H1[H.size]? = some (arrV cA' i.toNatClampNeg (fun _ => .null)) := by rw [← hH1, Array.getElem?_push_size, ← arrV_new]
  have o1 : ∀ q : Nat, q < H.size → H1[q]? = H[q]? := fun q hq => by rw [← hH1, Array.getElem?_push, if_neg (Nat.ne_of_lt hq)]
  have K := kk H1 locs ls (by rw [z1, h1]) (gP_new h2 hn hsz (show va_at E.1 E.2.1 (ad n, .inl (cA', i.toNatClampNeg, .inr (.inr (.inr (.inr (fun _ => none)))))) H1 by
    rw [hsz]
    show H1[H.size]? = some (vp_cell _ _)
    rw [vp_cell_q]; exact e1) o1) (gI_new h3 (hA _ (by rw [hsz]; exact h4.1)))
    ⟨Nat.le_trans h4.1 (by omega), fun x g1 g2 => (o1 x (Nat.lt_of_lt_of_le g1 h4.1)).trans (h4.2.1 x g1 g2), h4.2.2⟩ h5
  rw [hsz] at K
  exact K
end GNQ
set_option maxHeartbeats 4000000 in
set_option maxRecDepth 100000 in
theorem k_S_init (l : Launch) (X : gX) (ad : Nat → Nat) (u : gW) (sz : Nat) (t : Nat) (hb : u t = some (.inr (4, [.null, .null, .null, .null, .null, .int 0, .int 0, .int 0, .int 0])))  (hf0 : u (t + 1) = none) (ha0 : ad (t + 1) = sz) (hf1 : u (t + 2) = none) (ha1 : ad (t + 2) = sz + 1) (hf2 : u (t + 3) = none) (ha2 : ad (t + 3) = sz + 2) (hf3 : u (t + 4) = none) (ha3 : ad (t + 4) = sz + 3) (hf4 : u (t + 5) = none) (ha4 : ad (t + 5) = sz + 4) : gMet l (EE X) y_S_init c_S_init 1 none ({ frames := 1, cells := 5, slots := 60, locals := 20 }) [.ref (ad t)] ad u sz (fun v u' sz' => v = none ∧ u' = gup (gup (gup (gup (gup (gup u t (.inr (4, [.ref (ad (t + 1)), .ref (ad (t + 2)), .ref (ad (t + 3)), .ref (ad (t + 4)), .ref (ad (t + 5)), .int 0, .int 0, .int 0, .int 0]))) (t + 1) (.inl ((X.2 0), 12, .inl (fun _ => 0)))) (t + 2) (.inl ((X.2 0), 12, .inl (fun _ => 0)))) (t + 3) (.inl ((X.2 0), 12, .inl (fun _ => 0)))) (t + 4) (.inl ((X.2 1), 12, .inr (.inl (fun _ => 0))))) (t + 5) (.inl ((X.2 2), 12, .inl (fun _ => 0))) ∧ sz' = sz + 5) := by
  refine gMet_of "ExpenseClubs$Settlement" rfl (by decide) (Nat.le_of_ble_eq_true rfl) (lv := [(0, .ref (ad t))]) rfl (fun Z hZl C hR hret hname => ?_)
  refine g_aload_n C d_S_init_0 rfl 0 rfl ?_
  refine g_objInit C (gmem wd_114 rfl) (gmem wd_21 rfl) (gmem wd_22 rfl) d_S_init_1 (Nat.le_of_ble_eq_true rfl) (Nat.le_of_ble_eq_true rfl) ?_
  refine g_aload_n C d_S_init_4 rfl 0 rfl ?_
  refine g_bipush (v := 12) C d_S_init_5 (by decide) ?_
  refine g_newa (atype := .int) (ty := .int) (cA := (X.2 0)) (N := 12) (a0 := (12, .inl (fun _ => 0))) (t + 1) 0 C hf0 ha0 (gmem wd_80 rfl) rfl rfl (fun _ => rfl) (by decide) (by decide) (by decide) (Nat.le_of_ble_eq_true rfl) (Nat.le_of_ble_eq_true rfl) d_S_init_7 ?_
  obtain ⟨u1, hu1⟩ : ∃ z, z = gup u (t + 1) (.inl ((X.2 0), 12, .inl (fun _ => 0))) := ⟨_, rfl⟩
  rw [← hu1]
  have hu1_0 : u1 t = some (.inr (4, [.null, .null, .null, .null, .null, .int 0, .int 0, .int 0, .int 0])) := by rw [hu1, gup_ne (by omega)]; exact hb
  have hu1_1 : u1 (t + 1) = some (.inl ((X.2 0), 12, .inl (fun _ => 0))) := by rw [hu1]; exact gup_self _ _ _
  have hu1_f1 : u1 (t + 2) = none := by rw [hu1, gup_ne (by omega)]; exact hf1
  have hu1_f2 : u1 (t + 3) = none := by rw [hu1, gup_ne (by omega)]; exact hf2
  have hu1_f3 : u1 (t + 4) = none := by rw [hu1, gup_ne (by omega)]; exact hf3
  have hu1_f4 : u1 (t + 5) = none := by rw [hu1, gup_ne (by omega)]; exact hf4
  show GW Z _ _ _ ad u1 (sz + 1) [(0, .ref (ad t))] 1 12 9 [.ref (ad (t + 1)), .ref (ad t)]
  refine g_putF t 0 C hname hu1_0 rfl i_S t_S t_S_ok n_S (by decide) (gmem wd_115 rfl) rfl rfl rfl rfl rfl (Nat.le_of_ble_eq_true rfl) d_S_init_9 ?_
  show GW Z _ _ _ ad (gup u1 t (.inr (4, [.ref (ad (t + 1)), .null, .null, .null, .null, .int 0, .int 0, .int 0, .int 0]))) _ _ _ _ _ _
  obtain ⟨u2, hu2⟩ : ∃ z, z = gup u1 t (.inr (4, [.ref (ad (t + 1)), .null, .null, .null, .null, .int 0, .int 0, .int 0, .int 0])) := ⟨_, rfl⟩
  rw [← hu2]
  have hu2_0 : u2 t = some (.inr (4, [.ref (ad (t + 1)), .null, .null, .null, .null, .int 0, .int 0, .int 0, .int 0])) := by rw [hu2]; exact gup_self _ _ _
  have hu2_1 : u2 (t + 1) = some (.inl ((X.2 0), 12, .inl (fun _ => 0))) := by rw [hu2, gup_ne (by omega)]; exact hu1_1
  have hu2_f0 : u2 (t + 2) = none := by rw [hu2, gup_ne (by omega)]; exact hu1_f1
  have hu2_f1 : u2 (t + 3) = none := by rw [hu2, gup_ne (by omega)]; exact hu1_f2
  have hu2_f2 : u2 (t + 4) = none := by rw [hu2, gup_ne (by omega)]; exact hu1_f3
  have hu2_f3 : u2 (t + 5) = none := by rw [hu2, gup_ne (by omega)]; exact hu1_f4
  refine g_aload_n C d_S_init_12 rfl 0 rfl ?_
  refine g_bipush (v := 12) C d_S_init_13 (by decide) ?_
  refine g_newa (atype := .int) (ty := .int) (cA := (X.2 0)) (N := 12) (a0 := (12, .inl (fun _ => 0))) (t + 2) 0 C hu2_f0 ha1 (gmem wd_80 rfl) rfl rfl (fun _ => rfl) (by decide) (by decide) (by decide) (Nat.le_of_ble_eq_true rfl) (Nat.le_of_ble_eq_true rfl) d_S_init_15 ?_
  obtain ⟨u3, hu3⟩ : ∃ z, z = gup u2 (t + 2) (.inl ((X.2 0), 12, .inl (fun _ => 0))) := ⟨_, rfl⟩
  rw [← hu3]
  have hu3_0 : u3 t = some (.inr (4, [.ref (ad (t + 1)), .null, .null, .null, .null, .int 0, .int 0, .int 0, .int 0])) := by rw [hu3, gup_ne (by omega)]; exact hu2_0
  have hu3_1 : u3 (t + 1) = some (.inl ((X.2 0), 12, .inl (fun _ => 0))) := by rw [hu3, gup_ne (by omega)]; exact hu2_1
  have hu3_2 : u3 (t + 2) = some (.inl ((X.2 0), 12, .inl (fun _ => 0))) := by rw [hu3]; exact gup_self _ _ _
  have hu3_f1 : u3 (t + 3) = none := by rw [hu3, gup_ne (by omega)]; exact hu2_f1
  have hu3_f2 : u3 (t + 4) = none := by rw [hu3, gup_ne (by omega)]; exact hu2_f2
  have hu3_f3 : u3 (t + 5) = none := by rw [hu3, gup_ne (by omega)]; exact hu2_f3
  show GW Z _ _ _ ad u3 (sz + 2) [(0, .ref (ad t))] 2 24 17 [.ref (ad (t + 2)), .ref (ad t)]
  refine g_putF t 1 C hname hu3_0 rfl i_S t_S t_S_ok n_S (by decide) (gmem wd_118 rfl) rfl rfl rfl rfl rfl (Nat.le_of_ble_eq_true rfl) d_S_init_17 ?_
  show GW Z _ _ _ ad (gup u3 t (.inr (4, [.ref (ad (t + 1)), .ref (ad (t + 2)), .null, .null, .null, .int 0, .int 0, .int 0, .int 0]))) _ _ _ _ _ _
  obtain ⟨u4, hu4⟩ : ∃ z, z = gup u3 t (.inr (4, [.ref (ad (t + 1)), .ref (ad (t + 2)), .null, .null, .null, .int 0, .int 0, .int 0, .int 0])) := ⟨_, rfl⟩
  rw [← hu4]
  have hu4_0 : u4 t = some (.inr (4, [.ref (ad (t + 1)), .ref (ad (t + 2)), .null, .null, .null, .int 0, .int 0, .int 0, .int 0])) := by rw [hu4]; exact gup_self _ _ _
  have hu4_1 : u4 (t + 1) = some (.inl ((X.2 0), 12, .inl (fun _ => 0))) := by rw [hu4, gup_ne (by omega)]; exact hu3_1
  have hu4_2 : u4 (t + 2) = some (.inl ((X.2 0), 12, .inl (fun _ => 0))) := by rw [hu4, gup_ne (by omega)]; exact hu3_2
  have hu4_f0 : u4 (t + 3) = none := by rw [hu4, gup_ne (by omega)]; exact hu3_f1
  have hu4_f1 : u4 (t + 4) = none := by rw [hu4, gup_ne (by omega)]; exact hu3_f2
  have hu4_f2 : u4 (t + 5) = none := by rw [hu4, gup_ne (by omega)]; exact hu3_f3
  refine g_aload_n C d_S_init_20 rfl 0 rfl ?_
  refine g_bipush (v := 12) C d_S_init_21 (by decide) ?_
  refine g_newa (atype := .int) (ty := .int) (cA := (X.2 0)) (N := 12) (a0 := (12, .inl (fun _ => 0))) (t + 3) 0 C hu4_f0 ha2 (gmem wd_80 rfl) rfl rfl (fun _ => rfl) (by decide) (by decide) (by decide) (Nat.le_of_ble_eq_true rfl) (Nat.le_of_ble_eq_true rfl) d_S_init_23 ?_
  obtain ⟨u5, hu5⟩ : ∃ z, z = gup u4 (t + 3) (.inl ((X.2 0), 12, .inl (fun _ => 0))) := ⟨_, rfl⟩
  rw [← hu5]
  have hu5_0 : u5 t = some (.inr (4, [.ref (ad (t + 1)), .ref (ad (t + 2)), .null, .null, .null, .int 0, .int 0, .int 0, .int 0])) := by rw [hu5, gup_ne (by omega)]; exact hu4_0
  have hu5_1 : u5 (t + 1) = some (.inl ((X.2 0), 12, .inl (fun _ => 0))) := by rw [hu5, gup_ne (by omega)]; exact hu4_1
  have hu5_2 : u5 (t + 2) = some (.inl ((X.2 0), 12, .inl (fun _ => 0))) := by rw [hu5, gup_ne (by omega)]; exact hu4_2
  have hu5_3 : u5 (t + 3) = some (.inl ((X.2 0), 12, .inl (fun _ => 0))) := by rw [hu5]; exact gup_self _ _ _
  have hu5_f1 : u5 (t + 4) = none := by rw [hu5, gup_ne (by omega)]; exact hu4_f1
  have hu5_f2 : u5 (t + 5) = none := by rw [hu5, gup_ne (by omega)]; exact hu4_f2
  show GW Z _ _ _ ad u5 (sz + 3) [(0, .ref (ad t))] 3 36 25 [.ref (ad (t + 3)), .ref (ad t)]
  refine g_putF t 2 C hname hu5_0 rfl i_S t_S t_S_ok n_S (by decide) (gmem wd_121 rfl) rfl rfl rfl rfl rfl (Nat.le_of_ble_eq_true rfl) d_S_init_25 ?_
  show GW Z _ _ _ ad (gup u5 t (.inr (4, [.ref (ad (t + 1)), .ref (ad (t + 2)), .ref (ad (t + 3)), .null, .null, .int 0, .int 0, .int 0, .int 0]))) _ _ _ _ _ _
  obtain ⟨u6, hu6⟩ : ∃ z, z = gup u5 t (.inr (4, [.ref (ad (t + 1)), .ref (ad (t + 2)), .ref (ad (t + 3)), .null, .null, .int 0, .int 0, .int 0, .int 0])) := ⟨_, rfl⟩
  rw [← hu6]
  have hu6_0 : u6 t = some (.inr (4, [.ref (ad (t + 1)), .ref (ad (t + 2)), .ref (ad (t + 3)), .null, .null, .int 0, .int 0, .int 0, .int 0])) := by rw [hu6]; exact gup_self _ _ _
  have hu6_1 : u6 (t + 1) = some (.inl ((X.2 0), 12, .inl (fun _ => 0))) := by rw [hu6, gup_ne (by omega)]; exact hu5_1
  have hu6_2 : u6 (t + 2) = some (.inl ((X.2 0), 12, .inl (fun _ => 0))) := by rw [hu6, gup_ne (by omega)]; exact hu5_2
  have hu6_3 : u6 (t + 3) = some (.inl ((X.2 0), 12, .inl (fun _ => 0))) := by rw [hu6, gup_ne (by omega)]; exact hu5_3
  have hu6_f0 : u6 (t + 4) = none := by rw [hu6, gup_ne (by omega)]; exact hu5_f1
  have hu6_f1 : u6 (t + 5) = none := by rw [hu6, gup_ne (by omega)]; exact hu5_f2
  refine g_aload_n C d_S_init_28 rfl 0 rfl ?_
  refine g_bipush (v := 12) C d_S_init_29 (by decide) ?_
  refine g_newa (atype := .long) (ty := .long) (cA := (X.2 1)) (N := 12) (a0 := (12, .inr (.inl (fun _ => 0)))) (t + 4) 1 C hu6_f0 ha3 (gmem wd_60 rfl) rfl rfl (fun _ => rfl) (by decide) (by decide) (by decide) (Nat.le_of_ble_eq_true rfl) (Nat.le_of_ble_eq_true rfl) d_S_init_31 ?_
  obtain ⟨u7, hu7⟩ : ∃ z, z = gup u6 (t + 4) (.inl ((X.2 1), 12, .inr (.inl (fun _ => 0)))) := ⟨_, rfl⟩
  rw [← hu7]
  have hu7_0 : u7 t = some (.inr (4, [.ref (ad (t + 1)), .ref (ad (t + 2)), .ref (ad (t + 3)), .null, .null, .int 0, .int 0, .int 0, .int 0])) := by rw [hu7, gup_ne (by omega)]; exact hu6_0
  have hu7_1 : u7 (t + 1) = some (.inl ((X.2 0), 12, .inl (fun _ => 0))) := by rw [hu7, gup_ne (by omega)]; exact hu6_1
  have hu7_2 : u7 (t + 2) = some (.inl ((X.2 0), 12, .inl (fun _ => 0))) := by rw [hu7, gup_ne (by omega)]; exact hu6_2
  have hu7_3 : u7 (t + 3) = some (.inl ((X.2 0), 12, .inl (fun _ => 0))) := by rw [hu7, gup_ne (by omega)]; exact hu6_3
  have hu7_4 : u7 (t + 4) = some (.inl ((X.2 1), 12, .inr (.inl (fun _ => 0)))) := by rw [hu7]; exact gup_self _ _ _
  have hu7_f1 : u7 (t + 5) = none := by rw [hu7, gup_ne (by omega)]; exact hu6_f1
  show GW Z _ _ _ ad u7 (sz + 4) [(0, .ref (ad t))] 4 48 33 [.ref (ad (t + 4)), .ref (ad t)]
  refine g_putF t 3 C hname hu7_0 rfl i_S t_S t_S_ok n_S (by decide) (gmem wd_124 rfl) rfl rfl rfl rfl rfl (Nat.le_of_ble_eq_true rfl) d_S_init_33 ?_
  show GW Z _ _ _ ad (gup u7 t (.inr (4, [.ref (ad (t + 1)), .ref (ad (t + 2)), .ref (ad (t + 3)), .ref (ad (t + 4)), .null, .int 0, .int 0, .int 0, .int 0]))) _ _ _ _ _ _
  obtain ⟨u8, hu8⟩ : ∃ z, z = gup u7 t (.inr (4, [.ref (ad (t + 1)), .ref (ad (t + 2)), .ref (ad (t + 3)), .ref (ad (t + 4)), .null, .int 0, .int 0, .int 0, .int 0])) := ⟨_, rfl⟩
  rw [← hu8]
  have hu8_0 : u8 t = some (.inr (4, [.ref (ad (t + 1)), .ref (ad (t + 2)), .ref (ad (t + 3)), .ref (ad (t + 4)), .null, .int 0, .int 0, .int 0, .int 0])) := by rw [hu8]; exact gup_self _ _ _
  have hu8_1 : u8 (t + 1) = some (.inl ((X.2 0), 12, .inl (fun _ => 0))) := by rw [hu8, gup_ne (by omega)]; exact hu7_1
  have hu8_2 : u8 (t + 2) = some (.inl ((X.2 0), 12, .inl (fun _ => 0))) := by rw [hu8, gup_ne (by omega)]; exact hu7_2
  have hu8_3 : u8 (t + 3) = some (.inl ((X.2 0), 12, .inl (fun _ => 0))) := by rw [hu8, gup_ne (by omega)]; exact hu7_3
  have hu8_4 : u8 (t + 4) = some (.inl ((X.2 1), 12, .inr (.inl (fun _ => 0)))) := by rw [hu8, gup_ne (by omega)]; exact hu7_4
  have hu8_f0 : u8 (t + 5) = none := by rw [hu8, gup_ne (by omega)]; exact hu7_f1
  refine g_aload_n C d_S_init_36 rfl 0 rfl ?_
  refine g_bipush (v := 12) C d_S_init_37 (by decide) ?_
  refine g_newa (atype := .boolean) (ty := .boolean) (cA := (X.2 2)) (N := 12) (a0 := (12, .inl (fun _ => 0))) (t + 5) 2 C hu8_f0 ha4 (gmem wd_159 rfl) rfl rfl (fun _ => rfl) (by decide) (by decide) (by decide) (Nat.le_of_ble_eq_true rfl) (Nat.le_of_ble_eq_true rfl) d_S_init_39 ?_
  obtain ⟨u9, hu9⟩ : ∃ z, z = gup u8 (t + 5) (.inl ((X.2 2), 12, .inl (fun _ => 0))) := ⟨_, rfl⟩
  rw [← hu9]
  have hu9_0 : u9 t = some (.inr (4, [.ref (ad (t + 1)), .ref (ad (t + 2)), .ref (ad (t + 3)), .ref (ad (t + 4)), .null, .int 0, .int 0, .int 0, .int 0])) := by rw [hu9, gup_ne (by omega)]; exact hu8_0
  have hu9_1 : u9 (t + 1) = some (.inl ((X.2 0), 12, .inl (fun _ => 0))) := by rw [hu9, gup_ne (by omega)]; exact hu8_1
  have hu9_2 : u9 (t + 2) = some (.inl ((X.2 0), 12, .inl (fun _ => 0))) := by rw [hu9, gup_ne (by omega)]; exact hu8_2
  have hu9_3 : u9 (t + 3) = some (.inl ((X.2 0), 12, .inl (fun _ => 0))) := by rw [hu9, gup_ne (by omega)]; exact hu8_3
  have hu9_4 : u9 (t + 4) = some (.inl ((X.2 1), 12, .inr (.inl (fun _ => 0)))) := by rw [hu9, gup_ne (by omega)]; exact hu8_4
  have hu9_5 : u9 (t + 5) = some (.inl ((X.2 2), 12, .inl (fun _ => 0))) := by rw [hu9]; exact gup_self _ _ _
  show GW Z _ _ _ ad u9 (sz + 5) [(0, .ref (ad t))] 5 60 41 [.ref (ad (t + 5)), .ref (ad t)]
  refine g_putF t 4 C hname hu9_0 rfl i_S t_S t_S_ok n_S (by decide) (gmem wd_127 rfl) rfl rfl rfl rfl rfl (Nat.le_of_ble_eq_true rfl) d_S_init_41 ?_
  show GW Z _ _ _ ad (gup u9 t (.inr (4, [.ref (ad (t + 1)), .ref (ad (t + 2)), .ref (ad (t + 3)), .ref (ad (t + 4)), .ref (ad (t + 5)), .int 0, .int 0, .int 0, .int 0]))) _ _ _ _ _ _
  obtain ⟨u10, hu10⟩ : ∃ z, z = gup u9 t (.inr (4, [.ref (ad (t + 1)), .ref (ad (t + 2)), .ref (ad (t + 3)), .ref (ad (t + 4)), .ref (ad (t + 5)), .int 0, .int 0, .int 0, .int 0])) := ⟨_, rfl⟩
  rw [← hu10]
  have hu10_0 : u10 t = some (.inr (4, [.ref (ad (t + 1)), .ref (ad (t + 2)), .ref (ad (t + 3)), .ref (ad (t + 4)), .ref (ad (t + 5)), .int 0, .int 0, .int 0, .int 0])) := by rw [hu10]; exact gup_self _ _ _
  have hu10_1 : u10 (t + 1) = some (.inl ((X.2 0), 12, .inl (fun _ => 0))) := by rw [hu10, gup_ne (by omega)]; exact hu9_1
  have hu10_2 : u10 (t + 2) = some (.inl ((X.2 0), 12, .inl (fun _ => 0))) := by rw [hu10, gup_ne (by omega)]; exact hu9_2
  have hu10_3 : u10 (t + 3) = some (.inl ((X.2 0), 12, .inl (fun _ => 0))) := by rw [hu10, gup_ne (by omega)]; exact hu9_3
  have hu10_4 : u10 (t + 4) = some (.inl ((X.2 1), 12, .inr (.inl (fun _ => 0)))) := by rw [hu10, gup_ne (by omega)]; exact hu9_4
  have hu10_5 : u10 (t + 5) = some (.inl ((X.2 2), 12, .inl (fun _ => 0))) := by rw [hu10, gup_ne (by omega)]; exact hu9_5
  have hfin11 : u10 = gup (gup (gup (gup (gup (gup u t (.inr (4, [.ref (ad (t + 1)), .ref (ad (t + 2)), .ref (ad (t + 3)), .ref (ad (t + 4)), .ref (ad (t + 5)), .int 0, .int 0, .int 0, .int 0]))) (t + 1) (.inl ((X.2 0), 12, .inl (fun _ => 0)))) (t + 2) (.inl ((X.2 0), 12, .inl (fun _ => 0)))) (t + 3) (.inl ((X.2 0), 12, .inl (fun _ => 0)))) (t + 4) (.inl ((X.2 1), 12, .inr (.inl (fun _ => 0))))) (t + 5) (.inl ((X.2 2), 12, .inl (fun _ => 0))) := by
    funext k
    by_cases hk0 : k = t
    · rw [hk0, hu10_0, gup_ne (by omega), gup_ne (by omega), gup_ne (by omega), gup_ne (by omega), gup_ne (by omega), gup_self]
    by_cases hk1 : k = t + 1
    · rw [hk1, hu10_1, gup_ne (by omega), gup_ne (by omega), gup_ne (by omega), gup_ne (by omega), gup_self]
    by_cases hk2 : k = t + 2
    · rw [hk2, hu10_2, gup_ne (by omega), gup_ne (by omega), gup_ne (by omega), gup_self]
    by_cases hk3 : k = t + 3
    · rw [hk3, hu10_3, gup_ne (by omega), gup_ne (by omega), gup_self]
    by_cases hk4 : k = t + 4
    · rw [hk4, hu10_4, gup_ne (by omega), gup_self]
    by_cases hk5 : k = t + 5
    · rw [hk5, hu10_5, gup_self]
    rw [hu10, gup_ne hk0]
    rw [hu9, gup_ne hk5]
    rw [hu8, gup_ne hk0]
    rw [hu7, gup_ne hk4]
    rw [hu6, gup_ne hk0]
    rw [hu5, gup_ne hk3]
    rw [hu4, gup_ne hk0]
    rw [hu3, gup_ne hk2]
    rw [hu2, gup_ne hk0]
    rw [hu1, gup_ne hk1]
    rw [gup_ne hk5, gup_ne hk4, gup_ne hk3, gup_ne hk2, gup_ne hk1, gup_ne hk0]
  exact g_vret C hR hret ⟨rfl, hfin11, rfl⟩ d_S_init_44

set_option maxHeartbeats 4000000 in
set_option maxRecDepth 100000 in
theorem k_D_init (l : Launch) (X : gX) (ad : Nat → Nat) (u : gW) (sz : Nat) (d : Nat) (hb : u d = some (.inr (2, [.null, .null, .null, .int 0, .int 0, .int 0, .int 0])))  (hf0 : u (d + 1) = none) (ha0 : ad (d + 1) = sz) (hf1 : u (d + 2) = none) (ha1 : ad (d + 2) = sz + 1) : gMet l (EE X) y_D_init c_D_init 1 none ({ frames := 1, cells := 2, slots := 24, locals := 20 }) [.ref (ad d)] ad u sz (fun v u' sz' => v = none ∧ u' = gup (gup (gup u d (.inr (2, [.ref (ad (d + 1)), .ref (ad (d + 2)), .null, .int 0, .int 0, .int 0, .int 0]))) (d + 1) (.inl ((X.2 1), 12, .inr (.inl (fun _ => 0))))) (d + 2) (.inl ((X.2 1), 12, .inr (.inl (fun _ => 0)))) ∧ sz' = sz + 2) := by
  refine gMet_of "ExpenseClubs$Draft" rfl (by decide) (Nat.le_of_ble_eq_true rfl) (lv := [(0, .ref (ad d))]) rfl (fun Z hZl C hR hret hname => ?_)
  refine g_aload_n C d_D_init_0 rfl 0 rfl ?_
  refine g_objInit C (gmem wd_32 rfl) (gmem wd_21 rfl) (gmem wd_22 rfl) d_D_init_1 (Nat.le_of_ble_eq_true rfl) (Nat.le_of_ble_eq_true rfl) ?_
  refine g_aload_n C d_D_init_4 rfl 0 rfl ?_
  refine g_bipush (v := 12) C d_D_init_5 (by decide) ?_
  refine g_newa (atype := .long) (ty := .long) (cA := (X.2 1)) (N := 12) (a0 := (12, .inr (.inl (fun _ => 0)))) (d + 1) 1 C hf0 ha0 (gmem wd_60 rfl) rfl rfl (fun _ => rfl) (by decide) (by decide) (by decide) (Nat.le_of_ble_eq_true rfl) (Nat.le_of_ble_eq_true rfl) d_D_init_7 ?_
  obtain ⟨u1, hu1⟩ : ∃ z, z = gup u (d + 1) (.inl ((X.2 1), 12, .inr (.inl (fun _ => 0)))) := ⟨_, rfl⟩
  rw [← hu1]
  have hu1_0 : u1 d = some (.inr (2, [.null, .null, .null, .int 0, .int 0, .int 0, .int 0])) := by rw [hu1, gup_ne (by omega)]; exact hb
  have hu1_1 : u1 (d + 1) = some (.inl ((X.2 1), 12, .inr (.inl (fun _ => 0)))) := by rw [hu1]; exact gup_self _ _ _
  have hu1_f1 : u1 (d + 2) = none := by rw [hu1, gup_ne (by omega)]; exact hf1
  show GW Z _ _ _ ad u1 (sz + 1) [(0, .ref (ad d))] 1 12 9 [.ref (ad (d + 1)), .ref (ad d)]
  refine g_putF d 0 C hname hu1_0 rfl i_D t_D t_D_ok n_D (by decide) (gmem wd_33 rfl) rfl rfl rfl rfl rfl (Nat.le_of_ble_eq_true rfl) d_D_init_9 ?_
  show GW Z _ _ _ ad (gup u1 d (.inr (2, [.ref (ad (d + 1)), .null, .null, .int 0, .int 0, .int 0, .int 0]))) _ _ _ _ _ _
  obtain ⟨u2, hu2⟩ : ∃ z, z = gup u1 d (.inr (2, [.ref (ad (d + 1)), .null, .null, .int 0, .int 0, .int 0, .int 0])) := ⟨_, rfl⟩
  rw [← hu2]
  have hu2_0 : u2 d = some (.inr (2, [.ref (ad (d + 1)), .null, .null, .int 0, .int 0, .int 0, .int 0])) := by rw [hu2]; exact gup_self _ _ _
  have hu2_1 : u2 (d + 1) = some (.inl ((X.2 1), 12, .inr (.inl (fun _ => 0)))) := by rw [hu2, gup_ne (by omega)]; exact hu1_1
  have hu2_f0 : u2 (d + 2) = none := by rw [hu2, gup_ne (by omega)]; exact hu1_f1
  refine g_aload_n C d_D_init_12 rfl 0 rfl ?_
  refine g_bipush (v := 12) C d_D_init_13 (by decide) ?_
  refine g_newa (atype := .long) (ty := .long) (cA := (X.2 1)) (N := 12) (a0 := (12, .inr (.inl (fun _ => 0)))) (d + 2) 1 C hu2_f0 ha1 (gmem wd_60 rfl) rfl rfl (fun _ => rfl) (by decide) (by decide) (by decide) (Nat.le_of_ble_eq_true rfl) (Nat.le_of_ble_eq_true rfl) d_D_init_15 ?_
  obtain ⟨u3, hu3⟩ : ∃ z, z = gup u2 (d + 2) (.inl ((X.2 1), 12, .inr (.inl (fun _ => 0)))) := ⟨_, rfl⟩
  rw [← hu3]
  have hu3_0 : u3 d = some (.inr (2, [.ref (ad (d + 1)), .null, .null, .int 0, .int 0, .int 0, .int 0])) := by rw [hu3, gup_ne (by omega)]; exact hu2_0
  have hu3_1 : u3 (d + 1) = some (.inl ((X.2 1), 12, .inr (.inl (fun _ => 0)))) := by rw [hu3, gup_ne (by omega)]; exact hu2_1
  have hu3_2 : u3 (d + 2) = some (.inl ((X.2 1), 12, .inr (.inl (fun _ => 0)))) := by rw [hu3]; exact gup_self _ _ _
  show GW Z _ _ _ ad u3 (sz + 2) [(0, .ref (ad d))] 2 24 17 [.ref (ad (d + 2)), .ref (ad d)]
  refine g_putF d 1 C hname hu3_0 rfl i_D t_D t_D_ok n_D (by decide) (gmem wd_35 rfl) rfl rfl rfl rfl rfl (Nat.le_of_ble_eq_true rfl) d_D_init_17 ?_
  show GW Z _ _ _ ad (gup u3 d (.inr (2, [.ref (ad (d + 1)), .ref (ad (d + 2)), .null, .int 0, .int 0, .int 0, .int 0]))) _ _ _ _ _ _
  obtain ⟨u4, hu4⟩ : ∃ z, z = gup u3 d (.inr (2, [.ref (ad (d + 1)), .ref (ad (d + 2)), .null, .int 0, .int 0, .int 0, .int 0])) := ⟨_, rfl⟩
  rw [← hu4]
  have hu4_0 : u4 d = some (.inr (2, [.ref (ad (d + 1)), .ref (ad (d + 2)), .null, .int 0, .int 0, .int 0, .int 0])) := by rw [hu4]; exact gup_self _ _ _
  have hu4_1 : u4 (d + 1) = some (.inl ((X.2 1), 12, .inr (.inl (fun _ => 0)))) := by rw [hu4, gup_ne (by omega)]; exact hu3_1
  have hu4_2 : u4 (d + 2) = some (.inl ((X.2 1), 12, .inr (.inl (fun _ => 0)))) := by rw [hu4, gup_ne (by omega)]; exact hu3_2
  have hfin5 : u4 = gup (gup (gup u d (.inr (2, [.ref (ad (d + 1)), .ref (ad (d + 2)), .null, .int 0, .int 0, .int 0, .int 0]))) (d + 1) (.inl ((X.2 1), 12, .inr (.inl (fun _ => 0))))) (d + 2) (.inl ((X.2 1), 12, .inr (.inl (fun _ => 0)))) := by
    funext k
    by_cases hk0 : k = d
    · rw [hk0, hu4_0, gup_ne (by omega), gup_ne (by omega), gup_self]
    by_cases hk1 : k = d + 1
    · rw [hk1, hu4_1, gup_ne (by omega), gup_self]
    by_cases hk2 : k = d + 2
    · rw [hk2, hu4_2, gup_self]
    rw [hu4, gup_ne hk0]
    rw [hu3, gup_ne hk2]
    rw [hu2, gup_ne hk0]
    rw [hu1, gup_ne hk1]
    rw [gup_ne hk2, gup_ne hk1, gup_ne hk0]
  exact g_vret C hR hret ⟨rfl, hfin5, rfl⟩ d_D_init_20

set_option maxHeartbeats 4000000 in
set_option maxRecDepth 100000 in
theorem k_G_init (l : Launch) (X : gX) (ad : Nat → Nat) (u : gW) (sz : Nat) (g : Nat) (hb : u g = some (.inr (3, [.null, .null, .null, .int 0])))  (hf0 : u (g + 1) = none) (ha0 : ad (g + 1) = sz) (hf1 : u (g + 2) = none) (ha1 : ad (g + 2) = sz + 1) (hf2 : u (g + 3) = none) (ha2 : ad (g + 3) = sz + 2) : gMet l (EE X) y_G_init c_G_init 1 none ({ frames := 1, cells := 3, slots := 4120, locals := 20 }) [.ref (ad g)] ad u sz (fun v u' sz' => v = none ∧ u' = gup (gup (gup (gup u g (.inr (3, [.ref (ad (g + 1)), .ref (ad (g + 2)), .ref (ad (g + 3)), .int 0]))) (g + 1) (.inl ((X.2 0), 12, .inl (fun _ => 0)))) (g + 2) (.inl ((X.2 1), 12, .inr (.inl (fun _ => 0))))) (g + 3) (.inl ((X.2 0), 4096, .inl (fun _ => 0))) ∧ sz' = sz + 3) := by
  refine gMet_of "ExpenseClubs$Grouping" rfl (by decide) (Nat.le_of_ble_eq_true rfl) (lv := [(0, .ref (ad g))]) rfl (fun Z hZl C hR hret hname => ?_)
  refine g_aload_n C d_G_init_0 rfl 0 rfl ?_
  refine g_objInit C (gmem wd_66 rfl) (gmem wd_21 rfl) (gmem wd_22 rfl) d_G_init_1 (Nat.le_of_ble_eq_true rfl) (Nat.le_of_ble_eq_true rfl) ?_
  refine g_aload_n C d_G_init_4 rfl 0 rfl ?_
  refine g_bipush (v := 12) C d_G_init_5 (by decide) ?_
  refine g_newa (atype := .int) (ty := .int) (cA := (X.2 0)) (N := 12) (a0 := (12, .inl (fun _ => 0))) (g + 1) 0 C hf0 ha0 (gmem wd_80 rfl) rfl rfl (fun _ => rfl) (by decide) (by decide) (by decide) (Nat.le_of_ble_eq_true rfl) (Nat.le_of_ble_eq_true rfl) d_G_init_7 ?_
  obtain ⟨u1, hu1⟩ : ∃ z, z = gup u (g + 1) (.inl ((X.2 0), 12, .inl (fun _ => 0))) := ⟨_, rfl⟩
  rw [← hu1]
  have hu1_0 : u1 g = some (.inr (3, [.null, .null, .null, .int 0])) := by rw [hu1, gup_ne (by omega)]; exact hb
  have hu1_1 : u1 (g + 1) = some (.inl ((X.2 0), 12, .inl (fun _ => 0))) := by rw [hu1]; exact gup_self _ _ _
  have hu1_f1 : u1 (g + 2) = none := by rw [hu1, gup_ne (by omega)]; exact hf1
  have hu1_f2 : u1 (g + 3) = none := by rw [hu1, gup_ne (by omega)]; exact hf2
  show GW Z _ _ _ ad u1 (sz + 1) [(0, .ref (ad g))] 1 12 9 [.ref (ad (g + 1)), .ref (ad g)]
  refine g_putF g 0 C hname hu1_0 rfl i_G t_G t_G_ok n_G (by decide) (gmem wd_67 rfl) rfl rfl rfl rfl rfl (Nat.le_of_ble_eq_true rfl) d_G_init_9 ?_
  show GW Z _ _ _ ad (gup u1 g (.inr (3, [.ref (ad (g + 1)), .null, .null, .int 0]))) _ _ _ _ _ _
  obtain ⟨u2, hu2⟩ : ∃ z, z = gup u1 g (.inr (3, [.ref (ad (g + 1)), .null, .null, .int 0])) := ⟨_, rfl⟩
  rw [← hu2]
  have hu2_0 : u2 g = some (.inr (3, [.ref (ad (g + 1)), .null, .null, .int 0])) := by rw [hu2]; exact gup_self _ _ _
  have hu2_1 : u2 (g + 1) = some (.inl ((X.2 0), 12, .inl (fun _ => 0))) := by rw [hu2, gup_ne (by omega)]; exact hu1_1
  have hu2_f0 : u2 (g + 2) = none := by rw [hu2, gup_ne (by omega)]; exact hu1_f1
  have hu2_f1 : u2 (g + 3) = none := by rw [hu2, gup_ne (by omega)]; exact hu1_f2
  refine g_aload_n C d_G_init_12 rfl 0 rfl ?_
  refine g_bipush (v := 12) C d_G_init_13 (by decide) ?_
  refine g_newa (atype := .long) (ty := .long) (cA := (X.2 1)) (N := 12) (a0 := (12, .inr (.inl (fun _ => 0)))) (g + 2) 1 C hu2_f0 ha1 (gmem wd_60 rfl) rfl rfl (fun _ => rfl) (by decide) (by decide) (by decide) (Nat.le_of_ble_eq_true rfl) (Nat.le_of_ble_eq_true rfl) d_G_init_15 ?_
  obtain ⟨u3, hu3⟩ : ∃ z, z = gup u2 (g + 2) (.inl ((X.2 1), 12, .inr (.inl (fun _ => 0)))) := ⟨_, rfl⟩
  rw [← hu3]
  have hu3_0 : u3 g = some (.inr (3, [.ref (ad (g + 1)), .null, .null, .int 0])) := by rw [hu3, gup_ne (by omega)]; exact hu2_0
  have hu3_1 : u3 (g + 1) = some (.inl ((X.2 0), 12, .inl (fun _ => 0))) := by rw [hu3, gup_ne (by omega)]; exact hu2_1
  have hu3_2 : u3 (g + 2) = some (.inl ((X.2 1), 12, .inr (.inl (fun _ => 0)))) := by rw [hu3]; exact gup_self _ _ _
  have hu3_f1 : u3 (g + 3) = none := by rw [hu3, gup_ne (by omega)]; exact hu2_f1
  show GW Z _ _ _ ad u3 (sz + 2) [(0, .ref (ad g))] 2 24 17 [.ref (ad (g + 2)), .ref (ad g)]
  refine g_putF g 1 C hname hu3_0 rfl i_G t_G t_G_ok n_G (by decide) (gmem wd_68 rfl) rfl rfl rfl rfl rfl (Nat.le_of_ble_eq_true rfl) d_G_init_17 ?_
  show GW Z _ _ _ ad (gup u3 g (.inr (3, [.ref (ad (g + 1)), .ref (ad (g + 2)), .null, .int 0]))) _ _ _ _ _ _
  obtain ⟨u4, hu4⟩ : ∃ z, z = gup u3 g (.inr (3, [.ref (ad (g + 1)), .ref (ad (g + 2)), .null, .int 0])) := ⟨_, rfl⟩
  rw [← hu4]
  have hu4_0 : u4 g = some (.inr (3, [.ref (ad (g + 1)), .ref (ad (g + 2)), .null, .int 0])) := by rw [hu4]; exact gup_self _ _ _
  have hu4_1 : u4 (g + 1) = some (.inl ((X.2 0), 12, .inl (fun _ => 0))) := by rw [hu4, gup_ne (by omega)]; exact hu3_1
  have hu4_2 : u4 (g + 2) = some (.inl ((X.2 1), 12, .inr (.inl (fun _ => 0)))) := by rw [hu4, gup_ne (by omega)]; exact hu3_2
  have hu4_f0 : u4 (g + 3) = none := by rw [hu4, gup_ne (by omega)]; exact hu3_f1
  refine g_aload_n C d_G_init_20 rfl 0 rfl ?_
  refine g_sipush (v := 4096) C d_G_init_21 (by decide) ?_
  refine g_newa (atype := .int) (ty := .int) (cA := (X.2 0)) (N := 4096) (a0 := (4096, .inl (fun _ => 0))) (g + 3) 0 C hu4_f0 ha2 (gmem wd_80 rfl) rfl rfl (fun _ => rfl) (by decide) (by decide) (by decide) (Nat.le_of_ble_eq_true rfl) (Nat.le_of_ble_eq_true rfl) d_G_init_24 ?_
  obtain ⟨u5, hu5⟩ : ∃ z, z = gup u4 (g + 3) (.inl ((X.2 0), 4096, .inl (fun _ => 0))) := ⟨_, rfl⟩
  rw [← hu5]
  have hu5_0 : u5 g = some (.inr (3, [.ref (ad (g + 1)), .ref (ad (g + 2)), .null, .int 0])) := by rw [hu5, gup_ne (by omega)]; exact hu4_0
  have hu5_1 : u5 (g + 1) = some (.inl ((X.2 0), 12, .inl (fun _ => 0))) := by rw [hu5, gup_ne (by omega)]; exact hu4_1
  have hu5_2 : u5 (g + 2) = some (.inl ((X.2 1), 12, .inr (.inl (fun _ => 0)))) := by rw [hu5, gup_ne (by omega)]; exact hu4_2
  have hu5_3 : u5 (g + 3) = some (.inl ((X.2 0), 4096, .inl (fun _ => 0))) := by rw [hu5]; exact gup_self _ _ _
  show GW Z _ _ _ ad u5 (sz + 3) [(0, .ref (ad g))] 3 4120 26 [.ref (ad (g + 3)), .ref (ad g)]
  refine g_putF g 2 C hname hu5_0 rfl i_G t_G t_G_ok n_G (by decide) (gmem wd_69 rfl) rfl rfl rfl rfl rfl (Nat.le_of_ble_eq_true rfl) d_G_init_26 ?_
  show GW Z _ _ _ ad (gup u5 g (.inr (3, [.ref (ad (g + 1)), .ref (ad (g + 2)), .ref (ad (g + 3)), .int 0]))) _ _ _ _ _ _
  obtain ⟨u6, hu6⟩ : ∃ z, z = gup u5 g (.inr (3, [.ref (ad (g + 1)), .ref (ad (g + 2)), .ref (ad (g + 3)), .int 0])) := ⟨_, rfl⟩
  rw [← hu6]
  have hu6_0 : u6 g = some (.inr (3, [.ref (ad (g + 1)), .ref (ad (g + 2)), .ref (ad (g + 3)), .int 0])) := by rw [hu6]; exact gup_self _ _ _
  have hu6_1 : u6 (g + 1) = some (.inl ((X.2 0), 12, .inl (fun _ => 0))) := by rw [hu6, gup_ne (by omega)]; exact hu5_1
  have hu6_2 : u6 (g + 2) = some (.inl ((X.2 1), 12, .inr (.inl (fun _ => 0)))) := by rw [hu6, gup_ne (by omega)]; exact hu5_2
  have hu6_3 : u6 (g + 3) = some (.inl ((X.2 0), 4096, .inl (fun _ => 0))) := by rw [hu6, gup_ne (by omega)]; exact hu5_3
  have hfin7 : u6 = gup (gup (gup (gup u g (.inr (3, [.ref (ad (g + 1)), .ref (ad (g + 2)), .ref (ad (g + 3)), .int 0]))) (g + 1) (.inl ((X.2 0), 12, .inl (fun _ => 0)))) (g + 2) (.inl ((X.2 1), 12, .inr (.inl (fun _ => 0))))) (g + 3) (.inl ((X.2 0), 4096, .inl (fun _ => 0))) := by
    funext k
    by_cases hk0 : k = g
    · rw [hk0, hu6_0, gup_ne (by omega), gup_ne (by omega), gup_ne (by omega), gup_self]
    by_cases hk1 : k = g + 1
    · rw [hk1, hu6_1, gup_ne (by omega), gup_ne (by omega), gup_self]
    by_cases hk2 : k = g + 2
    · rw [hk2, hu6_2, gup_ne (by omega), gup_self]
    by_cases hk3 : k = g + 3
    · rw [hk3, hu6_3, gup_self]
    rw [hu6, gup_ne hk0]
    rw [hu5, gup_ne hk3]
    rw [hu4, gup_ne hk0]
    rw [hu3, gup_ne hk2]
    rw [hu2, gup_ne hk0]
    rw [hu1, gup_ne hk1]
    rw [gup_ne hk3, gup_ne hk2, gup_ne hk1, gup_ne hk0]
  exact g_vret C hR hret ⟨rfl, hfin7, rfl⟩ d_G_init_29

set_option maxHeartbeats 4000000 in
set_option maxRecDepth 100000 in
theorem k_B_init (l : Launch) (X : gX) (ad : Nat → Nat) (u : gW) (sz : Nat) (d b : Nat) (c : Int64) (hb : u d = some (.inr (0, [.null, .long 0, .null, .null, .null, .int 0])))  (hf0 : u (d + 1) = none) (ha0 : ad (d + 1) = sz) (hf1 : u (d + 2) = none) (ha1 : ad (d + 2) = sz + 1) (hf2 : u (d + 3) = none) (ha2 : ad (d + 3) = sz + 2) : gMet l (EE X) y_B_init c_B_init 4 none ({ frames := 1, cells := 3, slots := 36, locals := 20 }) [.ref (ad d), .ref (ad b), .long c] ad u sz (fun v u' sz' => v = none ∧ u' = gup (gup (gup (gup u d (.inr (0, [.ref (ad b), .long c, .ref (ad (d + 1)), .ref (ad (d + 2)), .ref (ad (d + 3)), .int 0]))) (d + 1) (.inl ((X.2 1), 12, .inr (.inl (fun _ => 0))))) (d + 2) (.inl ((X.2 1), 12, .inr (.inl (fun _ => 0))))) (d + 3) (.inl ((X.2 1), 12, .inr (.inl (fun _ => 0)))) ∧ sz' = sz + 3) := by
  refine gMet_of "ExpenseClubs$Bill" rfl (by decide) (Nat.le_of_ble_eq_true rfl) (lv := [(0, .ref (ad d)), (1, .ref (ad b)), (2, .long c)]) rfl (fun Z hZl C hR hret hname => ?_)
  refine g_aload_n C d_B_init_0 rfl 0 rfl ?_
  refine g_objInit C (gmem wd_281 rfl) (gmem wd_21 rfl) (gmem wd_22 rfl) d_B_init_1 (Nat.le_of_ble_eq_true rfl) (Nat.le_of_ble_eq_true rfl) ?_
  refine g_aload_n C d_B_init_4 rfl 0 rfl ?_
  refine g_bipush (v := 12) C d_B_init_5 (by decide) ?_
  refine g_newa (atype := .long) (ty := .long) (cA := (X.2 1)) (N := 12) (a0 := (12, .inr (.inl (fun _ => 0)))) (d + 1) 1 C hf0 ha0 (gmem wd_60 rfl) rfl rfl (fun _ => rfl) (by decide) (by decide) (by decide) (Nat.le_of_ble_eq_true rfl) (Nat.le_of_ble_eq_true rfl) d_B_init_7 ?_
  obtain ⟨u1, hu1⟩ : ∃ z, z = gup u (d + 1) (.inl ((X.2 1), 12, .inr (.inl (fun _ => 0)))) := ⟨_, rfl⟩
  rw [← hu1]
  have hu1_0 : u1 d = some (.inr (0, [.null, .long 0, .null, .null, .null, .int 0])) := by rw [hu1, gup_ne (by omega)]; exact hb
  have hu1_1 : u1 (d + 1) = some (.inl ((X.2 1), 12, .inr (.inl (fun _ => 0)))) := by rw [hu1]; exact gup_self _ _ _
  have hu1_f1 : u1 (d + 2) = none := by rw [hu1, gup_ne (by omega)]; exact hf1
  have hu1_f2 : u1 (d + 3) = none := by rw [hu1, gup_ne (by omega)]; exact hf2
  show GW Z _ _ _ ad u1 (sz + 1) [(0, .ref (ad d)), (1, .ref (ad b)), (2, .long c)] 1 12 9 [.ref (ad (d + 1)), .ref (ad d)]
  refine g_putF d 2 C hname hu1_0 rfl i_B t_B t_B_ok n_B (by decide) (gmem wd_287 rfl) rfl rfl rfl rfl rfl (Nat.le_of_ble_eq_true rfl) d_B_init_9 ?_
  show GW Z _ _ _ ad (gup u1 d (.inr (0, [.null, .long 0, .ref (ad (d + 1)), .null, .null, .int 0]))) _ _ _ _ _ _
  obtain ⟨u2, hu2⟩ : ∃ z, z = gup u1 d (.inr (0, [.null, .long 0, .ref (ad (d + 1)), .null, .null, .int 0])) := ⟨_, rfl⟩
  rw [← hu2]
  have hu2_0 : u2 d = some (.inr (0, [.null, .long 0, .ref (ad (d + 1)), .null, .null, .int 0])) := by rw [hu2]; exact gup_self _ _ _
  have hu2_1 : u2 (d + 1) = some (.inl ((X.2 1), 12, .inr (.inl (fun _ => 0)))) := by rw [hu2, gup_ne (by omega)]; exact hu1_1
  have hu2_f0 : u2 (d + 2) = none := by rw [hu2, gup_ne (by omega)]; exact hu1_f1
  have hu2_f1 : u2 (d + 3) = none := by rw [hu2, gup_ne (by omega)]; exact hu1_f2
  refine g_aload_n C d_B_init_12 rfl 0 rfl ?_
  refine g_bipush (v := 12) C d_B_init_13 (by decide) ?_
  refine g_newa (atype := .long) (ty := .long) (cA := (X.2 1)) (N := 12) (a0 := (12, .inr (.inl (fun _ => 0)))) (d + 2) 1 C hu2_f0 ha1 (gmem wd_60 rfl) rfl rfl (fun _ => rfl) (by decide) (by decide) (by decide) (Nat.le_of_ble_eq_true rfl) (Nat.le_of_ble_eq_true rfl) d_B_init_15 ?_
  obtain ⟨u3, hu3⟩ : ∃ z, z = gup u2 (d + 2) (.inl ((X.2 1), 12, .inr (.inl (fun _ => 0)))) := ⟨_, rfl⟩
  rw [← hu3]
  have hu3_0 : u3 d = some (.inr (0, [.null, .long 0, .ref (ad (d + 1)), .null, .null, .int 0])) := by rw [hu3, gup_ne (by omega)]; exact hu2_0
  have hu3_1 : u3 (d + 1) = some (.inl ((X.2 1), 12, .inr (.inl (fun _ => 0)))) := by rw [hu3, gup_ne (by omega)]; exact hu2_1
  have hu3_2 : u3 (d + 2) = some (.inl ((X.2 1), 12, .inr (.inl (fun _ => 0)))) := by rw [hu3]; exact gup_self _ _ _
  have hu3_f1 : u3 (d + 3) = none := by rw [hu3, gup_ne (by omega)]; exact hu2_f1
  show GW Z _ _ _ ad u3 (sz + 2) [(0, .ref (ad d)), (1, .ref (ad b)), (2, .long c)] 2 24 17 [.ref (ad (d + 2)), .ref (ad d)]
  refine g_putF d 3 C hname hu3_0 rfl i_B t_B t_B_ok n_B (by decide) (gmem wd_291 rfl) rfl rfl rfl rfl rfl (Nat.le_of_ble_eq_true rfl) d_B_init_17 ?_
  show GW Z _ _ _ ad (gup u3 d (.inr (0, [.null, .long 0, .ref (ad (d + 1)), .ref (ad (d + 2)), .null, .int 0]))) _ _ _ _ _ _
  obtain ⟨u4, hu4⟩ : ∃ z, z = gup u3 d (.inr (0, [.null, .long 0, .ref (ad (d + 1)), .ref (ad (d + 2)), .null, .int 0])) := ⟨_, rfl⟩
  rw [← hu4]
  have hu4_0 : u4 d = some (.inr (0, [.null, .long 0, .ref (ad (d + 1)), .ref (ad (d + 2)), .null, .int 0])) := by rw [hu4]; exact gup_self _ _ _
  have hu4_1 : u4 (d + 1) = some (.inl ((X.2 1), 12, .inr (.inl (fun _ => 0)))) := by rw [hu4, gup_ne (by omega)]; exact hu3_1
  have hu4_2 : u4 (d + 2) = some (.inl ((X.2 1), 12, .inr (.inl (fun _ => 0)))) := by rw [hu4, gup_ne (by omega)]; exact hu3_2
  have hu4_f0 : u4 (d + 3) = none := by rw [hu4, gup_ne (by omega)]; exact hu3_f1
  refine g_aload_n C d_B_init_20 rfl 0 rfl ?_
  refine g_bipush (v := 12) C d_B_init_21 (by decide) ?_
  refine g_newa (atype := .long) (ty := .long) (cA := (X.2 1)) (N := 12) (a0 := (12, .inr (.inl (fun _ => 0)))) (d + 3) 1 C hu4_f0 ha2 (gmem wd_60 rfl) rfl rfl (fun _ => rfl) (by decide) (by decide) (by decide) (Nat.le_of_ble_eq_true rfl) (Nat.le_of_ble_eq_true rfl) d_B_init_23 ?_
  obtain ⟨u5, hu5⟩ : ∃ z, z = gup u4 (d + 3) (.inl ((X.2 1), 12, .inr (.inl (fun _ => 0)))) := ⟨_, rfl⟩
  rw [← hu5]
  have hu5_0 : u5 d = some (.inr (0, [.null, .long 0, .ref (ad (d + 1)), .ref (ad (d + 2)), .null, .int 0])) := by rw [hu5, gup_ne (by omega)]; exact hu4_0
  have hu5_1 : u5 (d + 1) = some (.inl ((X.2 1), 12, .inr (.inl (fun _ => 0)))) := by rw [hu5, gup_ne (by omega)]; exact hu4_1
  have hu5_2 : u5 (d + 2) = some (.inl ((X.2 1), 12, .inr (.inl (fun _ => 0)))) := by rw [hu5, gup_ne (by omega)]; exact hu4_2
  have hu5_3 : u5 (d + 3) = some (.inl ((X.2 1), 12, .inr (.inl (fun _ => 0)))) := by rw [hu5]; exact gup_self _ _ _
  show GW Z _ _ _ ad u5 (sz + 3) [(0, .ref (ad d)), (1, .ref (ad b)), (2, .long c)] 3 36 25 [.ref (ad (d + 3)), .ref (ad d)]
  refine g_putF d 4 C hname hu5_0 rfl i_B t_B t_B_ok n_B (by decide) (gmem wd_295 rfl) rfl rfl rfl rfl rfl (Nat.le_of_ble_eq_true rfl) d_B_init_25 ?_
  show GW Z _ _ _ ad (gup u5 d (.inr (0, [.null, .long 0, .ref (ad (d + 1)), .ref (ad (d + 2)), .ref (ad (d + 3)), .int 0]))) _ _ _ _ _ _
  obtain ⟨u6, hu6⟩ : ∃ z, z = gup u5 d (.inr (0, [.null, .long 0, .ref (ad (d + 1)), .ref (ad (d + 2)), .ref (ad (d + 3)), .int 0])) := ⟨_, rfl⟩
  rw [← hu6]
  have hu6_0 : u6 d = some (.inr (0, [.null, .long 0, .ref (ad (d + 1)), .ref (ad (d + 2)), .ref (ad (d + 3)), .int 0])) := by rw [hu6]; exact gup_self _ _ _
  have hu6_1 : u6 (d + 1) = some (.inl ((X.2 1), 12, .inr (.inl (fun _ => 0)))) := by rw [hu6, gup_ne (by omega)]; exact hu5_1
  have hu6_2 : u6 (d + 2) = some (.inl ((X.2 1), 12, .inr (.inl (fun _ => 0)))) := by rw [hu6, gup_ne (by omega)]; exact hu5_2
  have hu6_3 : u6 (d + 3) = some (.inl ((X.2 1), 12, .inr (.inl (fun _ => 0)))) := by rw [hu6, gup_ne (by omega)]; exact hu5_3
  refine g_aload_n C d_B_init_28 rfl 0 rfl ?_
  refine g_aload_n C d_B_init_29 rfl 1 rfl ?_
  refine g_putF d 0 C hname hu6_0 rfl i_B t_B t_B_ok n_B (by decide) (gmem wd_282 rfl) rfl rfl rfl rfl rfl (Nat.le_of_ble_eq_true rfl) d_B_init_30 ?_
  show GW Z _ _ _ ad (gup u6 d (.inr (0, [.ref (ad b), .long 0, .ref (ad (d + 1)), .ref (ad (d + 2)), .ref (ad (d + 3)), .int 0]))) _ _ _ _ _ _
  obtain ⟨u7, hu7⟩ : ∃ z, z = gup u6 d (.inr (0, [.ref (ad b), .long 0, .ref (ad (d + 1)), .ref (ad (d + 2)), .ref (ad (d + 3)), .int 0])) := ⟨_, rfl⟩
  rw [← hu7]
  have hu7_0 : u7 d = some (.inr (0, [.ref (ad b), .long 0, .ref (ad (d + 1)), .ref (ad (d + 2)), .ref (ad (d + 3)), .int 0])) := by rw [hu7]; exact gup_self _ _ _
  have hu7_1 : u7 (d + 1) = some (.inl ((X.2 1), 12, .inr (.inl (fun _ => 0)))) := by rw [hu7, gup_ne (by omega)]; exact hu6_1
  have hu7_2 : u7 (d + 2) = some (.inl ((X.2 1), 12, .inr (.inl (fun _ => 0)))) := by rw [hu7, gup_ne (by omega)]; exact hu6_2
  have hu7_3 : u7 (d + 3) = some (.inl ((X.2 1), 12, .inr (.inl (fun _ => 0)))) := by rw [hu7, gup_ne (by omega)]; exact hu6_3
  refine g_aload_n C d_B_init_33 rfl 0 rfl ?_
  refine g_lload_n C d_B_init_34 rfl 2 rfl ?_
  refine g_putF d 1 C hname hu7_0 rfl i_B t_B t_B_ok n_B (by decide) (gmem wd_284 rfl) rfl rfl rfl rfl rfl (Nat.le_of_ble_eq_true rfl) d_B_init_35 ?_
  show GW Z _ _ _ ad (gup u7 d (.inr (0, [.ref (ad b), .long c, .ref (ad (d + 1)), .ref (ad (d + 2)), .ref (ad (d + 3)), .int 0]))) _ _ _ _ _ _
  obtain ⟨u8, hu8⟩ : ∃ z, z = gup u7 d (.inr (0, [.ref (ad b), .long c, .ref (ad (d + 1)), .ref (ad (d + 2)), .ref (ad (d + 3)), .int 0])) := ⟨_, rfl⟩
  rw [← hu8]
  have hu8_0 : u8 d = some (.inr (0, [.ref (ad b), .long c, .ref (ad (d + 1)), .ref (ad (d + 2)), .ref (ad (d + 3)), .int 0])) := by rw [hu8]; exact gup_self _ _ _
  have hu8_1 : u8 (d + 1) = some (.inl ((X.2 1), 12, .inr (.inl (fun _ => 0)))) := by rw [hu8, gup_ne (by omega)]; exact hu7_1
  have hu8_2 : u8 (d + 2) = some (.inl ((X.2 1), 12, .inr (.inl (fun _ => 0)))) := by rw [hu8, gup_ne (by omega)]; exact hu7_2
  have hu8_3 : u8 (d + 3) = some (.inl ((X.2 1), 12, .inr (.inl (fun _ => 0)))) := by rw [hu8, gup_ne (by omega)]; exact hu7_3
  have hfin9 : u8 = gup (gup (gup (gup u d (.inr (0, [.ref (ad b), .long c, .ref (ad (d + 1)), .ref (ad (d + 2)), .ref (ad (d + 3)), .int 0]))) (d + 1) (.inl ((X.2 1), 12, .inr (.inl (fun _ => 0))))) (d + 2) (.inl ((X.2 1), 12, .inr (.inl (fun _ => 0))))) (d + 3) (.inl ((X.2 1), 12, .inr (.inl (fun _ => 0)))) := by
    funext k
    by_cases hk0 : k = d
    · rw [hk0, hu8_0, gup_ne (by omega), gup_ne (by omega), gup_ne (by omega), gup_self]
    by_cases hk1 : k = d + 1
    · rw [hk1, hu8_1, gup_ne (by omega), gup_ne (by omega), gup_self]
    by_cases hk2 : k = d + 2
    · rw [hk2, hu8_2, gup_ne (by omega), gup_self]
    by_cases hk3 : k = d + 3
    · rw [hk3, hu8_3, gup_self]
    rw [hu8, gup_ne hk0]
    rw [hu7, gup_ne hk0]
    rw [hu6, gup_ne hk0]
    rw [hu5, gup_ne hk3]
    rw [hu4, gup_ne hk0]
    rw [hu3, gup_ne hk2]
    rw [hu2, gup_ne hk0]
    rw [hu1, gup_ne hk1]
    rw [gup_ne hk3, gup_ne hk2, gup_ne hk1, gup_ne hk0]
  exact g_vret C hR hret ⟨rfl, hfin9, rfl⟩ d_B_init_38

set_option maxHeartbeats 4000000 in
set_option maxRecDepth 100000 in
theorem k_C_init (l : Launch) (X : gX) (ad : Nat → Nat) (u : gW) (sz : Nat) (b : Nat) (hb : u b = some (.inr (1, [.null, .null, .null, .int 0, .int 0, .int 0])))  (hf0 : u (b + 1) = none) (ha0 : ad (b + 1) = sz) (hf1 : u (b + 2) = none) (ha1 : ad (b + 2) = sz + 1) (hf2 : u (b + 3) = none) (ha2 : ad (b + 3) = sz + 2) (hf3 : u (b + 3 + 1) = none) (ha3 : ad (b + 3 + 1) = sz + 3) (hf4 : u (b + 3 + 2) = none) (ha4 : ad (b + 3 + 2) = sz + 4) (hf5 : u (b + 3 + 3) = none) (ha5 : ad (b + 3 + 3) = sz + 5) (hf6 : u (b + 3 + 4) = none) (ha6 : ad (b + 3 + 4) = sz + 6) (hf7 : u (b + 3 + 5) = none) (ha7 : ad (b + 3 + 5) = sz + 7) : gMet l (EE X) y_C_init c_C_init 1 none ({ frames := 2, cells := 8, slots := 93, locals := 40 }) [.ref (ad b)] ad u sz (fun v u' sz' => v = none ∧ u' = gup (gup (gup (gup (gup (gup (gup (gup (gup u b (.inr (1, [.ref (ad (b + 1)), .ref (ad (b + 2)), .ref (ad (b + 3)), .int 0, .int 0, .int 0]))) (b + 1) (.inl ((X.2 1), 12, .inr (.inl (fun _ => 0))))) (b + 2) (.inl ((X.2 1), 12, .inr (.inl (fun _ => 0))))) (b + 3) (.inr (4, [.ref (ad (b + 3 + 1)), .ref (ad (b + 3 + 2)), .ref (ad (b + 3 + 3)), .ref (ad (b + 3 + 4)), .ref (ad (b + 3 + 5)), .int 0, .int 0, .int 0, .int 0]))) (b + 3 + 1) (.inl ((X.2 0), 12, .inl (fun _ => 0)))) (b + 3 + 2) (.inl ((X.2 0), 12, .inl (fun _ => 0)))) (b + 3 + 3) (.inl ((X.2 0), 12, .inl (fun _ => 0)))) (b + 3 + 4) (.inl ((X.2 1), 12, .inr (.inl (fun _ => 0))))) (b + 3 + 5) (.inl ((X.2 2), 12, .inl (fun _ => 0))) ∧ sz' = sz + 8) := by
  refine gMet_of "ExpenseClubs$Club" rfl (by decide) (Nat.le_of_ble_eq_true rfl) (lv := [(0, .ref (ad b))]) rfl (fun Z hZl C hR hret hname => ?_)
  refine g_aload_n C d_C_init_0 rfl 0 rfl ?_
  refine g_objInit C (gmem wd_108 rfl) (gmem wd_21 rfl) (gmem wd_22 rfl) d_C_init_1 (Nat.le_of_ble_eq_true rfl) (Nat.le_of_ble_eq_true rfl) ?_
  refine g_aload_n C d_C_init_4 rfl 0 rfl ?_
  refine g_bipush (v := 12) C d_C_init_5 (by decide) ?_
  refine g_newa (atype := .long) (ty := .long) (cA := (X.2 1)) (N := 12) (a0 := (12, .inr (.inl (fun _ => 0)))) (b + 1) 1 C hf0 ha0 (gmem wd_60 rfl) rfl rfl (fun _ => rfl) (by decide) (by decide) (by decide) (Nat.le_of_ble_eq_true rfl) (Nat.le_of_ble_eq_true rfl) d_C_init_7 ?_
  obtain ⟨u1, hu1⟩ : ∃ z, z = gup u (b + 1) (.inl ((X.2 1), 12, .inr (.inl (fun _ => 0)))) := ⟨_, rfl⟩
  rw [← hu1]
  have hu1_0 : u1 b = some (.inr (1, [.null, .null, .null, .int 0, .int 0, .int 0])) := by rw [hu1, gup_ne (by omega)]; exact hb
  have hu1_1 : u1 (b + 1) = some (.inl ((X.2 1), 12, .inr (.inl (fun _ => 0)))) := by rw [hu1]; exact gup_self _ _ _
  have hu1_f1 : u1 (b + 2) = none := by rw [hu1, gup_ne (by omega)]; exact hf1
  have hu1_f2 : u1 (b + 3) = none := by rw [hu1, gup_ne (by omega)]; exact hf2
  have hu1_f3 : u1 (b + 3 + 1) = none := by rw [hu1, gup_ne (by omega)]; exact hf3
  have hu1_f4 : u1 (b + 3 + 2) = none := by rw [hu1, gup_ne (by omega)]; exact hf4
  have hu1_f5 : u1 (b + 3 + 3) = none := by rw [hu1, gup_ne (by omega)]; exact hf5
  have hu1_f6 : u1 (b + 3 + 4) = none := by rw [hu1, gup_ne (by omega)]; exact hf6
  have hu1_f7 : u1 (b + 3 + 5) = none := by rw [hu1, gup_ne (by omega)]; exact hf7
  show GW Z _ _ _ ad u1 (sz + 1) [(0, .ref (ad b))] 1 12 9 [.ref (ad (b + 1)), .ref (ad b)]
  refine g_putF b 0 C hname hu1_0 rfl i_C t_C t_C_ok n_C (by decide) (gmem wd_160 rfl) rfl rfl rfl rfl rfl (Nat.le_of_ble_eq_true rfl) d_C_init_9 ?_
  show GW Z _ _ _ ad (gup u1 b (.inr (1, [.ref (ad (b + 1)), .null, .null, .int 0, .int 0, .int 0]))) _ _ _ _ _ _
  obtain ⟨u2, hu2⟩ : ∃ z, z = gup u1 b (.inr (1, [.ref (ad (b + 1)), .null, .null, .int 0, .int 0, .int 0])) := ⟨_, rfl⟩
  rw [← hu2]
  have hu2_0 : u2 b = some (.inr (1, [.ref (ad (b + 1)), .null, .null, .int 0, .int 0, .int 0])) := by rw [hu2]; exact gup_self _ _ _
  have hu2_1 : u2 (b + 1) = some (.inl ((X.2 1), 12, .inr (.inl (fun _ => 0)))) := by rw [hu2, gup_ne (by omega)]; exact hu1_1
  have hu2_f0 : u2 (b + 2) = none := by rw [hu2, gup_ne (by omega)]; exact hu1_f1
  have hu2_f1 : u2 (b + 3) = none := by rw [hu2, gup_ne (by omega)]; exact hu1_f2
  have hu2_f2 : u2 (b + 3 + 1) = none := by rw [hu2, gup_ne (by omega)]; exact hu1_f3
  have hu2_f3 : u2 (b + 3 + 2) = none := by rw [hu2, gup_ne (by omega)]; exact hu1_f4
  have hu2_f4 : u2 (b + 3 + 3) = none := by rw [hu2, gup_ne (by omega)]; exact hu1_f5
  have hu2_f5 : u2 (b + 3 + 4) = none := by rw [hu2, gup_ne (by omega)]; exact hu1_f6
  have hu2_f6 : u2 (b + 3 + 5) = none := by rw [hu2, gup_ne (by omega)]; exact hu1_f7
  refine g_aload_n C d_C_init_12 rfl 0 rfl ?_
  refine g_bipush (v := 12) C d_C_init_13 (by decide) ?_
  refine g_newa (atype := .long) (ty := .long) (cA := (X.2 1)) (N := 12) (a0 := (12, .inr (.inl (fun _ => 0)))) (b + 2) 1 C hu2_f0 ha1 (gmem wd_60 rfl) rfl rfl (fun _ => rfl) (by decide) (by decide) (by decide) (Nat.le_of_ble_eq_true rfl) (Nat.le_of_ble_eq_true rfl) d_C_init_15 ?_
  obtain ⟨u3, hu3⟩ : ∃ z, z = gup u2 (b + 2) (.inl ((X.2 1), 12, .inr (.inl (fun _ => 0)))) := ⟨_, rfl⟩
  rw [← hu3]
  have hu3_0 : u3 b = some (.inr (1, [.ref (ad (b + 1)), .null, .null, .int 0, .int 0, .int 0])) := by rw [hu3, gup_ne (by omega)]; exact hu2_0
  have hu3_1 : u3 (b + 1) = some (.inl ((X.2 1), 12, .inr (.inl (fun _ => 0)))) := by rw [hu3, gup_ne (by omega)]; exact hu2_1
  have hu3_2 : u3 (b + 2) = some (.inl ((X.2 1), 12, .inr (.inl (fun _ => 0)))) := by rw [hu3]; exact gup_self _ _ _
  have hu3_f1 : u3 (b + 3) = none := by rw [hu3, gup_ne (by omega)]; exact hu2_f1
  have hu3_f2 : u3 (b + 3 + 1) = none := by rw [hu3, gup_ne (by omega)]; exact hu2_f2
  have hu3_f3 : u3 (b + 3 + 2) = none := by rw [hu3, gup_ne (by omega)]; exact hu2_f3
  have hu3_f4 : u3 (b + 3 + 3) = none := by rw [hu3, gup_ne (by omega)]; exact hu2_f4
  have hu3_f5 : u3 (b + 3 + 4) = none := by rw [hu3, gup_ne (by omega)]; exact hu2_f5
  have hu3_f6 : u3 (b + 3 + 5) = none := by rw [hu3, gup_ne (by omega)]; exact hu2_f6
  show GW Z _ _ _ ad u3 (sz + 2) [(0, .ref (ad b))] 2 24 17 [.ref (ad (b + 2)), .ref (ad b)]
  refine g_putF b 1 C hname hu3_0 rfl i_C t_C t_C_ok n_C (by decide) (gmem wd_162 rfl) rfl rfl rfl rfl rfl (Nat.le_of_ble_eq_true rfl) d_C_init_17 ?_
  show GW Z _ _ _ ad (gup u3 b (.inr (1, [.ref (ad (b + 1)), .ref (ad (b + 2)), .null, .int 0, .int 0, .int 0]))) _ _ _ _ _ _
  obtain ⟨u4, hu4⟩ : ∃ z, z = gup u3 b (.inr (1, [.ref (ad (b + 1)), .ref (ad (b + 2)), .null, .int 0, .int 0, .int 0])) := ⟨_, rfl⟩
  rw [← hu4]
  have hu4_0 : u4 b = some (.inr (1, [.ref (ad (b + 1)), .ref (ad (b + 2)), .null, .int 0, .int 0, .int 0])) := by rw [hu4]; exact gup_self _ _ _
  have hu4_1 : u4 (b + 1) = some (.inl ((X.2 1), 12, .inr (.inl (fun _ => 0)))) := by rw [hu4, gup_ne (by omega)]; exact hu3_1
  have hu4_2 : u4 (b + 2) = some (.inl ((X.2 1), 12, .inr (.inl (fun _ => 0)))) := by rw [hu4, gup_ne (by omega)]; exact hu3_2
  have hu4_f0 : u4 (b + 3) = none := by rw [hu4, gup_ne (by omega)]; exact hu3_f1
  have hu4_f1 : u4 (b + 3 + 1) = none := by rw [hu4, gup_ne (by omega)]; exact hu3_f2
  have hu4_f2 : u4 (b + 3 + 2) = none := by rw [hu4, gup_ne (by omega)]; exact hu3_f3
  have hu4_f3 : u4 (b + 3 + 3) = none := by rw [hu4, gup_ne (by omega)]; exact hu3_f4
  have hu4_f4 : u4 (b + 3 + 4) = none := by rw [hu4, gup_ne (by omega)]; exact hu3_f5
  have hu4_f5 : u4 (b + 3 + 5) = none := by rw [hu4, gup_ne (by omega)]; exact hu3_f6
  refine g_aload_n C d_C_init_20 rfl 0 rfl ?_
  refine g_new (ci := 4) (fs := [.null, .null, .null, .null, .null, .int 0, .int 0, .int 0, .int 0]) (b + 3) C hu4_f0 ha2 rfl i_S t_S t_S_ok (gmem wd_109 rfl) (gmem wd_110 rfl) (gmem wd_6 rfl) (fun j hj => by rcases (show j = 0 ∨ j = 1 ∨ j = 2 ∨ j = 3 ∨ j = 4 ∨ j = 5 ∨ j = 6 ∨ j = 7 ∨ j = 8 by omega) with rfl | rfl | rfl | rfl | rfl | rfl | rfl | rfl | rfl <;> rfl) (Nat.le_of_ble_eq_true rfl) (Nat.le_of_ble_eq_true rfl) d_C_init_21 ?_
  obtain ⟨u5, hu5⟩ : ∃ z, z = gup u4 (b + 3) (.inr (4, [.null, .null, .null, .null, .null, .int 0, .int 0, .int 0, .int 0])) := ⟨_, rfl⟩
  rw [← hu5]
  have hu5_0 : u5 b = some (.inr (1, [.ref (ad (b + 1)), .ref (ad (b + 2)), .null, .int 0, .int 0, .int 0])) := by rw [hu5, gup_ne (by omega)]; exact hu4_0
  have hu5_1 : u5 (b + 1) = some (.inl ((X.2 1), 12, .inr (.inl (fun _ => 0)))) := by rw [hu5, gup_ne (by omega)]; exact hu4_1
  have hu5_2 : u5 (b + 2) = some (.inl ((X.2 1), 12, .inr (.inl (fun _ => 0)))) := by rw [hu5, gup_ne (by omega)]; exact hu4_2
  have hu5_3 : u5 (b + 3) = some (.inr (4, [.null, .null, .null, .null, .null, .int 0, .int 0, .int 0, .int 0])) := by rw [hu5]; exact gup_self _ _ _
  have hu5_f1 : u5 (b + 3 + 1) = none := by rw [hu5, gup_ne (by omega)]; exact hu4_f1
  have hu5_f2 : u5 (b + 3 + 2) = none := by rw [hu5, gup_ne (by omega)]; exact hu4_f2
  have hu5_f3 : u5 (b + 3 + 3) = none := by rw [hu5, gup_ne (by omega)]; exact hu4_f3
  have hu5_f4 : u5 (b + 3 + 4) = none := by rw [hu5, gup_ne (by omega)]; exact hu4_f4
  have hu5_f5 : u5 (b + 3 + 5) = none := by rw [hu5, gup_ne (by omega)]; exact hu4_f5
  show GW Z _ _ _ ad u5 (sz + 3) [(0, .ref (ad b))] 3 33 24 [.ref (ad (b + 3)), .ref (ad b)]
  refine g_dup C d_C_init_24 rfl ?_
  refine g_callIN 0 C (k_S_init _ X ad u5 (sz + 3) (b + 3) hu5_3 hu5_f1 ha3 hu5_f2 ha4 hu5_f3 ha5 hu5_f4 ha6 hu5_f5 ha7) (gmem wd_113 rfl) (gmem wd_6 rfl) (List.mem_of_getElem? (i := 3) rfl) (gmem wd_112 rfl) rfl ⟨by decide, by decide, by decide +kernel⟩ ⟨Nat.le_of_ble_eq_true rfl, Nat.le_of_ble_eq_true rfl⟩ rfl rfl (Nat.le_of_ble_eq_true rfl) d_C_init_25 ⟨Nat.le_of_ble_eq_true rfl, Nat.le_of_ble_eq_true rfl⟩ ?_
  rintro v9 ui6 s9 ⟨h9, hui6, hs9⟩; rw [h9, hs9]; clear h9 hs9 v9 s9
  have hui6_0 : ui6 b = some (.inr (1, [.ref (ad (b + 1)), .ref (ad (b + 2)), .null, .int 0, .int 0, .int 0])) := by rw [hui6, gup_ne (by omega), gup_ne (by omega), gup_ne (by omega), gup_ne (by omega), gup_ne (by omega), gup_ne (by omega)]; exact hu5_0
  have hui6_1 : ui6 (b + 1) = some (.inl ((X.2 1), 12, .inr (.inl (fun _ => 0)))) := by rw [hui6, gup_ne (by omega), gup_ne (by omega), gup_ne (by omega), gup_ne (by omega), gup_ne (by omega), gup_ne (by omega)]; exact hu5_1
  have hui6_2 : ui6 (b + 2) = some (.inl ((X.2 1), 12, .inr (.inl (fun _ => 0)))) := by rw [hui6, gup_ne (by omega), gup_ne (by omega), gup_ne (by omega), gup_ne (by omega), gup_ne (by omega), gup_ne (by omega)]; exact hu5_2
  have hui6_3 : ui6 (b + 3) = some (.inr (4, [.ref (ad (b + 3 + 1)), .ref (ad (b + 3 + 2)), .ref (ad (b + 3 + 3)), .ref (ad (b + 3 + 4)), .ref (ad (b + 3 + 5)), .int 0, .int 0, .int 0, .int 0])) := by rw [hui6, gup_ne (by omega), gup_ne (by omega), gup_ne (by omega), gup_ne (by omega), gup_ne (by omega), gup_self]
  have hui6_4 : ui6 (b + 3 + 1) = some (.inl ((X.2 0), 12, .inl (fun _ => 0))) := by rw [hui6, gup_ne (by omega), gup_ne (by omega), gup_ne (by omega), gup_ne (by omega), gup_self]
  have hui6_5 : ui6 (b + 3 + 2) = some (.inl ((X.2 0), 12, .inl (fun _ => 0))) := by rw [hui6, gup_ne (by omega), gup_ne (by omega), gup_ne (by omega), gup_self]
  have hui6_6 : ui6 (b + 3 + 3) = some (.inl ((X.2 0), 12, .inl (fun _ => 0))) := by rw [hui6, gup_ne (by omega), gup_ne (by omega), gup_self]
  have hui6_7 : ui6 (b + 3 + 4) = some (.inl ((X.2 1), 12, .inr (.inl (fun _ => 0)))) := by rw [hui6, gup_ne (by omega), gup_self]
  have hui6_8 : ui6 (b + 3 + 5) = some (.inl ((X.2 2), 12, .inl (fun _ => 0))) := by rw [hui6, gup_self]
  show GW Z _ _ _ ad ui6 (sz + 8) [(0, .ref (ad b))] 8 93 28 [.ref (ad (b + 3)), .ref (ad b)]
  refine g_putF b 2 C hname hui6_0 rfl i_C t_C t_C_ok n_C (by decide) (gmem wd_164 rfl) rfl rfl rfl rfl rfl (Nat.le_of_ble_eq_true rfl) d_C_init_28 ?_
  show GW Z _ _ _ ad (gup ui6 b (.inr (1, [.ref (ad (b + 1)), .ref (ad (b + 2)), .ref (ad (b + 3)), .int 0, .int 0, .int 0]))) _ _ _ _ _ _
  obtain ⟨u7, hu7⟩ : ∃ z, z = gup ui6 b (.inr (1, [.ref (ad (b + 1)), .ref (ad (b + 2)), .ref (ad (b + 3)), .int 0, .int 0, .int 0])) := ⟨_, rfl⟩
  rw [← hu7]
  have hu7_0 : u7 b = some (.inr (1, [.ref (ad (b + 1)), .ref (ad (b + 2)), .ref (ad (b + 3)), .int 0, .int 0, .int 0])) := by rw [hu7]; exact gup_self _ _ _
  have hu7_1 : u7 (b + 1) = some (.inl ((X.2 1), 12, .inr (.inl (fun _ => 0)))) := by rw [hu7, gup_ne (by omega)]; exact hui6_1
  have hu7_2 : u7 (b + 2) = some (.inl ((X.2 1), 12, .inr (.inl (fun _ => 0)))) := by rw [hu7, gup_ne (by omega)]; exact hui6_2
  have hu7_3 : u7 (b + 3) = some (.inr (4, [.ref (ad (b + 3 + 1)), .ref (ad (b + 3 + 2)), .ref (ad (b + 3 + 3)), .ref (ad (b + 3 + 4)), .ref (ad (b + 3 + 5)), .int 0, .int 0, .int 0, .int 0])) := by rw [hu7, gup_ne (by omega)]; exact hui6_3
  have hu7_4 : u7 (b + 3 + 1) = some (.inl ((X.2 0), 12, .inl (fun _ => 0))) := by rw [hu7, gup_ne (by omega)]; exact hui6_4
  have hu7_5 : u7 (b + 3 + 2) = some (.inl ((X.2 0), 12, .inl (fun _ => 0))) := by rw [hu7, gup_ne (by omega)]; exact hui6_5
  have hu7_6 : u7 (b + 3 + 3) = some (.inl ((X.2 0), 12, .inl (fun _ => 0))) := by rw [hu7, gup_ne (by omega)]; exact hui6_6
  have hu7_7 : u7 (b + 3 + 4) = some (.inl ((X.2 1), 12, .inr (.inl (fun _ => 0)))) := by rw [hu7, gup_ne (by omega)]; exact hui6_7
  have hu7_8 : u7 (b + 3 + 5) = some (.inl ((X.2 2), 12, .inl (fun _ => 0))) := by rw [hu7, gup_ne (by omega)]; exact hui6_8
  have hfin8 : u7 = gup (gup (gup (gup (gup (gup (gup (gup (gup u b (.inr (1, [.ref (ad (b + 1)), .ref (ad (b + 2)), .ref (ad (b + 3)), .int 0, .int 0, .int 0]))) (b + 1) (.inl ((X.2 1), 12, .inr (.inl (fun _ => 0))))) (b + 2) (.inl ((X.2 1), 12, .inr (.inl (fun _ => 0))))) (b + 3) (.inr (4, [.ref (ad (b + 3 + 1)), .ref (ad (b + 3 + 2)), .ref (ad (b + 3 + 3)), .ref (ad (b + 3 + 4)), .ref (ad (b + 3 + 5)), .int 0, .int 0, .int 0, .int 0]))) (b + 3 + 1) (.inl ((X.2 0), 12, .inl (fun _ => 0)))) (b + 3 + 2) (.inl ((X.2 0), 12, .inl (fun _ => 0)))) (b + 3 + 3) (.inl ((X.2 0), 12, .inl (fun _ => 0)))) (b + 3 + 4) (.inl ((X.2 1), 12, .inr (.inl (fun _ => 0))))) (b + 3 + 5) (.inl ((X.2 2), 12, .inl (fun _ => 0))) := by
    funext k
    by_cases hk0 : k = b
    · rw [hk0, hu7_0, gup_ne (by omega), gup_ne (by omega), gup_ne (by omega), gup_ne (by omega), gup_ne (by omega), gup_ne (by omega), gup_ne (by omega), gup_ne (by omega), gup_self]
    by_cases hk1 : k = b + 1
    · rw [hk1, hu7_1, gup_ne (by omega), gup_ne (by omega), gup_ne (by omega), gup_ne (by omega), gup_ne (by omega), gup_ne (by omega), gup_ne (by omega), gup_self]
    by_cases hk2 : k = b + 2
    · rw [hk2, hu7_2, gup_ne (by omega), gup_ne (by omega), gup_ne (by omega), gup_ne (by omega), gup_ne (by omega), gup_ne (by omega), gup_self]
    by_cases hk3 : k = b + 3
    · rw [hk3, hu7_3, gup_ne (by omega), gup_ne (by omega), gup_ne (by omega), gup_ne (by omega), gup_ne (by omega), gup_self]
    by_cases hk4 : k = b + 3 + 1
    · rw [hk4, hu7_4, gup_ne (by omega), gup_ne (by omega), gup_ne (by omega), gup_ne (by omega), gup_self]
    by_cases hk5 : k = b + 3 + 2
    · rw [hk5, hu7_5, gup_ne (by omega), gup_ne (by omega), gup_ne (by omega), gup_self]
    by_cases hk6 : k = b + 3 + 3
    · rw [hk6, hu7_6, gup_ne (by omega), gup_ne (by omega), gup_self]
    by_cases hk7 : k = b + 3 + 4
    · rw [hk7, hu7_7, gup_ne (by omega), gup_self]
    by_cases hk8 : k = b + 3 + 5
    · rw [hk8, hu7_8, gup_self]
    rw [hu7, gup_ne hk0]
    rw [hui6, gup_ne hk8, gup_ne hk7, gup_ne hk6, gup_ne hk5, gup_ne hk4, gup_ne hk3]
    rw [hu5, gup_ne hk3]
    rw [hu4, gup_ne hk0]
    rw [hu3, gup_ne hk2]
    rw [hu2, gup_ne hk0]
    rw [hu1, gup_ne hk1]
    rw [gup_ne hk8, gup_ne hk7, gup_ne hk6, gup_ne hk5, gup_ne hk4, gup_ne hk3, gup_ne hk2, gup_ne hk1, gup_ne hk0]
  exact g_vret C hR hret ⟨rfl, hfin8, rfl⟩ d_C_init_31

set_option maxHeartbeats 4000000 in
set_option maxRecDepth 100000 in
theorem k_X_init (l : Launch) (X : gX) (ad : Nat → Nat) (u : gW) (sz : Nat) (x : Nat) (hb : u x = some (.inr (5, [.null, .null, .null, .null, .int 0, .int 0])))  (hf0 : u (x + 1) = none) (ha0 : ad (x + 1) = sz) (hf1 : u (x + 2) = none) (ha1 : ad (x + 2) = sz + 1) (hf2 : u (x + 3) = none) (ha2 : ad (x + 3) = sz + 2) (hf3 : u (x + 3 + 1) = none) (ha3 : ad (x + 3 + 1) = sz + 3) (hf4 : u (x + 3 + 2) = none) (ha4 : ad (x + 3 + 2) = sz + 4) (hf5 : u (x + 6) = none) (ha5 : ad (x + 6) = sz + 5) (hf6 : u (x + 6 + 1) = none) (ha6 : ad (x + 6 + 1) = sz + 6) (hf7 : u (x + 6 + 2) = none) (ha7 : ad (x + 6 + 2) = sz + 7) (hf8 : u (x + 6 + 3) = none) (ha8 : ad (x + 6 + 3) = sz + 8) : gMet l (EE X) y_X_init c_X_init 1 none ({ frames := 2, cells := 9, slots := 4223, locals := 40 }) [.ref (ad x)] ad u sz (fun v u' sz' => v = none ∧ u' = gup (gup (gup (gup (gup (gup (gup (gup (gup (gup u x (.inr (5, [.ref (ad (x + 1)), .ref (ad (x + 2)), .ref (ad (x + 3)), .ref (ad (x + 6)), .int 0, .int 0]))) (x + 1) (.inl ((X.2 3), 4, .inr (.inr (.inr (.inr (fun _ => none))))))) (x + 2) (.inl ((X.2 4), 64, .inr (.inr (.inr (.inr (fun _ => none))))))) (x + 3) (.inr (2, [.ref (ad (x + 3 + 1)), .ref (ad (x + 3 + 2)), .null, .int 0, .int 0, .int 0, .int 0]))) (x + 3 + 1) (.inl ((X.2 1), 12, .inr (.inl (fun _ => 0))))) (x + 3 + 2) (.inl ((X.2 1), 12, .inr (.inl (fun _ => 0))))) (x + 6) (.inr (3, [.ref (ad (x + 6 + 1)), .ref (ad (x + 6 + 2)), .ref (ad (x + 6 + 3)), .int 0]))) (x + 6 + 1) (.inl ((X.2 0), 12, .inl (fun _ => 0)))) (x + 6 + 2) (.inl ((X.2 1), 12, .inr (.inl (fun _ => 0))))) (x + 6 + 3) (.inl ((X.2 0), 4096, .inl (fun _ => 0))) ∧ sz' = sz + 9) := by
  refine gMet_of "ExpenseClubs" rfl (by decide) (Nat.le_of_ble_eq_true rfl) (lv := [(0, .ref (ad x))]) rfl (fun Z hZl C hR hret hname => ?_)
  refine g_aload_n C d_X_init_0 rfl 0 rfl ?_
  refine g_objInit C (gmem wd_20 rfl) (gmem wd_21 rfl) (gmem wd_22 rfl) d_X_init_1 (Nat.le_of_ble_eq_true rfl) (Nat.le_of_ble_eq_true rfl) ?_
  refine g_aload_n C d_X_init_4 rfl 0 rfl ?_
  refine g_iconst (v := 4) C d_X_init_5 (by decide) ?_
  refine g_newq (C0 := "ExpenseClubs$Club") (cA := (X.2 3)) (N := 4) (x + 1) 3 C hf0 ha0 (gmem wd_23 rfl) C.2.2.2.2.2.2.2.2.2.1 rfl (by decide) (by decide) (by decide) (Nat.le_of_ble_eq_true rfl) (Nat.le_of_ble_eq_true rfl) d_X_init_6 ?_
  obtain ⟨u1, hu1⟩ : ∃ z, z = gup u (x + 1) (.inl ((X.2 3), 4, .inr (.inr (.inr (.inr (fun _ => none)))))) := ⟨_, rfl⟩
  rw [← hu1]
  have hu1_0 : u1 x = some (.inr (5, [.null, .null, .null, .null, .int 0, .int 0])) := by rw [hu1, gup_ne (by omega)]; exact hb
  have hu1_1 : u1 (x + 1) = some (.inl ((X.2 3), 4, .inr (.inr (.inr (.inr (fun _ => none)))))) := by rw [hu1]; exact gup_self _ _ _
  have hu1_f1 : u1 (x + 2) = none := by rw [hu1, gup_ne (by omega)]; exact hf1
  have hu1_f2 : u1 (x + 3) = none := by rw [hu1, gup_ne (by omega)]; exact hf2
  have hu1_f3 : u1 (x + 3 + 1) = none := by rw [hu1, gup_ne (by omega)]; exact hf3
  have hu1_f4 : u1 (x + 3 + 2) = none := by rw [hu1, gup_ne (by omega)]; exact hf4
  have hu1_f5 : u1 (x + 6) = none := by rw [hu1, gup_ne (by omega)]; exact hf5
  have hu1_f6 : u1 (x + 6 + 1) = none := by rw [hu1, gup_ne (by omega)]; exact hf6
  have hu1_f7 : u1 (x + 6 + 2) = none := by rw [hu1, gup_ne (by omega)]; exact hf7
  have hu1_f8 : u1 (x + 6 + 3) = none := by rw [hu1, gup_ne (by omega)]; exact hf8
  show GW Z _ _ _ ad u1 (sz + 1) [(0, .ref (ad x))] 1 4 9 [.ref (ad (x + 1)), .ref (ad x)]
  refine g_putF x 0 C hname hu1_0 rfl i_X t_X t_X_ok n_X (by decide) (gmem wd_81 rfl) rfl rfl rfl rfl rfl (Nat.le_of_ble_eq_true rfl) d_X_init_9 ?_
  show GW Z _ _ _ ad (gup u1 x (.inr (5, [.ref (ad (x + 1)), .null, .null, .null, .int 0, .int 0]))) _ _ _ _ _ _
  obtain ⟨u2, hu2⟩ : ∃ z, z = gup u1 x (.inr (5, [.ref (ad (x + 1)), .null, .null, .null, .int 0, .int 0])) := ⟨_, rfl⟩
  rw [← hu2]
  have hu2_0 : u2 x = some (.inr (5, [.ref (ad (x + 1)), .null, .null, .null, .int 0, .int 0])) := by rw [hu2]; exact gup_self _ _ _
  have hu2_1 : u2 (x + 1) = some (.inl ((X.2 3), 4, .inr (.inr (.inr (.inr (fun _ => none)))))) := by rw [hu2, gup_ne (by omega)]; exact hu1_1
  have hu2_f0 : u2 (x + 2) = none := by rw [hu2, gup_ne (by omega)]; exact hu1_f1
  have hu2_f1 : u2 (x + 3) = none := by rw [hu2, gup_ne (by omega)]; exact hu1_f2
  have hu2_f2 : u2 (x + 3 + 1) = none := by rw [hu2, gup_ne (by omega)]; exact hu1_f3
  have hu2_f3 : u2 (x + 3 + 2) = none := by rw [hu2, gup_ne (by omega)]; exact hu1_f4
  have hu2_f4 : u2 (x + 6) = none := by rw [hu2, gup_ne (by omega)]; exact hu1_f5
  have hu2_f5 : u2 (x + 6 + 1) = none := by rw [hu2, gup_ne (by omega)]; exact hu1_f6
  have hu2_f6 : u2 (x + 6 + 2) = none := by rw [hu2, gup_ne (by omega)]; exact hu1_f7
  have hu2_f7 : u2 (x + 6 + 3) = none := by rw [hu2, gup_ne (by omega)]; exact hu1_f8
  refine g_aload_n C d_X_init_12 rfl 0 rfl ?_
  refine g_bipush (v := 64) C d_X_init_13 (by decide) ?_
  refine g_newq (C0 := "ExpenseClubs$Bill") (cA := (X.2 4)) (N := 64) (x + 2) 4 C hu2_f0 ha1 (gmem wd_25 rfl) C.2.2.2.2.2.2.2.2.2.2 rfl (by decide) (by decide) (by decide) (Nat.le_of_ble_eq_true rfl) (Nat.le_of_ble_eq_true rfl) d_X_init_15 ?_
  obtain ⟨u3, hu3⟩ : ∃ z, z = gup u2 (x + 2) (.inl ((X.2 4), 64, .inr (.inr (.inr (.inr (fun _ => none)))))) := ⟨_, rfl⟩
  rw [← hu3]
  have hu3_0 : u3 x = some (.inr (5, [.ref (ad (x + 1)), .null, .null, .null, .int 0, .int 0])) := by rw [hu3, gup_ne (by omega)]; exact hu2_0
  have hu3_1 : u3 (x + 1) = some (.inl ((X.2 3), 4, .inr (.inr (.inr (.inr (fun _ => none)))))) := by rw [hu3, gup_ne (by omega)]; exact hu2_1
  have hu3_2 : u3 (x + 2) = some (.inl ((X.2 4), 64, .inr (.inr (.inr (.inr (fun _ => none)))))) := by rw [hu3]; exact gup_self _ _ _
  have hu3_f1 : u3 (x + 3) = none := by rw [hu3, gup_ne (by omega)]; exact hu2_f1
  have hu3_f2 : u3 (x + 3 + 1) = none := by rw [hu3, gup_ne (by omega)]; exact hu2_f2
  have hu3_f3 : u3 (x + 3 + 2) = none := by rw [hu3, gup_ne (by omega)]; exact hu2_f3
  have hu3_f4 : u3 (x + 6) = none := by rw [hu3, gup_ne (by omega)]; exact hu2_f4
  have hu3_f5 : u3 (x + 6 + 1) = none := by rw [hu3, gup_ne (by omega)]; exact hu2_f5
  have hu3_f6 : u3 (x + 6 + 2) = none := by rw [hu3, gup_ne (by omega)]; exact hu2_f6
  have hu3_f7 : u3 (x + 6 + 3) = none := by rw [hu3, gup_ne (by omega)]; exact hu2_f7
  show GW Z _ _ _ ad u3 (sz + 2) [(0, .ref (ad x))] 2 68 18 [.ref (ad (x + 2)), .ref (ad x)]
  refine g_putF x 1 C hname hu3_0 rfl i_X t_X t_X_ok n_X (by decide) (gmem wd_82 rfl) rfl rfl rfl rfl rfl (Nat.le_of_ble_eq_true rfl) d_X_init_18 ?_
  show GW Z _ _ _ ad (gup u3 x (.inr (5, [.ref (ad (x + 1)), .ref (ad (x + 2)), .null, .null, .int 0, .int 0]))) _ _ _ _ _ _
  obtain ⟨u4, hu4⟩ : ∃ z, z = gup u3 x (.inr (5, [.ref (ad (x + 1)), .ref (ad (x + 2)), .null, .null, .int 0, .int 0])) := ⟨_, rfl⟩
  rw [← hu4]
  have hu4_0 : u4 x = some (.inr (5, [.ref (ad (x + 1)), .ref (ad (x + 2)), .null, .null, .int 0, .int 0])) := by rw [hu4]; exact gup_self _ _ _
  have hu4_1 : u4 (x + 1) = some (.inl ((X.2 3), 4, .inr (.inr (.inr (.inr (fun _ => none)))))) := by rw [hu4, gup_ne (by omega)]; exact hu3_1
  have hu4_2 : u4 (x + 2) = some (.inl ((X.2 4), 64, .inr (.inr (.inr (.inr (fun _ => none)))))) := by rw [hu4, gup_ne (by omega)]; exact hu3_2
  have hu4_f0 : u4 (x + 3) = none := by rw [hu4, gup_ne (by omega)]; exact hu3_f1
  have hu4_f1 : u4 (x + 3 + 1) = none := by rw [hu4, gup_ne (by omega)]; exact hu3_f2
  have hu4_f2 : u4 (x + 3 + 2) = none := by rw [hu4, gup_ne (by omega)]; exact hu3_f3
  have hu4_f3 : u4 (x + 6) = none := by rw [hu4, gup_ne (by omega)]; exact hu3_f4
  have hu4_f4 : u4 (x + 6 + 1) = none := by rw [hu4, gup_ne (by omega)]; exact hu3_f5
  have hu4_f5 : u4 (x + 6 + 2) = none := by rw [hu4, gup_ne (by omega)]; exact hu3_f6
  have hu4_f6 : u4 (x + 6 + 3) = none := by rw [hu4, gup_ne (by omega)]; exact hu3_f7
  refine g_aload_n C d_X_init_21 rfl 0 rfl ?_
  refine g_new (ci := 2) (fs := [.null, .null, .null, .int 0, .int 0, .int 0, .int 0]) (x + 3) C hu4_f0 ha2 rfl i_D t_D t_D_ok (gmem wd_27 rfl) (gmem wd_28 rfl) (gmem wd_2 rfl) (fun j hj => by rcases (show j = 0 ∨ j = 1 ∨ j = 2 ∨ j = 3 ∨ j = 4 ∨ j = 5 ∨ j = 6 by omega) with rfl | rfl | rfl | rfl | rfl | rfl | rfl <;> rfl) (Nat.le_of_ble_eq_true rfl) (Nat.le_of_ble_eq_true rfl) d_X_init_22 ?_
  obtain ⟨u5, hu5⟩ : ∃ z, z = gup u4 (x + 3) (.inr (2, [.null, .null, .null, .int 0, .int 0, .int 0, .int 0])) := ⟨_, rfl⟩
  rw [← hu5]
  have hu5_0 : u5 x = some (.inr (5, [.ref (ad (x + 1)), .ref (ad (x + 2)), .null, .null, .int 0, .int 0])) := by rw [hu5, gup_ne (by omega)]; exact hu4_0
  have hu5_1 : u5 (x + 1) = some (.inl ((X.2 3), 4, .inr (.inr (.inr (.inr (fun _ => none)))))) := by rw [hu5, gup_ne (by omega)]; exact hu4_1
  have hu5_2 : u5 (x + 2) = some (.inl ((X.2 4), 64, .inr (.inr (.inr (.inr (fun _ => none)))))) := by rw [hu5, gup_ne (by omega)]; exact hu4_2
  have hu5_3 : u5 (x + 3) = some (.inr (2, [.null, .null, .null, .int 0, .int 0, .int 0, .int 0])) := by rw [hu5]; exact gup_self _ _ _
  have hu5_f1 : u5 (x + 3 + 1) = none := by rw [hu5, gup_ne (by omega)]; exact hu4_f1
  have hu5_f2 : u5 (x + 3 + 2) = none := by rw [hu5, gup_ne (by omega)]; exact hu4_f2
  have hu5_f3 : u5 (x + 6) = none := by rw [hu5, gup_ne (by omega)]; exact hu4_f3
  have hu5_f4 : u5 (x + 6 + 1) = none := by rw [hu5, gup_ne (by omega)]; exact hu4_f4
  have hu5_f5 : u5 (x + 6 + 2) = none := by rw [hu5, gup_ne (by omega)]; exact hu4_f5
  have hu5_f6 : u5 (x + 6 + 3) = none := by rw [hu5, gup_ne (by omega)]; exact hu4_f6
  show GW Z _ _ _ ad u5 (sz + 3) [(0, .ref (ad x))] 3 75 25 [.ref (ad (x + 3)), .ref (ad x)]
  refine g_dup C d_X_init_25 rfl ?_
  refine g_callIN 0 C (k_D_init _ X ad u5 (sz + 3) (x + 3) hu5_3 hu5_f1 ha3 hu5_f2 ha4) (gmem wd_31 rfl) (gmem wd_2 rfl) (List.mem_of_getElem? (i := 0) rfl) (gmem wd_30 rfl) rfl ⟨by decide, by decide, by decide +kernel⟩ ⟨Nat.le_of_ble_eq_true rfl, Nat.le_of_ble_eq_true rfl⟩ rfl rfl (Nat.le_of_ble_eq_true rfl) d_X_init_26 ⟨Nat.le_of_ble_eq_true rfl, Nat.le_of_ble_eq_true rfl⟩ ?_
  rintro v9 ui6 s9 ⟨h9, hui6, hs9⟩; rw [h9, hs9]; clear h9 hs9 v9 s9
  have hui6_0 : ui6 x = some (.inr (5, [.ref (ad (x + 1)), .ref (ad (x + 2)), .null, .null, .int 0, .int 0])) := by rw [hui6, gup_ne (by omega), gup_ne (by omega), gup_ne (by omega)]; exact hu5_0
  have hui6_1 : ui6 (x + 1) = some (.inl ((X.2 3), 4, .inr (.inr (.inr (.inr (fun _ => none)))))) := by rw [hui6, gup_ne (by omega), gup_ne (by omega), gup_ne (by omega)]; exact hu5_1
  have hui6_2 : ui6 (x + 2) = some (.inl ((X.2 4), 64, .inr (.inr (.inr (.inr (fun _ => none)))))) := by rw [hui6, gup_ne (by omega), gup_ne (by omega), gup_ne (by omega)]; exact hu5_2
  have hui6_3 : ui6 (x + 3) = some (.inr (2, [.ref (ad (x + 3 + 1)), .ref (ad (x + 3 + 2)), .null, .int 0, .int 0, .int 0, .int 0])) := by rw [hui6, gup_ne (by omega), gup_ne (by omega), gup_self]
  have hui6_4 : ui6 (x + 3 + 1) = some (.inl ((X.2 1), 12, .inr (.inl (fun _ => 0)))) := by rw [hui6, gup_ne (by omega), gup_self]
  have hui6_5 : ui6 (x + 3 + 2) = some (.inl ((X.2 1), 12, .inr (.inl (fun _ => 0)))) := by rw [hui6, gup_self]
  have hui6_f2 : ui6 (x + 6) = none := by rw [hui6, gup_ne (by omega), gup_ne (by omega), gup_ne (by omega)]; exact hu5_f3
  have hui6_f3 : ui6 (x + 6 + 1) = none := by rw [hui6, gup_ne (by omega), gup_ne (by omega), gup_ne (by omega)]; exact hu5_f4
  have hui6_f4 : ui6 (x + 6 + 2) = none := by rw [hui6, gup_ne (by omega), gup_ne (by omega), gup_ne (by omega)]; exact hu5_f5
  have hui6_f5 : ui6 (x + 6 + 3) = none := by rw [hui6, gup_ne (by omega), gup_ne (by omega), gup_ne (by omega)]; exact hu5_f6
  show GW Z _ _ _ ad ui6 (sz + 5) [(0, .ref (ad x))] 5 99 29 [.ref (ad (x + 3)), .ref (ad x)]
  refine g_putF x 2 C hname hui6_0 rfl i_X t_X t_X_ok n_X (by decide) (gmem wd_83 rfl) rfl rfl rfl rfl rfl (Nat.le_of_ble_eq_true rfl) d_X_init_29 ?_
  show GW Z _ _ _ ad (gup ui6 x (.inr (5, [.ref (ad (x + 1)), .ref (ad (x + 2)), .ref (ad (x + 3)), .null, .int 0, .int 0]))) _ _ _ _ _ _
  obtain ⟨u7, hu7⟩ : ∃ z, z = gup ui6 x (.inr (5, [.ref (ad (x + 1)), .ref (ad (x + 2)), .ref (ad (x + 3)), .null, .int 0, .int 0])) := ⟨_, rfl⟩
  rw [← hu7]
  have hu7_0 : u7 x = some (.inr (5, [.ref (ad (x + 1)), .ref (ad (x + 2)), .ref (ad (x + 3)), .null, .int 0, .int 0])) := by rw [hu7]; exact gup_self _ _ _
  have hu7_1 : u7 (x + 1) = some (.inl ((X.2 3), 4, .inr (.inr (.inr (.inr (fun _ => none)))))) := by rw [hu7, gup_ne (by omega)]; exact hui6_1
  have hu7_2 : u7 (x + 2) = some (.inl ((X.2 4), 64, .inr (.inr (.inr (.inr (fun _ => none)))))) := by rw [hu7, gup_ne (by omega)]; exact hui6_2
  have hu7_3 : u7 (x + 3) = some (.inr (2, [.ref (ad (x + 3 + 1)), .ref (ad (x + 3 + 2)), .null, .int 0, .int 0, .int 0, .int 0])) := by rw [hu7, gup_ne (by omega)]; exact hui6_3
  have hu7_4 : u7 (x + 3 + 1) = some (.inl ((X.2 1), 12, .inr (.inl (fun _ => 0)))) := by rw [hu7, gup_ne (by omega)]; exact hui6_4
  have hu7_5 : u7 (x + 3 + 2) = some (.inl ((X.2 1), 12, .inr (.inl (fun _ => 0)))) := by rw [hu7, gup_ne (by omega)]; exact hui6_5
  have hu7_f0 : u7 (x + 6) = none := by rw [hu7, gup_ne (by omega)]; exact hui6_f2
  have hu7_f1 : u7 (x + 6 + 1) = none := by rw [hu7, gup_ne (by omega)]; exact hui6_f3
  have hu7_f2 : u7 (x + 6 + 2) = none := by rw [hu7, gup_ne (by omega)]; exact hui6_f4
  have hu7_f3 : u7 (x + 6 + 3) = none := by rw [hu7, gup_ne (by omega)]; exact hui6_f5
  refine g_aload_n C d_X_init_32 rfl 0 rfl ?_
  refine g_new (ci := 3) (fs := [.null, .null, .null, .int 0]) (x + 6) C hu7_f0 ha5 rfl i_G t_G t_G_ok (gmem wd_61 rfl) (gmem wd_62 rfl) (gmem wd_3 rfl) (fun j hj => by rcases (show j = 0 ∨ j = 1 ∨ j = 2 ∨ j = 3 by omega) with rfl | rfl | rfl | rfl <;> rfl) (Nat.le_of_ble_eq_true rfl) (Nat.le_of_ble_eq_true rfl) d_X_init_33 ?_
  obtain ⟨u8, hu8⟩ : ∃ z, z = gup u7 (x + 6) (.inr (3, [.null, .null, .null, .int 0])) := ⟨_, rfl⟩
  rw [← hu8]
  have hu8_0 : u8 x = some (.inr (5, [.ref (ad (x + 1)), .ref (ad (x + 2)), .ref (ad (x + 3)), .null, .int 0, .int 0])) := by rw [hu8, gup_ne (by omega)]; exact hu7_0
  have hu8_1 : u8 (x + 1) = some (.inl ((X.2 3), 4, .inr (.inr (.inr (.inr (fun _ => none)))))) := by rw [hu8, gup_ne (by omega)]; exact hu7_1
  have hu8_2 : u8 (x + 2) = some (.inl ((X.2 4), 64, .inr (.inr (.inr (.inr (fun _ => none)))))) := by rw [hu8, gup_ne (by omega)]; exact hu7_2
  have hu8_3 : u8 (x + 3) = some (.inr (2, [.ref (ad (x + 3 + 1)), .ref (ad (x + 3 + 2)), .null, .int 0, .int 0, .int 0, .int 0])) := by rw [hu8, gup_ne (by omega)]; exact hu7_3
  have hu8_4 : u8 (x + 3 + 1) = some (.inl ((X.2 1), 12, .inr (.inl (fun _ => 0)))) := by rw [hu8, gup_ne (by omega)]; exact hu7_4
  have hu8_5 : u8 (x + 3 + 2) = some (.inl ((X.2 1), 12, .inr (.inl (fun _ => 0)))) := by rw [hu8, gup_ne (by omega)]; exact hu7_5
  have hu8_6 : u8 (x + 6) = some (.inr (3, [.null, .null, .null, .int 0])) := by rw [hu8]; exact gup_self _ _ _
  have hu8_f1 : u8 (x + 6 + 1) = none := by rw [hu8, gup_ne (by omega)]; exact hu7_f1
  have hu8_f2 : u8 (x + 6 + 2) = none := by rw [hu8, gup_ne (by omega)]; exact hu7_f2
  have hu8_f3 : u8 (x + 6 + 3) = none := by rw [hu8, gup_ne (by omega)]; exact hu7_f3
  show GW Z _ _ _ ad u8 (sz + 6) [(0, .ref (ad x))] 6 103 36 [.ref (ad (x + 6)), .ref (ad x)]
  refine g_dup C d_X_init_36 rfl ?_
  refine g_callIN 0 C (k_G_init _ X ad u8 (sz + 6) (x + 6) hu8_6 hu8_f1 ha6 hu8_f2 ha7 hu8_f3 ha8) (gmem wd_65 rfl) (gmem wd_3 rfl) (List.mem_of_getElem? (i := 1) rfl) (gmem wd_64 rfl) rfl ⟨by decide, by decide, by decide +kernel⟩ ⟨Nat.le_of_ble_eq_true rfl, Nat.le_of_ble_eq_true rfl⟩ rfl rfl (Nat.le_of_ble_eq_true rfl) d_X_init_37 ⟨Nat.le_of_ble_eq_true rfl, Nat.le_of_ble_eq_true rfl⟩ ?_
  rintro v9 ui9 s9 ⟨h9, hui9, hs9⟩; rw [h9, hs9]; clear h9 hs9 v9 s9
  have hui9_0 : ui9 x = some (.inr (5, [.ref (ad (x + 1)), .ref (ad (x + 2)), .ref (ad (x + 3)), .null, .int 0, .int 0])) := by rw [hui9, gup_ne (by omega), gup_ne (by omega), gup_ne (by omega), gup_ne (by omega)]; exact hu8_0
  have hui9_1 : ui9 (x + 1) = some (.inl ((X.2 3), 4, .inr (.inr (.inr (.inr (fun _ => none)))))) := by rw [hui9, gup_ne (by omega), gup_ne (by omega), gup_ne (by omega), gup_ne (by omega)]; exact hu8_1
  have hui9_2 : ui9 (x + 2) = some (.inl ((X.2 4), 64, .inr (.inr (.inr (.inr (fun _ => none)))))) := by rw [hui9, gup_ne (by omega), gup_ne (by omega), gup_ne (by omega), gup_ne (by omega)]; exact hu8_2
  have hui9_3 : ui9 (x + 3) = some (.inr (2, [.ref (ad (x + 3 + 1)), .ref (ad (x + 3 + 2)), .null, .int 0, .int 0, .int 0, .int 0])) := by rw [hui9, gup_ne (by omega), gup_ne (by omega), gup_ne (by omega), gup_ne (by omega)]; exact hu8_3
  have hui9_4 : ui9 (x + 3 + 1) = some (.inl ((X.2 1), 12, .inr (.inl (fun _ => 0)))) := by rw [hui9, gup_ne (by omega), gup_ne (by omega), gup_ne (by omega), gup_ne (by omega)]; exact hu8_4
  have hui9_5 : ui9 (x + 3 + 2) = some (.inl ((X.2 1), 12, .inr (.inl (fun _ => 0)))) := by rw [hui9, gup_ne (by omega), gup_ne (by omega), gup_ne (by omega), gup_ne (by omega)]; exact hu8_5
  have hui9_6 : ui9 (x + 6) = some (.inr (3, [.ref (ad (x + 6 + 1)), .ref (ad (x + 6 + 2)), .ref (ad (x + 6 + 3)), .int 0])) := by rw [hui9, gup_ne (by omega), gup_ne (by omega), gup_ne (by omega), gup_self]
  have hui9_7 : ui9 (x + 6 + 1) = some (.inl ((X.2 0), 12, .inl (fun _ => 0))) := by rw [hui9, gup_ne (by omega), gup_ne (by omega), gup_self]
  have hui9_8 : ui9 (x + 6 + 2) = some (.inl ((X.2 1), 12, .inr (.inl (fun _ => 0)))) := by rw [hui9, gup_ne (by omega), gup_self]
  have hui9_9 : ui9 (x + 6 + 3) = some (.inl ((X.2 0), 4096, .inl (fun _ => 0))) := by rw [hui9, gup_self]
  show GW Z _ _ _ ad ui9 (sz + 9) [(0, .ref (ad x))] 9 4223 40 [.ref (ad (x + 6)), .ref (ad x)]
  refine g_putF x 3 C hname hui9_0 rfl i_X t_X t_X_ok n_X (by decide) (gmem wd_84 rfl) rfl rfl rfl rfl rfl (Nat.le_of_ble_eq_true rfl) d_X_init_40 ?_
  show GW Z _ _ _ ad (gup ui9 x (.inr (5, [.ref (ad (x + 1)), .ref (ad (x + 2)), .ref (ad (x + 3)), .ref (ad (x + 6)), .int 0, .int 0]))) _ _ _ _ _ _
  obtain ⟨u10, hu10⟩ : ∃ z, z = gup ui9 x (.inr (5, [.ref (ad (x + 1)), .ref (ad (x + 2)), .ref (ad (x + 3)), .ref (ad (x + 6)), .int 0, .int 0])) := ⟨_, rfl⟩
  rw [← hu10]
  have hu10_0 : u10 x = some (.inr (5, [.ref (ad (x + 1)), .ref (ad (x + 2)), .ref (ad (x + 3)), .ref (ad (x + 6)), .int 0, .int 0])) := by rw [hu10]; exact gup_self _ _ _
  have hu10_1 : u10 (x + 1) = some (.inl ((X.2 3), 4, .inr (.inr (.inr (.inr (fun _ => none)))))) := by rw [hu10, gup_ne (by omega)]; exact hui9_1
  have hu10_2 : u10 (x + 2) = some (.inl ((X.2 4), 64, .inr (.inr (.inr (.inr (fun _ => none)))))) := by rw [hu10, gup_ne (by omega)]; exact hui9_2
  have hu10_3 : u10 (x + 3) = some (.inr (2, [.ref (ad (x + 3 + 1)), .ref (ad (x + 3 + 2)), .null, .int 0, .int 0, .int 0, .int 0])) := by rw [hu10, gup_ne (by omega)]; exact hui9_3
  have hu10_4 : u10 (x + 3 + 1) = some (.inl ((X.2 1), 12, .inr (.inl (fun _ => 0)))) := by rw [hu10, gup_ne (by omega)]; exact hui9_4
  have hu10_5 : u10 (x + 3 + 2) = some (.inl ((X.2 1), 12, .inr (.inl (fun _ => 0)))) := by rw [hu10, gup_ne (by omega)]; exact hui9_5
  have hu10_6 : u10 (x + 6) = some (.inr (3, [.ref (ad (x + 6 + 1)), .ref (ad (x + 6 + 2)), .ref (ad (x + 6 + 3)), .int 0])) := by rw [hu10, gup_ne (by omega)]; exact hui9_6
  have hu10_7 : u10 (x + 6 + 1) = some (.inl ((X.2 0), 12, .inl (fun _ => 0))) := by rw [hu10, gup_ne (by omega)]; exact hui9_7
  have hu10_8 : u10 (x + 6 + 2) = some (.inl ((X.2 1), 12, .inr (.inl (fun _ => 0)))) := by rw [hu10, gup_ne (by omega)]; exact hui9_8
  have hu10_9 : u10 (x + 6 + 3) = some (.inl ((X.2 0), 4096, .inl (fun _ => 0))) := by rw [hu10, gup_ne (by omega)]; exact hui9_9
  have hfin11 : u10 = gup (gup (gup (gup (gup (gup (gup (gup (gup (gup u x (.inr (5, [.ref (ad (x + 1)), .ref (ad (x + 2)), .ref (ad (x + 3)), .ref (ad (x + 6)), .int 0, .int 0]))) (x + 1) (.inl ((X.2 3), 4, .inr (.inr (.inr (.inr (fun _ => none))))))) (x + 2) (.inl ((X.2 4), 64, .inr (.inr (.inr (.inr (fun _ => none))))))) (x + 3) (.inr (2, [.ref (ad (x + 3 + 1)), .ref (ad (x + 3 + 2)), .null, .int 0, .int 0, .int 0, .int 0]))) (x + 3 + 1) (.inl ((X.2 1), 12, .inr (.inl (fun _ => 0))))) (x + 3 + 2) (.inl ((X.2 1), 12, .inr (.inl (fun _ => 0))))) (x + 6) (.inr (3, [.ref (ad (x + 6 + 1)), .ref (ad (x + 6 + 2)), .ref (ad (x + 6 + 3)), .int 0]))) (x + 6 + 1) (.inl ((X.2 0), 12, .inl (fun _ => 0)))) (x + 6 + 2) (.inl ((X.2 1), 12, .inr (.inl (fun _ => 0))))) (x + 6 + 3) (.inl ((X.2 0), 4096, .inl (fun _ => 0))) := by
    funext k
    by_cases hk0 : k = x
    · rw [hk0, hu10_0, gup_ne (by omega), gup_ne (by omega), gup_ne (by omega), gup_ne (by omega), gup_ne (by omega), gup_ne (by omega), gup_ne (by omega), gup_ne (by omega), gup_ne (by omega), gup_self]
    by_cases hk1 : k = x + 1
    · rw [hk1, hu10_1, gup_ne (by omega), gup_ne (by omega), gup_ne (by omega), gup_ne (by omega), gup_ne (by omega), gup_ne (by omega), gup_ne (by omega), gup_ne (by omega), gup_self]
    by_cases hk2 : k = x + 2
    · rw [hk2, hu10_2, gup_ne (by omega), gup_ne (by omega), gup_ne (by omega), gup_ne (by omega), gup_ne (by omega), gup_ne (by omega), gup_ne (by omega), gup_self]
    by_cases hk3 : k = x + 3
    · rw [hk3, hu10_3, gup_ne (by omega), gup_ne (by omega), gup_ne (by omega), gup_ne (by omega), gup_ne (by omega), gup_ne (by omega), gup_self]
    by_cases hk4 : k = x + 3 + 1
    · rw [hk4, hu10_4, gup_ne (by omega), gup_ne (by omega), gup_ne (by omega), gup_ne (by omega), gup_ne (by omega), gup_self]
    by_cases hk5 : k = x + 3 + 2
    · rw [hk5, hu10_5, gup_ne (by omega), gup_ne (by omega), gup_ne (by omega), gup_ne (by omega), gup_self]
    by_cases hk6 : k = x + 6
    · rw [hk6, hu10_6, gup_ne (by omega), gup_ne (by omega), gup_ne (by omega), gup_self]
    by_cases hk7 : k = x + 6 + 1
    · rw [hk7, hu10_7, gup_ne (by omega), gup_ne (by omega), gup_self]
    by_cases hk8 : k = x + 6 + 2
    · rw [hk8, hu10_8, gup_ne (by omega), gup_self]
    by_cases hk9 : k = x + 6 + 3
    · rw [hk9, hu10_9, gup_self]
    rw [hu10, gup_ne hk0]
    rw [hui9, gup_ne hk9, gup_ne hk8, gup_ne hk7, gup_ne hk6]
    rw [hu8, gup_ne hk6]
    rw [hu7, gup_ne hk0]
    rw [hui6, gup_ne hk5, gup_ne hk4, gup_ne hk3]
    rw [hu5, gup_ne hk3]
    rw [hu4, gup_ne hk0]
    rw [hu3, gup_ne hk2]
    rw [hu2, gup_ne hk0]
    rw [hu1, gup_ne hk1]
    rw [gup_ne hk9, gup_ne hk8, gup_ne hk7, gup_ne hk6, gup_ne hk5, gup_ne hk4, gup_ne hk3, gup_ne hk2, gup_ne hk1, gup_ne hk0]
  exact g_vret C hR hret ⟨rfl, hfin11, rfl⟩ d_X_init_43
end
section
def cutA (a : Int64) (w : Nat → Int64) (s0 : Nat) (p : Nat → Int64) : Nat → Int64 := (handS w s0 (mapL p (cutG a w) 12) (wantS a (cutG a w) 12) 12).1
def cutB (a : Int64) (w : Nat → Int64) (s0 : Nat) (p : Nat → Int64) : Nat := (handS w s0 (mapL p (cutG a w) 12) (wantS a (cutG a w) 12) 12).2.2
theorem cutB_lt {a : Int64} {w : Nat → Int64} {s0 : Nat} {p : Nat → Int64} (h : s0 < 12) : cutB a w s0 p < 12 := handS_lt h 12

theorem k_X_cut2 (l : Launch) (X : gX) (ad : Nat → Nat) (u : gW) (sz : Nat) (a : Int64) (n q s0 : Nat) (w p : Nat → Int64) (hn : u n = some (.inl ((X.2 1), 12, .inr (.inl w)))) (hq : u q = some (.inl ((X.2 1), 12, .inr (.inl p)))) (hnq : n ≠ q) (hs0 : s0 < 12) : gMet l (EE X) y_X_cut c_X_cut 12 (some .int) ({ frames := 1, cells := 0, slots := 0, locals := 34 }) [.long a, .ref (ad n), .int (nI s0), .ref (ad q)] ad u sz (fun v u' sz' => v = some (.int (nI (cutB a w s0 p))) ∧ u' = gup u q (.inl ((X.2 1), 12, .inr (.inl (cutA a w s0 p)))) ∧ sz' = sz) := k_X_cut l X ad u sz a n q s0 w p hn hq hnq hs0

def totS (ce ra : Int32) : Int64 := ((ce.toInt64 * ra.toInt64) + 500000) / 1000000
def driG (t : Int64) (wt sh : Nat → Int64) : Nat → Int64 := fun j => 1000 * sh j - por (1000 * t) (wt j) (sumL wt 12)
set_option maxHeartbeats 4000000 in
set_option maxRecDepth 100000 in
/-- Draft.toBill -/
theorem k_D_toBill (l : Launch) (X : gX) (ad : Nat → Nat) (u : gW) (sz : Nat) (d b e mk : Nat) (py wt : Nat → Int64) (cv r0 r1 r2 : Value) (way ce ra lc mc go : Int32) (hd : u d = some (.inr (2, [.ref (ad (d + 1)), .ref (ad (d + 2)), cv, .int way, .int ce, .int ra, .int lc]))) (hd1 : u (d + 1) = some (.inl ((X.2 1), 12, .inr (.inl py)))) (hd2 : u (d + 2) = some (.inl ((X.2 1), 12, .inr (.inl wt)))) (hb : u b = some (.inr (1, [r0, r1, r2, .int mc, .int go, .int (nI mk)]))) (hmk : mk < 12) (hdb : d + 16 ≤ b) (hbe : b + 16 ≤ e) (hf0 : u e = none) (ha0 : ad e = sz) (hf1 : u (e + 1) = none) (ha1 : ad (e + 1) = sz + 1) (hf2 : u (e + 2) = none) (ha2 : ad (e + 2) = sz + 2) (hf3 : u (e + 3) = none) (ha3 : ad (e + 3) = sz + 3) : gMet l (EE X) y_D_toBill c_D_toBill 8 (some (.object "ExpenseClubs$Bill")) ({ frames := 2, cells := 4, slots := 42, locals := 65 }) [.ref (ad d), .ref (ad b)] ad u sz (fun v u' sz' => v = some (.ref (ad e)) ∧ u' = gup (gup (gup (gup (gup u e (.inr (0, [.ref (ad b), .long (totS ce ra), .ref (ad (e + 1)), .ref (ad (e + 2)), .ref (ad (e + 3)), .int 0]))) (e + 1) (.inl ((X.2 1), 12, .inr (.inl (cutA (totS ce ra) py 0 (fun _ => 0)))))) (e + 2) (.inl ((X.2 1), 12, .inr (.inl (cutA (totS ce ra) wt mk (fun _ => 0)))))) (e + 3) (.inl ((X.2 1), 12, .inr (.inl (mapL (fun _ => 0) (driG (totS ce ra) wt (cutA (totS ce ra) wt mk (fun _ => 0))) 12))))) b (.inr (1, [r0, r1, r2, .int mc, .int go, .int (nI (cutB (totS ce ra) wt mk (fun _ => 0)))])) ∧ sz' = sz + 4) := by
  refine gMet_of "ExpenseClubs$Draft" rfl (by decide) (Nat.le_of_ble_eq_true rfl) (lv := [(0, .ref (ad d)), (1, .ref (ad b))]) rfl (fun Z hZl C hR hret hname => ?_)
  refine g_new (ci := 0) (fs := [.null, .long 0, .null, .null, .null, .int 0]) e C hf0 ha0 rfl i_B t_B t_B_ok (gmem wd_274 rfl) (gmem wd_275 rfl) (gmem wd_8 rfl) (fun j hj => by rcases (show j = 0 ∨ j = 1 ∨ j = 2 ∨ j = 3 ∨ j = 4 ∨ j = 5 by omega) with rfl | rfl | rfl | rfl | rfl | rfl <;> rfl) (Nat.le_of_ble_eq_true rfl) (Nat.le_of_ble_eq_true rfl) d_D_toBill_0 ?_
  obtain ⟨u1, hu1⟩ : ∃ z, z = gup u e (.inr (0, [.null, .long 0, .null, .null, .null, .int 0])) := ⟨_, rfl⟩
  rw [← hu1]
  have hu1_0 : u1 d = some (.inr (2, [.ref (ad (d + 1)), .ref (ad (d + 2)), cv, .int way, .int ce, .int ra, .int lc])) := by rw [hu1, gup_ne (by omega)]; exact hd
  have hu1_1 : u1 (d + 1) = some (.inl ((X.2 1), 12, .inr (.inl py))) := by rw [hu1, gup_ne (by omega)]; exact hd1
  have hu1_2 : u1 (d + 2) = some (.inl ((X.2 1), 12, .inr (.inl wt))) := by rw [hu1, gup_ne (by omega)]; exact hd2
  have hu1_3 : u1 b = some (.inr (1, [r0, r1, r2, .int mc, .int go, .int (nI mk)])) := by rw [hu1, gup_ne (by omega)]; exact hb
  have hu1_4 : u1 e = some (.inr (0, [.null, .long 0, .null, .null, .null, .int 0])) := by rw [hu1]; exact gup_self _ _ _
  have hu1_f1 : u1 (e + 1) = none := by rw [hu1, gup_ne (by omega)]; exact hf1
  have hu1_f2 : u1 (e + 2) = none := by rw [hu1, gup_ne (by omega)]; exact hf2
  have hu1_f3 : u1 (e + 3) = none := by rw [hu1, gup_ne (by omega)]; exact hf3
  show GW Z _ _ _ ad u1 (sz + 1) [(0, .ref (ad d)), (1, .ref (ad b))] 1 6 3 [.ref (ad e)]
  refine g_dup C d_D_toBill_3 rfl ?_
  refine g_aload_n C d_D_toBill_4 rfl 1 rfl ?_
  refine g_aload_n C d_D_toBill_5 rfl 0 rfl ?_
  refine g_get d 4 C hu1_0 rfl i_D (by decide) (gmem wd_41 rfl) rfl rfl d_D_toBill_6 ?_
  refine g_i2l C d_D_toBill_9 ?_
  refine g_aload_n C d_D_toBill_10 rfl 0 rfl ?_
  refine g_get d 5 C hu1_0 rfl i_D (by decide) (gmem wd_42 rfl) rfl rfl d_D_toBill_11 ?_
  refine g_i2l C d_D_toBill_14 ?_
  refine g_lmul C d_D_toBill_15 ?_
  refine g_ldc2 C (gmem wd_276 rfl) d_D_toBill_16 ?_
  refine g_ladd C d_D_toBill_19 ?_
  refine g_ldc2 C (gmem wd_277 rfl) d_D_toBill_20 ?_
  refine g_ldiv C d_D_toBill_23 (by decide) ?_
  rw [show (((Int32.toInt64 ce) * (Int32.toInt64 ra)) + 500000) / 1000000 = totS ce ra from rfl]
  refine g_callI 2 C (k_B_init _ X ad u1 (sz + 1) e b (totS ce ra) hu1_4 hu1_f1 ha1 hu1_f2 ha2 hu1_f3 ha3) (gmem wd_280 rfl) (gmem wd_8 rfl) (gmem wd_278 rfl) (gmem wd_279 rfl) rfl ⟨by decide, by decide, by decide +kernel⟩ ⟨Nat.le_of_ble_eq_true rfl, Nat.le_of_ble_eq_true rfl⟩ rfl rfl (Nat.le_of_ble_eq_true rfl) d_D_toBill_24 ⟨Nat.le_of_ble_eq_true rfl, Nat.le_of_ble_eq_true rfl⟩ ?_
  rintro v9 ui2 s9 ⟨h9, hui2, hs9⟩; rw [h9, hs9]; clear h9 hs9 v9 s9
  have hui2_0 : ui2 d = some (.inr (2, [.ref (ad (d + 1)), .ref (ad (d + 2)), cv, .int way, .int ce, .int ra, .int lc])) := by rw [hui2, gup_ne (by omega), gup_ne (by omega), gup_ne (by omega), gup_ne (by omega)]; exact hu1_0
  have hui2_1 : ui2 (d + 1) = some (.inl ((X.2 1), 12, .inr (.inl py))) := by rw [hui2, gup_ne (by omega), gup_ne (by omega), gup_ne (by omega), gup_ne (by omega)]; exact hu1_1
  have hui2_2 : ui2 (d + 2) = some (.inl ((X.2 1), 12, .inr (.inl wt))) := by rw [hui2, gup_ne (by omega), gup_ne (by omega), gup_ne (by omega), gup_ne (by omega)]; exact hu1_2
  have hui2_3 : ui2 b = some (.inr (1, [r0, r1, r2, .int mc, .int go, .int (nI mk)])) := by rw [hui2, gup_ne (by omega), gup_ne (by omega), gup_ne (by omega), gup_ne (by omega)]; exact hu1_3
  have hui2_4 : ui2 e = some (.inr (0, [.ref (ad b), .long (totS ce ra), .ref (ad (e + 1)), .ref (ad (e + 2)), .ref (ad (e + 3)), .int 0])) := by rw [hui2, gup_ne (by omega), gup_ne (by omega), gup_ne (by omega), gup_self]
  have hui2_5 : ui2 (e + 1) = some (.inl ((X.2 1), 12, .inr (.inl (fun _ => 0)))) := by rw [hui2, gup_ne (by omega), gup_ne (by omega), gup_self]
  have hui2_6 : ui2 (e + 2) = some (.inl ((X.2 1), 12, .inr (.inl (fun _ => 0)))) := by rw [hui2, gup_ne (by omega), gup_self]
  have hui2_7 : ui2 (e + 3) = some (.inl ((X.2 1), 12, .inr (.inl (fun _ => 0)))) := by rw [hui2, gup_self]
  show GW Z _ _ _ ad ui2 (sz + 4) [(0, .ref (ad d)), (1, .ref (ad b))] 4 42 27 [.ref (ad e)]
  refine g_astore_n C d_D_toBill_27 rfl [(2, .ref (ad e)), (0, .ref (ad d)), (1, .ref (ad b))] (by decide) rfl ?_
  refine g_aload_n C d_D_toBill_28 rfl 0 rfl ?_
  refine g_get e 1 C hui2_4 rfl i_B (by decide) (gmem wd_285 rfl) rfl rfl d_D_toBill_29 ?_
  refine g_aload_n C d_D_toBill_32 rfl 1 rfl ?_
  refine g_get d 0 C hui2_0 rfl i_D (by decide) (gmem wd_33 rfl) rfl rfl d_D_toBill_33 ?_
  refine g_iconst (v := 0) C d_D_toBill_36 (by decide) ?_
  refine g_aload_n C d_D_toBill_37 rfl 0 rfl ?_
  refine g_get e 2 C hui2_4 rfl i_B (by decide) (gmem wd_289 rfl) rfl rfl d_D_toBill_38 ?_
  refine g_callSN 4 C (k_X_cut2 _ X ad ui2 (sz + 4) (totS ce ra) (d + 1) (e + 1) 0 py (fun _ => 0) hui2_1 hui2_5 (by omega) (by decide)) (gmem wd_315 rfl) (gmem wd_1 rfl) (List.mem_of_getElem? (i := 5) rfl) (gmem wd_314 rfl) ⟨by decide, by decide, by decide +kernel⟩ ⟨Nat.le_of_ble_eq_true rfl, Nat.le_of_ble_eq_true rfl⟩ rfl rfl (Nat.le_of_ble_eq_true rfl) d_D_toBill_41 ⟨Nat.le_of_ble_eq_true rfl, Nat.le_of_ble_eq_true rfl⟩ ?_
  rintro v9 ui3 s9 ⟨h9, hui3, hs9⟩; rw [h9, hs9]; clear h9 hs9 v9 s9
  have hui3_0 : ui3 d = some (.inr (2, [.ref (ad (d + 1)), .ref (ad (d + 2)), cv, .int way, .int ce, .int ra, .int lc])) := by rw [hui3, gup_ne (by omega)]; exact hui2_0
  have hui3_1 : ui3 (d + 1) = some (.inl ((X.2 1), 12, .inr (.inl py))) := by rw [hui3, gup_ne (by omega)]; exact hui2_1
  have hui3_2 : ui3 (d + 2) = some (.inl ((X.2 1), 12, .inr (.inl wt))) := by rw [hui3, gup_ne (by omega)]; exact hui2_2
  have hui3_3 : ui3 b = some (.inr (1, [r0, r1, r2, .int mc, .int go, .int (nI mk)])) := by rw [hui3, gup_ne (by omega)]; exact hui2_3
  have hui3_4 : ui3 e = some (.inr (0, [.ref (ad b), .long (totS ce ra), .ref (ad (e + 1)), .ref (ad (e + 2)), .ref (ad (e + 3)), .int 0])) := by rw [hui3, gup_ne (by omega)]; exact hui2_4
  have hui3_5 : ui3 (e + 1) = some (.inl ((X.2 1), 12, .inr (.inl (cutA (totS ce ra) py 0 (fun _ => 0))))) := by rw [hui3, gup_self]
  have hui3_6 : ui3 (e + 2) = some (.inl ((X.2 1), 12, .inr (.inl (fun _ => 0)))) := by rw [hui3, gup_ne (by omega)]; exact hui2_6
  have hui3_7 : ui3 (e + 3) = some (.inl ((X.2 1), 12, .inr (.inl (fun _ => 0)))) := by rw [hui3, gup_ne (by omega)]; exact hui2_7
  show GW Z _ _ _ ad ui3 (sz + 4) [(2, .ref (ad e)), (0, .ref (ad d)), (1, .ref (ad b))] 4 42 44 [.int (nI (cutB (totS ce ra) py 0 (fun _ => 0)))]
  refine g_pop C d_D_toBill_44 rfl ?_
  refine g_aload_n C d_D_toBill_45 rfl 2 rfl ?_
  refine g_aload_n C d_D_toBill_46 rfl 0 rfl ?_
  refine g_get e 1 C hui3_4 rfl i_B (by decide) (gmem wd_285 rfl) rfl rfl d_D_toBill_47 ?_
  refine g_aload_n C d_D_toBill_50 rfl 1 rfl ?_
  refine g_get d 1 C hui3_0 rfl i_D (by decide) (gmem wd_35 rfl) rfl rfl d_D_toBill_51 ?_
  refine g_aload_n C d_D_toBill_54 rfl 2 rfl ?_
  refine g_get b 5 C hui3_3 rfl i_C (by decide) (gmem wd_170 rfl) rfl rfl d_D_toBill_55 ?_
  refine g_aload_n C d_D_toBill_58 rfl 0 rfl ?_
  refine g_get e 3 C hui3_4 rfl i_B (by decide) (gmem wd_293 rfl) rfl rfl d_D_toBill_59 ?_
  refine g_callSN 4 C (k_X_cut2 _ X ad ui3 (sz + 4) (totS ce ra) (d + 2) (e + 2) mk wt (fun _ => 0) hui3_2 hui3_6 (by omega) hmk) (gmem wd_315 rfl) (gmem wd_1 rfl) (List.mem_of_getElem? (i := 5) rfl) (gmem wd_314 rfl) ⟨by decide, by decide, by decide +kernel⟩ ⟨Nat.le_of_ble_eq_true rfl, Nat.le_of_ble_eq_true rfl⟩ rfl rfl (Nat.le_of_ble_eq_true rfl) d_D_toBill_62 ⟨Nat.le_of_ble_eq_true rfl, Nat.le_of_ble_eq_true rfl⟩ ?_
  rintro v9 ui4 s9 ⟨h9, hui4, hs9⟩; rw [h9, hs9]; clear h9 hs9 v9 s9
  have hui4_0 : ui4 d = some (.inr (2, [.ref (ad (d + 1)), .ref (ad (d + 2)), cv, .int way, .int ce, .int ra, .int lc])) := by rw [hui4, gup_ne (by omega)]; exact hui3_0
  have hui4_1 : ui4 (d + 1) = some (.inl ((X.2 1), 12, .inr (.inl py))) := by rw [hui4, gup_ne (by omega)]; exact hui3_1
  have hui4_2 : ui4 (d + 2) = some (.inl ((X.2 1), 12, .inr (.inl wt))) := by rw [hui4, gup_ne (by omega)]; exact hui3_2
  have hui4_3 : ui4 b = some (.inr (1, [r0, r1, r2, .int mc, .int go, .int (nI mk)])) := by rw [hui4, gup_ne (by omega)]; exact hui3_3
  have hui4_4 : ui4 e = some (.inr (0, [.ref (ad b), .long (totS ce ra), .ref (ad (e + 1)), .ref (ad (e + 2)), .ref (ad (e + 3)), .int 0])) := by rw [hui4, gup_ne (by omega)]; exact hui3_4
  have hui4_5 : ui4 (e + 1) = some (.inl ((X.2 1), 12, .inr (.inl (cutA (totS ce ra) py 0 (fun _ => 0))))) := by rw [hui4, gup_ne (by omega)]; exact hui3_5
  have hui4_6 : ui4 (e + 2) = some (.inl ((X.2 1), 12, .inr (.inl (cutA (totS ce ra) wt mk (fun _ => 0))))) := by rw [hui4, gup_self]
  have hui4_7 : ui4 (e + 3) = some (.inl ((X.2 1), 12, .inr (.inl (fun _ => 0)))) := by rw [hui4, gup_ne (by omega)]; exact hui3_7
  show GW Z _ _ _ ad ui4 (sz + 4) [(2, .ref (ad e)), (0, .ref (ad d)), (1, .ref (ad b))] 4 42 65 [.int (nI (cutB (totS ce ra) wt mk (fun _ => 0))), .ref (ad b)]
  refine g_put b 5 C hui4_3 rfl i_C t_C t_C_ok n_C (by decide) (gmem wd_170 rfl) rfl rfl rfl rfl (Nat.le_of_ble_eq_true rfl) d_D_toBill_65 ?_
  show GW Z _ _ _ ad (gup ui4 b (.inr (1, [r0, r1, r2, .int mc, .int go, .int (nI (cutB (totS ce ra) wt mk (fun _ => 0)))]))) _ _ _ _ _ _
  obtain ⟨u5, hu5⟩ : ∃ z, z = gup ui4 b (.inr (1, [r0, r1, r2, .int mc, .int go, .int (nI (cutB (totS ce ra) wt mk (fun _ => 0)))])) := ⟨_, rfl⟩
  rw [← hu5]
  have hu5_0 : u5 d = some (.inr (2, [.ref (ad (d + 1)), .ref (ad (d + 2)), cv, .int way, .int ce, .int ra, .int lc])) := by rw [hu5, gup_ne (by omega)]; exact hui4_0
  have hu5_1 : u5 (d + 1) = some (.inl ((X.2 1), 12, .inr (.inl py))) := by rw [hu5, gup_ne (by omega)]; exact hui4_1
  have hu5_2 : u5 (d + 2) = some (.inl ((X.2 1), 12, .inr (.inl wt))) := by rw [hu5, gup_ne (by omega)]; exact hui4_2
  have hu5_3 : u5 b = some (.inr (1, [r0, r1, r2, .int mc, .int go, .int (nI (cutB (totS ce ra) wt mk (fun _ => 0)))])) := by rw [hu5]; exact gup_self _ _ _
  have hu5_4 : u5 e = some (.inr (0, [.ref (ad b), .long (totS ce ra), .ref (ad (e + 1)), .ref (ad (e + 2)), .ref (ad (e + 3)), .int 0])) := by rw [hu5, gup_ne (by omega)]; exact hui4_4
  have hu5_5 : u5 (e + 1) = some (.inl ((X.2 1), 12, .inr (.inl (cutA (totS ce ra) py 0 (fun _ => 0))))) := by rw [hu5, gup_ne (by omega)]; exact hui4_5
  have hu5_6 : u5 (e + 2) = some (.inl ((X.2 1), 12, .inr (.inl (cutA (totS ce ra) wt mk (fun _ => 0))))) := by rw [hu5, gup_ne (by omega)]; exact hui4_6
  have hu5_7 : u5 (e + 3) = some (.inl ((X.2 1), 12, .inr (.inl (fun _ => 0)))) := by rw [hu5, gup_ne (by omega)]; exact hui4_7
  refine g_aload_n C d_D_toBill_68 rfl 1 rfl ?_
  refine g_get d 1 C hu5_0 rfl i_D (by decide) (gmem wd_35 rfl) rfl rfl d_D_toBill_69 ?_
  refine g_callSN 1 C (k_X_sumOf _ X ad u5 (sz + 4) (d + 2) wt hu5_2) (gmem wd_263 rfl) (gmem wd_1 rfl) (List.mem_of_getElem? (i := 4) rfl) (gmem wd_262 rfl) ⟨by decide, by decide, by decide +kernel⟩ ⟨Nat.le_of_ble_eq_true rfl, Nat.le_of_ble_eq_true rfl⟩ rfl rfl (Nat.le_of_ble_eq_true rfl) d_D_toBill_72 ⟨Nat.le_of_ble_eq_true rfl, Nat.le_of_ble_eq_true rfl⟩ ?_
  rintro v9 u9 s9 ⟨h9, hu9, hs9⟩; rw [h9, hu9, hs9]; clear h9 hu9 hs9 v9 u9 s9
  show GW Z _ _ _ ad u5 (sz + 4) [(2, .ref (ad e)), (0, .ref (ad d)), (1, .ref (ad b))] 4 42 75 [.long (sumL wt 12)]
  refine g_topl (fun x75 ex75 => ?_)
  refine g_lstore_n C d_D_toBill_75 rfl [(3, .long x75), (2, .ref (ad e)), (0, .ref (ad d)), (1, .ref (ad b))] (by decide) rfl ?_
  refine g_iconst (v := 0) C d_D_toBill_76 (by decide) ?_
  refine g_istore C d_D_toBill_77 [(5, .int 0), (3, .long x75), (2, .ref (ad e)), (0, .ref (ad d)), (1, .ref (ad b))] (by decide) rfl ?_
  refine g_fewer (lv' := [(0, .ref (ad d)), (2, .ref (ad e)), (3, .long x75), (5, .int 0)]) [3, 2, 1, 0] rfl ?_
  refine GW_eq (u2 := gup u5 (e + 3) (.inl ((X.2 1), 12, .inr (.inl (mapL (fun _ => 0) (driG (totS ce ra) wt (cutA (totS ce ra) wt mk (fun _ => 0))) 0))))) (lv2 := [(0, .ref (ad d)), (2, .ref (ad e)), (3, .long (sumL wt 12)), (5, .int (nI 0))]) (by rw [mapL_0, gup_id hu5_7]) (by simp only [ex75]; rfl) ?_
  refine g_loop 12 (fun iL8 => True) (fun iL8 => gup u5 (e + 3) (.inl ((X.2 1), 12, .inr (.inl (mapL (fun _ => 0) (driG (totS ce ra) wt (cutA (totS ce ra) wt mk (fun _ => 0))) iL8))))) (fun iL8 => [(0, .ref (ad d)), (2, .ref (ad e)), (3, .long (sumL wt 12)), (5, .int (nI iL8))]) (fun iL8 hiL8 piL8 KL8 => ?_) (fun piL8 => ?_) 0 (by omega) trivial
  · skip
    show GW Z _ _ _ ad (gup u5 (e + 3) (.inl ((X.2 1), 12, .inr (.inl (mapL (fun _ => 0) (driG (totS ce ra) wt (cutA (totS ce ra) wt mk (fun _ => 0))) iL8))))) _ [(0, .ref (ad d)), (2, .ref (ad e)), (3, .long (sumL wt 12)), (5, .int (nI iL8))] _ _ 79 []
    obtain ⟨wL8s, hwL8s⟩ : ∃ z, z = gup u5 (e + 3) (.inl ((X.2 1), 12, .inr (.inl (mapL (fun _ => 0) (driG (totS ce ra) wt (cutA (totS ce ra) wt mk (fun _ => 0))) iL8)))) := ⟨_, rfl⟩
    rw [← hwL8s]
    have hwL8s_0 : wL8s d = some (.inr (2, [.ref (ad (d + 1)), .ref (ad (d + 2)), cv, .int way, .int ce, .int ra, .int lc])) := by rw [hwL8s, gup_ne (by omega)]; exact hu5_0
    have hwL8s_1 : wL8s (d + 1) = some (.inl ((X.2 1), 12, .inr (.inl py))) := by rw [hwL8s, gup_ne (by omega)]; exact hu5_1
    have hwL8s_2 : wL8s (d + 2) = some (.inl ((X.2 1), 12, .inr (.inl wt))) := by rw [hwL8s, gup_ne (by omega)]; exact hu5_2
    have hwL8s_3 : wL8s b = some (.inr (1, [r0, r1, r2, .int mc, .int go, .int (nI (cutB (totS ce ra) wt mk (fun _ => 0)))])) := by rw [hwL8s, gup_ne (by omega)]; exact hu5_3
    have hwL8s_4 : wL8s e = some (.inr (0, [.ref (ad b), .long (totS ce ra), .ref (ad (e + 1)), .ref (ad (e + 2)), .ref (ad (e + 3)), .int 0])) := by rw [hwL8s, gup_ne (by omega)]; exact hu5_4
    have hwL8s_5 : wL8s (e + 1) = some (.inl ((X.2 1), 12, .inr (.inl (cutA (totS ce ra) py 0 (fun _ => 0))))) := by rw [hwL8s, gup_ne (by omega)]; exact hu5_5
    have hwL8s_6 : wL8s (e + 2) = some (.inl ((X.2 1), 12, .inr (.inl (cutA (totS ce ra) wt mk (fun _ => 0))))) := by rw [hwL8s, gup_ne (by omega)]; exact hu5_6
    have hwL8s_7 : wL8s (e + 3) = some (.inl ((X.2 1), 12, .inr (.inl (mapL (fun _ => 0) (driG (totS ce ra) wt (cutA (totS ce ra) wt mk (fun _ => 0))) iL8)))) := by rw [hwL8s, gup_self]
    refine g_iload C d_D_toBill_79 3 rfl ?_
    refine g_bipush (v := 12) C d_D_toBill_81 (by decide) ?_
    refine g_icmp_ge 134 C d_D_toBill_83 (by decide) (fun c8s83 => ?_) (fun c8s83 => ?_)
    · exact absurd c8s83 (ge12 hiL8)
    refine g_ldc2 C (gmem wd_321 rfl) d_D_toBill_86 ?_
    refine g_aload_n C d_D_toBill_89 rfl 1 rfl ?_
    refine g_get e 1 C hwL8s_4 rfl i_B (by decide) (gmem wd_285 rfl) rfl rfl d_D_toBill_90 ?_
    refine g_lmul C d_D_toBill_93 ?_
    refine g_aload_n C d_D_toBill_94 rfl 0 rfl ?_
    refine g_get d 1 C hwL8s_0 rfl i_D (by decide) (gmem wd_35 rfl) rfl rfl d_D_toBill_95 ?_
    refine g_iload C d_D_toBill_98 3 rfl ?_
    refine g_lald (d + 2) 1 C hwL8s_2 rfl (vp_in_nI (by omega) (by decide)) d_D_toBill_100 ?_
    rw [show Int32.toNatClampNeg (nI iL8) = iL8 from nI_clamp (by omega)]
    refine g_lload_n C d_D_toBill_101 rfl 2 rfl ?_
    refine g_callSN 3 C (k_X_portion _ X ad wL8s (sz + 4) (1000 * (totS ce ra)) (wt iL8) (sumL wt 12)) (gmem wd_319 rfl) (gmem wd_1 rfl) (List.mem_of_getElem? (i := 6) rfl) (gmem wd_318 rfl) ⟨by decide, by decide, by decide +kernel⟩ ⟨Nat.le_of_ble_eq_true rfl, Nat.le_of_ble_eq_true rfl⟩ rfl rfl (Nat.le_of_ble_eq_true rfl) d_D_toBill_102 ⟨Nat.le_of_ble_eq_true rfl, Nat.le_of_ble_eq_true rfl⟩ ?_
    rintro v9 u9 s9 ⟨h9, hu9, hs9⟩; rw [h9, hu9, hs9]; clear h9 hu9 hs9 v9 u9 s9
    show GW Z _ _ _ ad wL8s (sz + 4) [(0, .ref (ad d)), (2, .ref (ad e)), (3, .long (sumL wt 12)), (5, .int (nI iL8))] 4 42 105 [.long (por (1000 * (totS ce ra)) (wt iL8) (sumL wt 12))]
    refine g_topl (fun x8s105 ex8s105 => ?_)
    refine g_lstore C d_D_toBill_105 [(6, .long x8s105), (0, .ref (ad d)), (2, .ref (ad e)), (3, .long (sumL wt 12)), (5, .int (nI iL8))] (by decide) rfl ?_
    refine g_aload_n C d_D_toBill_107 rfl 2 rfl ?_
    refine g_get e 4 C hwL8s_4 rfl i_B (by decide) (gmem wd_297 rfl) rfl rfl d_D_toBill_108 ?_
    refine g_iload C d_D_toBill_111 4 rfl ?_
    refine g_ldc2 C (gmem wd_321 rfl) d_D_toBill_113 ?_
    refine g_aload_n C d_D_toBill_116 rfl 2 rfl ?_
    refine g_get e 3 C hwL8s_4 rfl i_B (by decide) (gmem wd_293 rfl) rfl rfl d_D_toBill_117 ?_
    refine g_iload C d_D_toBill_120 4 rfl ?_
    refine g_lald (e + 2) 1 C hwL8s_6 rfl (vp_in_nI (by omega) (by decide)) d_D_toBill_122 ?_
    rw [show Int32.toNatClampNeg (nI iL8) = iL8 from nI_clamp (by omega)]
    refine g_lmul C d_D_toBill_123 ?_
    refine g_lload C d_D_toBill_124 0 rfl ?_
    refine g_lsub C d_D_toBill_126 ?_
    refine g_topl (fun x8s127 ex8s127 => ?_)
    refine g_last (e + 3) 1 C hwL8s_7 rfl (vp_in_nI (by omega) (by decide)) d_D_toBill_127 ?_
    rw [show Int32.toNatClampNeg (nI iL8) = iL8 from nI_clamp (by omega)]
    obtain ⟨u8s6, hu8s6⟩ : ∃ z, z = gup wL8s (e + 3) (.inl ((X.2 1), 12, .inr (.inl (vp_updL (mapL (fun _ => 0) (driG (totS ce ra) wt (cutA (totS ce ra) wt mk (fun _ => 0))) iL8) iL8 x8s127)))) := ⟨_, rfl⟩
    rw [← hu8s6]
    have hu8s6_0 : u8s6 d = some (.inr (2, [.ref (ad (d + 1)), .ref (ad (d + 2)), cv, .int way, .int ce, .int ra, .int lc])) := by rw [hu8s6, gup_ne (by omega)]; exact hwL8s_0
    have hu8s6_1 : u8s6 (d + 1) = some (.inl ((X.2 1), 12, .inr (.inl py))) := by rw [hu8s6, gup_ne (by omega)]; exact hwL8s_1
    have hu8s6_2 : u8s6 (d + 2) = some (.inl ((X.2 1), 12, .inr (.inl wt))) := by rw [hu8s6, gup_ne (by omega)]; exact hwL8s_2
    have hu8s6_3 : u8s6 b = some (.inr (1, [r0, r1, r2, .int mc, .int go, .int (nI (cutB (totS ce ra) wt mk (fun _ => 0)))])) := by rw [hu8s6, gup_ne (by omega)]; exact hwL8s_3
    have hu8s6_4 : u8s6 e = some (.inr (0, [.ref (ad b), .long (totS ce ra), .ref (ad (e + 1)), .ref (ad (e + 2)), .ref (ad (e + 3)), .int 0])) := by rw [hu8s6, gup_ne (by omega)]; exact hwL8s_4
    have hu8s6_5 : u8s6 (e + 1) = some (.inl ((X.2 1), 12, .inr (.inl (cutA (totS ce ra) py 0 (fun _ => 0))))) := by rw [hu8s6, gup_ne (by omega)]; exact hwL8s_5
    have hu8s6_6 : u8s6 (e + 2) = some (.inl ((X.2 1), 12, .inr (.inl (cutA (totS ce ra) wt mk (fun _ => 0))))) := by rw [hu8s6, gup_ne (by omega)]; exact hwL8s_6
    have hu8s6_7 : u8s6 (e + 3) = some (.inl ((X.2 1), 12, .inr (.inl (vp_updL (mapL (fun _ => 0) (driG (totS ce ra) wt (cutA (totS ce ra) wt mk (fun _ => 0))) iL8) iL8 x8s127)))) := by rw [hu8s6]; exact gup_self _ _ _
    obtain ⟨x8s128, ex8s128⟩ : ∃ y : Int32, y = (nI iL8) + 1 := ⟨_, rfl⟩
    refine g_iinc (v := x8s128) C d_D_toBill_128 4 rfl (by rw [ex8s128]; rfl) [(5, .int x8s128), (6, .long x8s105), (0, .ref (ad d)), (2, .ref (ad e)), (3, .long (sumL wt 12))] (by decide) rfl ?_
    refine g_goto 79 C d_D_toBill_131 (by decide) ?_
    refine g_fewer (lv' := [(0, .ref (ad d)), (2, .ref (ad e)), (3, .long (sumL wt 12)), (5, .int x8s128)]) [2, 3, 4, 0] rfl ?_
    refine GW_eq (u2 := gup u5 (e + 3) (.inl ((X.2 1), 12, .inr (.inl (mapL (fun _ => 0) (driG (totS ce ra) wt (cutA (totS ce ra) wt mk (fun _ => 0))) (iL8 + 1)))))) (lv2 := [(0, .ref (ad d)), (2, .ref (ad e)), (3, .long (sumL wt 12)), (5, .int (nI (iL8 + 1)))]) ?_ ?_ (KL8 trivial)
    · first | (rw [hu8s6, hwL8s]; done) | (rw [hu8s6, hwL8s]; simp only [ex8s105, ex8s127, ex8s128]; done) | (rw [hu8s6, hwL8s]; simp only [ex8s105, ex8s127, ex8s128]; rw [mapL_s (i := iL8) (x := 1000 * cutA (totS ce ra) wt mk (fun _ => 0) iL8 - por (1000 * totS ce ra) (wt iL8) (sumL wt 12)) (g := driG (totS ce ra) wt (cutA (totS ce ra) wt mk (fun _ => 0))) rfl]; done) | (rw [hu8s6, hwL8s]; simp only [ex8s105, ex8s127, ex8s128]; rw [mapL_s (i := iL8) (x := 1000 * cutA (totS ce ra) wt mk (fun _ => 0) iL8 - por (1000 * totS ce ra) (wt iL8) (sumL wt 12)) (g := driG (totS ce ra) wt (cutA (totS ce ra) wt mk (fun _ => 0))) rfl]; funext k; simp only [gup]; (repeat' split) <;> first | with_reducible rfl | (exfalso; omega) | rfl)
    · first | rfl | simp only [ex8s105, ex8s127, ex8s128, nI_1, nI_0]
  · skip
    show GW Z _ _ _ ad (gup u5 (e + 3) (.inl ((X.2 1), 12, .inr (.inl (mapL (fun _ => 0) (driG (totS ce ra) wt (cutA (totS ce ra) wt mk (fun _ => 0))) 12))))) _ [(0, .ref (ad d)), (2, .ref (ad e)), (3, .long (sumL wt 12)), (5, .int (nI 12))] _ _ 79 []
    obtain ⟨wL8e, hwL8e⟩ : ∃ z, z = gup u5 (e + 3) (.inl ((X.2 1), 12, .inr (.inl (mapL (fun _ => 0) (driG (totS ce ra) wt (cutA (totS ce ra) wt mk (fun _ => 0))) 12)))) := ⟨_, rfl⟩
    rw [← hwL8e]
    have hwL8e_0 : wL8e d = some (.inr (2, [.ref (ad (d + 1)), .ref (ad (d + 2)), cv, .int way, .int ce, .int ra, .int lc])) := by rw [hwL8e, gup_ne (by omega)]; exact hu5_0
    have hwL8e_1 : wL8e (d + 1) = some (.inl ((X.2 1), 12, .inr (.inl py))) := by rw [hwL8e, gup_ne (by omega)]; exact hu5_1
    have hwL8e_2 : wL8e (d + 2) = some (.inl ((X.2 1), 12, .inr (.inl wt))) := by rw [hwL8e, gup_ne (by omega)]; exact hu5_2
    have hwL8e_3 : wL8e b = some (.inr (1, [r0, r1, r2, .int mc, .int go, .int (nI (cutB (totS ce ra) wt mk (fun _ => 0)))])) := by rw [hwL8e, gup_ne (by omega)]; exact hu5_3
    have hwL8e_4 : wL8e e = some (.inr (0, [.ref (ad b), .long (totS ce ra), .ref (ad (e + 1)), .ref (ad (e + 2)), .ref (ad (e + 3)), .int 0])) := by rw [hwL8e, gup_ne (by omega)]; exact hu5_4
    have hwL8e_5 : wL8e (e + 1) = some (.inl ((X.2 1), 12, .inr (.inl (cutA (totS ce ra) py 0 (fun _ => 0))))) := by rw [hwL8e, gup_ne (by omega)]; exact hu5_5
    have hwL8e_6 : wL8e (e + 2) = some (.inl ((X.2 1), 12, .inr (.inl (cutA (totS ce ra) wt mk (fun _ => 0))))) := by rw [hwL8e, gup_ne (by omega)]; exact hu5_6
    have hwL8e_7 : wL8e (e + 3) = some (.inl ((X.2 1), 12, .inr (.inl (mapL (fun _ => 0) (driG (totS ce ra) wt (cutA (totS ce ra) wt mk (fun _ => 0))) 12)))) := by rw [hwL8e, gup_self]
    refine g_iload C d_D_toBill_79 3 rfl ?_
    refine g_bipush (v := 12) C d_D_toBill_81 (by decide) ?_
    refine g_icmp_ge 134 C d_D_toBill_83 (by decide) (fun c8e83 => ?_) (fun c8e83 => ?_)
    rotate_left
    · exact absurd (by decide) c8e83
    refine g_aload_n C d_D_toBill_134 rfl 1 rfl ?_
    have hfin8e7 : wL8e = gup (gup (gup (gup (gup u e (.inr (0, [.ref (ad b), .long (totS ce ra), .ref (ad (e + 1)), .ref (ad (e + 2)), .ref (ad (e + 3)), .int 0]))) (e + 1) (.inl ((X.2 1), 12, .inr (.inl (cutA (totS ce ra) py 0 (fun _ => 0)))))) (e + 2) (.inl ((X.2 1), 12, .inr (.inl (cutA (totS ce ra) wt mk (fun _ => 0)))))) (e + 3) (.inl ((X.2 1), 12, .inr (.inl (mapL (fun _ => 0) (driG (totS ce ra) wt (cutA (totS ce ra) wt mk (fun _ => 0))) 12))))) b (.inr (1, [r0, r1, r2, .int mc, .int go, .int (nI (cutB (totS ce ra) wt mk (fun _ => 0)))])) := by
      funext k
      by_cases hk0 : k = e
      · rw [hk0, hwL8e_4, gup_ne (by omega), gup_ne (by omega), gup_ne (by omega), gup_ne (by omega), gup_self]
      by_cases hk1 : k = e + 1
      · rw [hk1, hwL8e_5, gup_ne (by omega), gup_ne (by omega), gup_ne (by omega), gup_self]
      by_cases hk2 : k = e + 2
      · rw [hk2, hwL8e_6, gup_ne (by omega), gup_ne (by omega), gup_self]
      by_cases hk3 : k = e + 3
      · rw [hk3, hwL8e_7, gup_ne (by omega), gup_self]
      by_cases hk4 : k = b
      · rw [hk4, hwL8e_3, gup_self]
      rw [hwL8e, gup_ne hk3]
      rw [hu5, gup_ne hk4]
      rw [hui4, gup_ne hk2]
      rw [hui3, gup_ne hk1]
      rw [hui2, gup_ne hk3, gup_ne hk2, gup_ne hk1, gup_ne hk0]
      rw [hu1, gup_ne hk0]
      rw [gup_ne hk4, gup_ne hk3, gup_ne hk2, gup_ne hk1, gup_ne hk0]
    exact g_aret C hR hret (Or.inl ⟨_, rfl⟩) (Or.inr ⟨_, rfl⟩) ⟨rfl, hfin8e7, rfl⟩ d_D_toBill_135
end
section
def mO (ad : Nat → Nat) (m : Nat) (th cl dr wy ce ra li bi : Int32) : va_E := .inr (6, [.int th, .int cl, .ref (ad (m + 1)), .ref (ad (m + 2)), .ref (ad (m + 3)), .int dr, .int wy, .int ce, .int ra, .ref (ad (m + 4)), .ref (ad (m + 5)), .int li, .ref (ad (m + 6)), .ref (ad (m + 7)), .ref (ad (m + 8)), .int bi, .ref (ad (m + 9)), .ref (ad (m + 10)), .ref (ad (m + 11)), .ref (ad (m + 12)), .ref (ad (m + 13)), .ref (ad (m + 14)), .ref (ad (m + 15)), .ref (ad (m + 16)), .ref (ad (m + 17)), .ref (ad (m + 18)), .ref (ad (m + 19)), .ref (ad (m + 20)), .ref (ad (m + 21)), .ref (ad (m + 22)), .ref (ad (m + 23)), .ref (ad (m + 24)), .ref (ad (m + 25))])
theorem in4x {x cl : Int32} (h : isMb x cl = true) (hc : cl ≤ 4) : vp_in x 4 := by
  simp only [isMb, Bool.and_eq_true, Bool.not_eq_true', decide_eq_false_iff_not] at h
  rw [vp_in_iff]
  have h0 := h.1
  have h1 := h.2
  rw [Int32.lt_iff_toInt_lt] at h0
  rw [Int32.le_iff_toInt_le] at h1 hc
  have e1 : (0 : Int32).toInt = 0 := by decide
  have e2 : (4 : Int32).toInt = 4 := by decide
  omega
theorem in12m {x k : Int32} (h : isMb x k = true) (hc : k ≤ 12) : vp_in x 12 := by
  simp only [isMb, Bool.and_eq_true, Bool.not_eq_true', decide_eq_false_iff_not] at h
  rw [vp_in_iff]
  have h0 := h.1
  have h1 := h.2
  rw [Int32.lt_iff_toInt_lt] at h0
  rw [Int32.le_iff_toInt_le] at h1 hc
  have e1 : (0 : Int32).toInt = 0 := by decide
  have e2 : (12 : Int32).toInt = 12 := by decide
  omega
theorem vp_nat {x : Int32} {n : Nat} (h : vp_in x n) (hn : n < 2 ^ 31) : ∃ j, j < n ∧ x = nI j ∧ x.toNatClampNeg = j := by
  obtain ⟨j, h1, h2⟩ := vp_in_of h hn
  exact ⟨j, h1, h2, by rw [h2]; exact nI_clamp (by omega)⟩
/-- the place 12 c + m -/
theorem in48 {c m : Int32} (hc : vp_in c 4) (hm : vp_in m 12) : vp_in (12 * c + m) 48 ∧ (12 * c + m).toNatClampNeg = 12 * c.toNatClampNeg + m.toNatClampNeg := by
  obtain ⟨i, h1, h2, h3⟩ := vp_nat hc (by decide)
  obtain ⟨j, g1, g2, g3⟩ := vp_nat hm (by decide)
  have e : 12 * c + m = nI (12 * i + j) := by
    rw [h2, g2, show (12 : Int32) = nI 12 from rfl, pk_mul, nI_add]
  rw [e, h3, g3]
  exact ⟨vp_in_nI (by omega) (by decide), nI_clamp (by omega)⟩
def memM (cl : Int32) (mem : Nat → Int32) (c x : Int32) : Bool := isMb c cl && (!decide (x < 0) && !decide (mem c.toNatClampNeg ≤ x))
def staM (cl dr : Int32) (mem lef : Nat → Int32) (x : Int32) : Bool := !decide (dr = -1) && (memM cl mem dr x && decide (lef (12 * dr.toNatClampNeg + x.toNatClampNeg) = 0))
def withM (v lo hi : Int32) : Bool := !decide (v < lo) && !decide (hi < v)
set_option maxHeartbeats 4000000 in
set_option maxRecDepth 100000 in
theorem k_M_isClub (l : Launch) (X : gX) (ad : Nat → Nat) (u : gW) (sz : Nat) (m : Nat) (th cl dr wy ce ra li bi : Int32) (c : Int32) (hm : u m = some (mO ad m th cl dr wy ce ra li bi))  : gMet l (EE X) y_M_isClub c_M_isClub 2 (some .boolean) ({ frames := 0, cells := 0, slots := 0, locals := 0 }) [.ref (ad m), .int c] ad u sz (fun v u' sz' => v = some (.int (bI (isMb c cl))) ∧ u' = u ∧ sz' = sz) := by
  refine gMet_of "ExpenseClubsModel" rfl (by decide) (Nat.le_of_ble_eq_true rfl) (lv := [(0, .ref (ad m)), (1, .int c)]) rfl (fun Z hZl C hR hret hname => ?_)
  refine g_iload_n C d_M_isClub_0 rfl 1 rfl ?_
  refine g_if_lt 16 C d_M_isClub_1 (by decide) (fun c1 => ?_) (fun c1 => ?_)
  · skip
    refine g_iconst (v := 0) C d_M_isClub_16 (by decide) ?_
    exact g_zret C hR hret rfl ⟨by simp only [isMb, decide_eq_true c1, if_pos c1, Bool.not_true, Bool.not_false, Bool.and_true, Bool.true_and, Bool.false_and, Bool.and_false, bI_t, bI_f], rfl, rfl⟩ d_M_isClub_17
  · skip
    refine g_iload_n C d_M_isClub_4 rfl 1 rfl ?_
    refine g_aload_n C d_M_isClub_5 rfl 0 rfl ?_
    refine g_get m 1 C hm rfl i_M (by decide) (gmem wd_519 rfl) rfl rfl d_M_isClub_6 ?_
    refine g_icmp_ge 16 C d_M_isClub_9 (by decide) (fun c9 => ?_) (fun c9 => ?_)
    · skip
      refine g_iconst (v := 0) C d_M_isClub_16 (by decide) ?_
      exact g_zret C hR hret rfl ⟨by simp only [isMb, decide_eq_false c1, if_neg c1, decide_eq_true c9, if_pos c9, Bool.not_true, Bool.not_false, Bool.and_true, Bool.true_and, Bool.false_and, Bool.and_false, bI_t, bI_f], rfl, rfl⟩ d_M_isClub_17
    · skip
      refine g_iconst (v := 1) C d_M_isClub_12 (by decide) ?_
      refine g_goto 17 C d_M_isClub_13 (by decide) ?_
      exact g_zret C hR hret rfl ⟨by simp only [isMb, decide_eq_false c1, if_neg c1, decide_eq_false c9, if_neg c9, Bool.not_true, Bool.not_false, Bool.and_true, Bool.true_and, Bool.false_and, Bool.and_false, bI_t, bI_f], rfl, rfl⟩ d_M_isClub_17

set_option maxHeartbeats 4000000 in
set_option maxRecDepth 100000 in
theorem k_M_isMember (l : Launch) (X : gX) (ad : Nat → Nat) (u : gW) (sz : Nat) (m : Nat) (th cl dr wy ce ra li bi : Int32) (mem : Nat → Int32) (c x : Int32) (hm : u m = some (mO ad m th cl dr wy ce ra li bi)) (h_mem : u (m + 1) = some (.inl ((X.2 0), 4, .inl mem))) (hcl : cl ≤ 4) : gMet l (EE X) y_M_isMember c_M_isMember 3 (some .boolean) ({ frames := 1, cells := 0, slots := 0, locals := 21 }) [.ref (ad m), .int c, .int x] ad u sz (fun v u' sz' => v = some (.int (bI (memM cl mem c x))) ∧ u' = u ∧ sz' = sz) := by
  refine gMet_of "ExpenseClubsModel" rfl (by decide) (Nat.le_of_ble_eq_true rfl) (lv := [(0, .ref (ad m)), (1, .int c), (2, .int x)]) rfl (fun Z hZl C hR hret hname => ?_)
  refine g_aload_n C d_M_isMember_0 rfl 0 rfl ?_
  refine g_iload_n C d_M_isMember_1 rfl 1 rfl ?_
  refine g_callV 1 C (k_M_isClub _ X ad u sz m th cl dr wy ce ra li bi  c hm ) (gmem wd_630 rfl) (gmem wd_632 rfl) (gmem ws_10 rfl) (gmem wd_4 rfl) (gmem wd_633 rfl) ⟨by decide, by decide, by decide +kernel⟩ ⟨Nat.le_of_ble_eq_true rfl, Nat.le_of_ble_eq_true rfl⟩ hm rfl rfl rfl (Nat.le_of_ble_eq_true rfl) d_M_isMember_2 ⟨Nat.le_of_ble_eq_true rfl, Nat.le_of_ble_eq_true rfl⟩ ?_
  rintro v9 u9 s9 ⟨h9, hu9, hs9⟩; rw [h9, hu9, hs9]; clear h9 hu9 hs9 v9 u9 s9
  show GW Z _ _ _ ad u sz [(0, .ref (ad m)), (1, .int c), (2, .int x)] 0 0 5 [.int (bI (isMb c cl))]
  refine g_if_eq 26 C d_M_isMember_5 (by decide) (fun c5 => ?_) (fun c5 => ?_)
  · skip
    refine g_iconst (v := 0) C d_M_isMember_26 (by decide) ?_
    exact g_zret C hR hret rfl ⟨by simp only [memM, bI_eq0.mp c5, Bool.not_true, Bool.not_false, Bool.and_true, Bool.true_and, Bool.false_and, Bool.and_false, bI_t, bI_f], rfl, rfl⟩ d_M_isMember_27
  · skip
    refine g_iload_n C d_M_isMember_8 rfl 2 rfl ?_
    refine g_if_lt 26 C d_M_isMember_9 (by decide) (fun c9 => ?_) (fun c9 => ?_)
    · skip
      refine g_iconst (v := 0) C d_M_isMember_26 (by decide) ?_
      exact g_zret C hR hret rfl ⟨by simp only [memM, bI_ne0.mp c5, decide_eq_true c9, if_pos c9, Bool.not_true, Bool.not_false, Bool.and_true, Bool.true_and, Bool.false_and, Bool.and_false, bI_t, bI_f], rfl, rfl⟩ d_M_isMember_27
    · skip
      refine g_iload_n C d_M_isMember_12 rfl 2 rfl ?_
      refine g_aload_n C d_M_isMember_13 rfl 0 rfl ?_
      refine g_get m 2 C hm rfl i_M (by decide) (gmem wd_520 rfl) rfl rfl d_M_isMember_14 ?_
      refine g_iload_n C d_M_isMember_17 rfl 1 rfl ?_
      refine g_iald (m + 1) 0 C h_mem rfl (in4x (bI_ne0.mp c5) hcl) d_M_isMember_18 ?_
      refine g_icmp_ge 26 C d_M_isMember_19 (by decide) (fun c19 => ?_) (fun c19 => ?_)
      · skip
        refine g_iconst (v := 0) C d_M_isMember_26 (by decide) ?_
        exact g_zret C hR hret rfl ⟨by simp only [memM, bI_ne0.mp c5, decide_eq_false c9, if_neg c9, decide_eq_true c19, if_pos c19, Bool.not_true, Bool.not_false, Bool.and_true, Bool.true_and, Bool.false_and, Bool.and_false, bI_t, bI_f], rfl, rfl⟩ d_M_isMember_27
      · skip
        refine g_iconst (v := 1) C d_M_isMember_22 (by decide) ?_
        refine g_goto 27 C d_M_isMember_23 (by decide) ?_
        exact g_zret C hR hret rfl ⟨by simp only [memM, bI_ne0.mp c5, decide_eq_false c9, if_neg c9, decide_eq_false c19, if_neg c19, Bool.not_true, Bool.not_false, Bool.and_true, Bool.true_and, Bool.false_and, Bool.and_false, bI_t, bI_f], rfl, rfl⟩ d_M_isMember_27

set_option maxHeartbeats 4000000 in
set_option maxRecDepth 100000 in
theorem k_M_within (l : Launch) (X : gX) (ad : Nat → Nat) (u : gW) (sz : Nat) (v0 lo hi : Int32)   : gMet l (EE X) y_M_within c_M_within 3 (some .boolean) ({ frames := 0, cells := 0, slots := 0, locals := 0 }) [.int v0, .int lo, .int hi] ad u sz (fun v u' sz' => v = some (.int (bI (withM v0 lo hi))) ∧ u' = u ∧ sz' = sz) := by
  refine gMet_of "ExpenseClubsModel" rfl (by decide) (Nat.le_of_ble_eq_true rfl) (lv := [(0, .int v0), (1, .int lo), (2, .int hi)]) rfl (fun Z hZl C hR hret hname => ?_)
  refine g_iload_n C d_M_within_0 rfl 0 rfl ?_
  refine g_iload_n C d_M_within_1 rfl 1 rfl ?_
  refine g_icmp_lt 14 C d_M_within_2 (by decide) (fun c2 => ?_) (fun c2 => ?_)
  · skip
    refine g_iconst (v := 0) C d_M_within_14 (by decide) ?_
    exact g_zret C hR hret rfl ⟨by simp only [withM, decide_eq_true c2, if_pos c2, Bool.not_true, Bool.not_false, Bool.and_true, Bool.true_and, Bool.false_and, Bool.and_false, bI_t, bI_f], rfl, rfl⟩ d_M_within_15
  · skip
    refine g_iload_n C d_M_within_5 rfl 0 rfl ?_
    refine g_iload_n C d_M_within_6 rfl 2 rfl ?_
    refine g_icmp_gt 14 C d_M_within_7 (by decide) (fun c7 => ?_) (fun c7 => ?_)
    · skip
      refine g_iconst (v := 0) C d_M_within_14 (by decide) ?_
      exact g_zret C hR hret rfl ⟨by simp only [withM, decide_eq_false c2, if_neg c2, decide_eq_true c7, if_pos c7, Bool.not_true, Bool.not_false, Bool.and_true, Bool.true_and, Bool.false_and, Bool.and_false, bI_t, bI_f], rfl, rfl⟩ d_M_within_15
    · skip
      refine g_iconst (v := 1) C d_M_within_10 (by decide) ?_
      refine g_goto 15 C d_M_within_11 (by decide) ?_
      exact g_zret C hR hret rfl ⟨by simp only [withM, decide_eq_false c2, if_neg c2, decide_eq_false c7, if_neg c7, Bool.not_true, Bool.not_false, Bool.and_true, Bool.true_and, Bool.false_and, Bool.and_false, bI_t, bI_f], rfl, rfl⟩ d_M_within_15

def parB (a b : Int64) (i : Nat) (r : Int64) : Int64 := 2 * r + (if ¬ (a >>> ((nI (62 - i)).toInt64 &&& 63)) &&& 1 = 1 then 0 else b)
def parS (a b c : Int64) : Nat → Int64 × Int64
  | 0 => (0, 0)
  | i + 1 => (2 * (parS a b c i).1 + parB a b i (parS a b c i).2 / c, parB a b i (parS a b c i).2 - parB a b i (parS a b c i).2 / c * c)
def kIx : Nat → Int32 := fun i => nI 62 - nI i
theorem kIx_nn {i : Nat} (h : i < 63) : ¬ kIx i < 0 := (show ∀ i, i < 63 → ¬ kIx i < 0 by decide +kernel) i h
theorem kIx_s {i : Nat} (h : i < 63) : kIx i + (-1) = kIx (i + 1) := (show ∀ i, i < 63 → kIx i + (-1) = kIx (i + 1) by decide +kernel) i h
theorem kIx_e {i : Nat} (h : i < 63) : kIx i = nI (62 - i) := (show ∀ i, i < 63 → kIx i = nI (62 - i) by decide +kernel) i h
set_option maxHeartbeats 4000000 in
set_option maxRecDepth 100000 in
theorem k_M_part (l : Launch) (X : gX) (ad : Nat → Nat) (u : gW) (sz : Nat) (a b c : Int64)  (hc : ¬ c = 0) : gMet l (EE X) y_M_part c_M_part 11 (some .long) ({ frames := 0, cells := 0, slots := 0, locals := 0 }) [.long a, .long b, .long c] ad u sz (fun v u' sz' => v = some (.long ((parS a b c 63).1)) ∧ u' = u ∧ sz' = sz) := by
  refine gMet_of "ExpenseClubsModel" rfl (by decide) (Nat.le_of_ble_eq_true rfl) (lv := [(0, .long a), (2, .long b), (4, .long c)]) rfl (fun Z hZl C hR hret hname => ?_)
  refine g_lconst (v := 0) C d_M_part_0 (by decide) ?_
  refine g_lstore C d_M_part_1 [(6, .long 0), (0, .long a), (2, .long b), (4, .long c)] (by decide) rfl ?_
  refine g_lconst (v := 0) C d_M_part_3 (by decide) ?_
  refine g_lstore C d_M_part_4 [(8, .long 0), (6, .long 0), (0, .long a), (2, .long b), (4, .long c)] (by decide) rfl ?_
  refine g_bipush (v := 62) C d_M_part_6 (by decide) ?_
  refine g_istore C d_M_part_8 [(10, .int 62), (8, .long 0), (6, .long 0), (0, .long a), (2, .long b), (4, .long c)] (by decide) rfl ?_
  refine g_fewer (lv' := [(0, .long a), (2, .long b), (4, .long c), (6, .long 0), (8, .long 0), (10, .int 62)]) [3, 4, 5, 2, 1, 0] rfl ?_
  refine GW_eq (u2 := u) (lv2 := [(0, .long a), (2, .long b), (4, .long c), (6, .long ((parS a b c 0).1)), (8, .long ((parS a b c 0).2)), (10, .int (kIx 0))]) rfl rfl ?_
  refine g_loop 63 (fun iL1 => True) (fun iL1 => u) (fun iL1 => [(0, .long a), (2, .long b), (4, .long c), (6, .long ((parS a b c iL1).1)), (8, .long ((parS a b c iL1).2)), (10, .int (kIx iL1))]) (fun iL1 hiL1 piL1 KL1 => ?_) (fun piL1 => ?_) 0 (by omega) trivial
  · skip
    show GW Z _ _ _ ad (u) _ [(0, .long a), (2, .long b), (4, .long c), (6, .long ((parS a b c iL1).1)), (8, .long ((parS a b c iL1).2)), (10, .int (kIx iL1))] _ _ 10 []
    obtain ⟨wL1s, hwL1s⟩ : ∃ z, z = u := ⟨_, rfl⟩
    rw [← hwL1s]
    refine g_iload C d_M_part_10 5 rfl ?_
    refine g_if_lt 67 C d_M_part_12 (by decide) (fun c1s12 => ?_) (fun c1s12 => ?_)
    · exact absurd c1s12 (kIx_nn hiL1)
    refine g_ldc2 C (gmem wd_700 rfl) d_M_part_15 ?_
    refine g_lload C d_M_part_18 4 rfl ?_
    refine g_lmul C d_M_part_20 ?_
    refine g_lload_n C d_M_part_21 rfl 0 rfl ?_
    refine g_iload C d_M_part_22 5 rfl ?_
    refine g_lshr C d_M_part_24 ?_
    refine g_lconst (v := 1) C d_M_part_25 (by decide) ?_
    refine g_land C d_M_part_26 ?_
    refine g_lconst (v := 1) C d_M_part_27 (by decide) ?_
    refine g_lcmp C d_M_part_28 ?_
    refine g_if_ne 36 C d_M_part_29 (by decide) (fun c1s29 => ?_) (fun c1s29 => ?_)
    · rw [lg_cmp_eq] at c1s29
      refine g_lconst (v := 0) C d_M_part_36 (by decide) ?_
      refine g_ladd C d_M_part_37 ?_
      refine g_topl (fun x1s38 ex1s38 => ?_)
      refine g_lstore C d_M_part_38 [(8, .long x1s38), (0, .long a), (2, .long b), (4, .long c), (6, .long ((parS a b c iL1).1)), (10, .int (kIx iL1))] (by decide) rfl ?_
      refine g_ldc2 C (gmem wd_700 rfl) d_M_part_40 ?_
      refine g_lload C d_M_part_43 4 rfl ?_
      refine g_lmul C d_M_part_45 ?_
      refine g_lload C d_M_part_46 0 rfl ?_
      refine g_lload C d_M_part_48 3 rfl ?_
      refine g_ldiv C d_M_part_50 hc ?_
      refine g_ladd C d_M_part_51 ?_
      refine g_topl (fun x1s52 ex1s52 => ?_)
      refine g_lstore C d_M_part_52 [(6, .long x1s52), (8, .long x1s38), (0, .long a), (2, .long b), (4, .long c), (10, .int (kIx iL1))] (by decide) rfl ?_
      refine g_lload C d_M_part_54 1 rfl ?_
      refine g_lload C d_M_part_56 4 rfl ?_
      refine g_lrem C d_M_part_58 hc ?_
      refine g_topl (fun x1s59 ex1s59 => ?_)
      refine g_lstore C d_M_part_59 [(8, .long x1s59), (6, .long x1s52), (0, .long a), (2, .long b), (4, .long c), (10, .int (kIx iL1))] (by decide) rfl ?_
      obtain ⟨x1s61, ex1s61⟩ : ∃ y : Int32, y = (kIx iL1) + (-1) := ⟨_, rfl⟩
      refine g_iinc (v := x1s61) C d_M_part_61 5 rfl (by rw [ex1s61]; rfl) [(10, .int x1s61), (8, .long x1s59), (6, .long x1s52), (0, .long a), (2, .long b), (4, .long c)] (by decide) rfl ?_
      refine g_goto 10 C d_M_part_64 (by decide) ?_
      refine g_fewer (lv' := [(0, .long a), (2, .long b), (4, .long c), (6, .long x1s52), (8, .long x1s59), (10, .int x1s61)]) [3, 4, 5, 2, 1, 0] rfl ?_
      refine GW_eq (u2 := u) (lv2 := [(0, .long a), (2, .long b), (4, .long c), (6, .long ((parS a b c (iL1 + 1)).1)), (8, .long ((parS a b c (iL1 + 1)).2)), (10, .int (kIx (iL1 + 1)))]) ?_ ?_ (KL1 trivial)
      · first | (rw [hwL1s]; done) | (rw [hwL1s]; funext k; simp only [gup]; (repeat' split) <;> first | with_reducible rfl | (exfalso; omega) | rfl)
      · rw [kIx_e hiL1] at c1s29; simp only [ex1s38, ex1s52, ex1s59, ex1s61, kIx_s hiL1, parS, parB, if_pos c1s29]
    · rw [lg_cmp_eq] at c1s29
      refine g_lload_n C d_M_part_32 rfl 1 rfl ?_
      refine g_goto 37 C d_M_part_33 (by decide) ?_
      refine g_ladd C d_M_part_37 ?_
      refine g_topl (fun x1s38 ex1s38 => ?_)
      refine g_lstore C d_M_part_38 [(8, .long x1s38), (0, .long a), (2, .long b), (4, .long c), (6, .long ((parS a b c iL1).1)), (10, .int (kIx iL1))] (by decide) rfl ?_
      refine g_ldc2 C (gmem wd_700 rfl) d_M_part_40 ?_
      refine g_lload C d_M_part_43 4 rfl ?_
      refine g_lmul C d_M_part_45 ?_
      refine g_lload C d_M_part_46 0 rfl ?_
      refine g_lload C d_M_part_48 3 rfl ?_
      refine g_ldiv C d_M_part_50 hc ?_
      refine g_ladd C d_M_part_51 ?_
      refine g_topl (fun x1s52 ex1s52 => ?_)
      refine g_lstore C d_M_part_52 [(6, .long x1s52), (8, .long x1s38), (0, .long a), (2, .long b), (4, .long c), (10, .int (kIx iL1))] (by decide) rfl ?_
      refine g_lload C d_M_part_54 1 rfl ?_
      refine g_lload C d_M_part_56 4 rfl ?_
      refine g_lrem C d_M_part_58 hc ?_
      refine g_topl (fun x1s59 ex1s59 => ?_)
      refine g_lstore C d_M_part_59 [(8, .long x1s59), (6, .long x1s52), (0, .long a), (2, .long b), (4, .long c), (10, .int (kIx iL1))] (by decide) rfl ?_
      obtain ⟨x1s61, ex1s61⟩ : ∃ y : Int32, y = (kIx iL1) + (-1) := ⟨_, rfl⟩
      refine g_iinc (v := x1s61) C d_M_part_61 5 rfl (by rw [ex1s61]; rfl) [(10, .int x1s61), (8, .long x1s59), (6, .long x1s52), (0, .long a), (2, .long b), (4, .long c)] (by decide) rfl ?_
      refine g_goto 10 C d_M_part_64 (by decide) ?_
      refine g_fewer (lv' := [(0, .long a), (2, .long b), (4, .long c), (6, .long x1s52), (8, .long x1s59), (10, .int x1s61)]) [3, 4, 5, 2, 1, 0] rfl ?_
      refine GW_eq (u2 := u) (lv2 := [(0, .long a), (2, .long b), (4, .long c), (6, .long ((parS a b c (iL1 + 1)).1)), (8, .long ((parS a b c (iL1 + 1)).2)), (10, .int (kIx (iL1 + 1)))]) ?_ ?_ (KL1 trivial)
      · first | (rw [hwL1s]; done) | (rw [hwL1s]; funext k; simp only [gup]; (repeat' split) <;> first | with_reducible rfl | (exfalso; omega) | rfl)
      · rw [kIx_e hiL1] at c1s29; simp only [ex1s38, ex1s52, ex1s59, ex1s61, kIx_s hiL1, parS, parB, if_neg (not_not_intro c1s29)]
  · skip
    show GW Z _ _ _ ad (u) _ [(0, .long a), (2, .long b), (4, .long c), (6, .long ((parS a b c 63).1)), (8, .long ((parS a b c 63).2)), (10, .int (kIx 63))] _ _ 10 []
    obtain ⟨wL1e, hwL1e⟩ : ∃ z, z = u := ⟨_, rfl⟩
    rw [← hwL1e]
    refine g_iload C d_M_part_10 5 rfl ?_
    refine g_if_lt 67 C d_M_part_12 (by decide) (fun c1e12 => ?_) (fun c1e12 => ?_)
    rotate_left
    · exact absurd (by decide) c1e12
    refine g_lload C d_M_part_67 3 rfl ?_
    exact g_lret C hR hret ⟨rfl, (by first | (rw [hwL1e]; done) | (rw [hwL1e]; funext k; simp only [gup]; (repeat' split) <;> first | with_reducible rfl | (exfalso; omega) | rfl)), rfl⟩ d_M_part_69

def sizS (s : Int32) : Nat → Int32
  | 0 => 0
  | i + 1 => sizS s i + ((s >>> (nI i &&& 31)) &&& 1)
set_option maxHeartbeats 4000000 in
set_option maxRecDepth 100000 in
theorem k_M_size (l : Launch) (X : gX) (ad : Nat → Nat) (u : gW) (sz : Nat) (x : Int32)   : gMet l (EE X) y_M_size c_M_size 3 (some .int) ({ frames := 0, cells := 0, slots := 0, locals := 0 }) [.int x] ad u sz (fun v u' sz' => v = some (.int (sizS x 12)) ∧ u' = u ∧ sz' = sz) := by
  refine gMet_of "ExpenseClubsModel" rfl (by decide) (Nat.le_of_ble_eq_true rfl) (lv := [(0, .int x)]) rfl (fun Z hZl C hR hret hname => ?_)
  refine g_iconst (v := 0) C d_M_size_0 (by decide) ?_
  refine g_istore_n C d_M_size_1 rfl [(1, .int 0), (0, .int x)] (by decide) rfl ?_
  refine g_iconst (v := 0) C d_M_size_2 (by decide) ?_
  refine g_istore_n C d_M_size_3 rfl [(2, .int 0), (1, .int 0), (0, .int x)] (by decide) rfl ?_
  refine g_fewer (lv' := [(0, .int x), (1, .int 0), (2, .int 0)]) [2, 1, 0] rfl ?_
  refine GW_eq (u2 := u) (lv2 := [(0, .int x), (1, .int (sizS x 0)), (2, .int (nI 0))]) rfl rfl ?_
  refine g_loop 12 (fun iL2 => True) (fun iL2 => u) (fun iL2 => [(0, .int x), (1, .int (sizS x iL2)), (2, .int (nI iL2))]) (fun iL2 hiL2 piL2 KL2 => ?_) (fun piL2 => ?_) 0 (by omega) trivial
  · skip
    show GW Z _ _ _ ad (u) _ [(0, .int x), (1, .int (sizS x iL2)), (2, .int (nI iL2))] _ _ 4 []
    obtain ⟨wL2s, hwL2s⟩ : ∃ z, z = u := ⟨_, rfl⟩
    rw [← hwL2s]
    refine g_iload_n C d_M_size_4 rfl 2 rfl ?_
    refine g_bipush (v := 12) C d_M_size_5 (by decide) ?_
    refine g_icmp_ge 24 C d_M_size_7 (by decide) (fun c2s7 => ?_) (fun c2s7 => ?_)
    · exact absurd c2s7 (ge12 hiL2)
    refine g_iload_n C d_M_size_10 rfl 1 rfl ?_
    refine g_iload_n C d_M_size_11 rfl 0 rfl ?_
    refine g_iload_n C d_M_size_12 rfl 2 rfl ?_
    refine g_ishr C d_M_size_13 ?_
    refine g_iconst (v := 1) C d_M_size_14 (by decide) ?_
    refine g_iand C d_M_size_15 ?_
    refine g_iadd C d_M_size_16 ?_
    refine g_topi (fun x2s17 ex2s17 => ?_)
    refine g_istore_n C d_M_size_17 rfl [(1, .int x2s17), (0, .int x), (2, .int (nI iL2))] (by decide) rfl ?_
    obtain ⟨x2s18, ex2s18⟩ : ∃ y : Int32, y = (nI iL2) + 1 := ⟨_, rfl⟩
    refine g_iinc (v := x2s18) C d_M_size_18 2 rfl (by rw [ex2s18]; rfl) [(2, .int x2s18), (1, .int x2s17), (0, .int x)] (by decide) rfl ?_
    refine g_goto 4 C d_M_size_21 (by decide) ?_
    refine g_fewer (lv' := [(0, .int x), (1, .int x2s17), (2, .int x2s18)]) [2, 1, 0] rfl ?_
    refine GW_eq (u2 := u) (lv2 := [(0, .int x), (1, .int (sizS x (iL2 + 1))), (2, .int (nI (iL2 + 1)))]) ?_ ?_ (KL2 trivial)
    · first | (rw [hwL2s]; done) | (rw [hwL2s]; funext k; simp only [gup]; (repeat' split) <;> first | with_reducible rfl | (exfalso; omega) | rfl)
    · simp only [ex2s17, ex2s18, nI_1]; rfl
  · skip
    show GW Z _ _ _ ad (u) _ [(0, .int x), (1, .int (sizS x 12)), (2, .int (nI 12))] _ _ 4 []
    obtain ⟨wL2e, hwL2e⟩ : ∃ z, z = u := ⟨_, rfl⟩
    rw [← hwL2e]
    refine g_iload_n C d_M_size_4 rfl 2 rfl ?_
    refine g_bipush (v := 12) C d_M_size_5 (by decide) ?_
    refine g_icmp_ge 24 C d_M_size_7 (by decide) (fun c2e7 => ?_) (fun c2e7 => ?_)
    rotate_left
    · exact absurd (by decide) c2e7
    refine g_iload_n C d_M_size_24 rfl 1 rfl ?_
    exact g_iret C hR hret ⟨rfl, (by first | (rw [hwL2e]; done) | (rw [hwL2e]; funext k; simp only [gup]; (repeat' split) <;> first | with_reducible rfl | (exfalso; omega) | rfl)), rfl⟩ d_M_size_25

set_option maxHeartbeats 4000000 in
set_option maxRecDepth 100000 in
theorem k_M_club (l : Launch) (X : gX) (ad : Nat → Nat) (u : gW) (sz : Nat) (m : Nat) (th cl dr wy ce ra li bi : Int32)  (hm : u m = some (mO ad m th cl dr wy ce ra li bi))  : gMet l (EE X) y_M_club c_M_club 1 (some .int) ({ frames := 0, cells := 0, slots := 0, locals := 0 }) [.ref (ad m)] ad u sz (fun v u' sz' => sz' = sz ∧ ((¬ cl = 4 ∧ v = some (.int (cl + 1 - 1)) ∧ u' = gup u m (mO ad m 0 (cl + 1) dr wy ce ra li bi)) ∨ (cl = 4 ∧ v = some (.int (-1)) ∧ u' = gup u m (mO ad m 0 cl dr wy ce ra li bi)))) := by
  refine gMet_of "ExpenseClubsModel" rfl (by decide) (Nat.le_of_ble_eq_true rfl) (lv := [(0, .ref (ad m))]) rfl (fun Z hZl C hR hret hname => ?_)
  refine g_aload_n C d_M_club_0 rfl 0 rfl ?_
  refine g_iconst (v := 0) C d_M_club_1 (by decide) ?_
  refine g_put m 0 C hm rfl i_M t_M t_M_ok n_M (by decide) (gmem wd_518 rfl) rfl rfl rfl rfl (Nat.le_of_ble_eq_true rfl) d_M_club_2 ?_
  show GW Z _ _ _ ad (gup u m (mO ad m 0 cl dr wy ce ra li bi)) _ _ _ _ _ _
  obtain ⟨u1, hu1⟩ : ∃ z, z = gup u m (mO ad m 0 cl dr wy ce ra li bi) := ⟨_, rfl⟩
  rw [← hu1]
  have hu1_0 : u1 m = some (mO ad m 0 cl dr wy ce ra li bi) := by rw [hu1]; exact gup_self _ _ _
  refine g_aload_n C d_M_club_5 rfl 0 rfl ?_
  refine g_get m 1 C hu1_0 rfl i_M (by decide) (gmem wd_519 rfl) rfl rfl d_M_club_6 ?_
  refine g_iconst (v := 4) C d_M_club_9 (by decide) ?_
  refine g_icmp_ne 15 C d_M_club_10 (by decide) (fun c10 => ?_) (fun c10 => ?_)
  · skip
    refine g_aload_n C d_M_club_15 rfl 0 rfl ?_
    refine g_dup C d_M_club_16 rfl ?_
    refine g_get m 1 C hu1_0 rfl i_M (by decide) (gmem wd_519 rfl) rfl rfl d_M_club_17 ?_
    refine g_iconst (v := 1) C d_M_club_20 (by decide) ?_
    refine g_iadd C d_M_club_21 ?_
    refine g_topi (fun x22 ex22 => ?_)
    refine g_put m 1 C hu1_0 rfl i_M t_M t_M_ok n_M (by decide) (gmem wd_519 rfl) rfl rfl rfl rfl (Nat.le_of_ble_eq_true rfl) d_M_club_22 ?_
    show GW Z _ _ _ ad (gup u1 m (mO ad m 0 x22 dr wy ce ra li bi)) _ _ _ _ _ _
    obtain ⟨u2, hu2⟩ : ∃ z, z = gup u1 m (mO ad m 0 x22 dr wy ce ra li bi) := ⟨_, rfl⟩
    rw [← hu2]
    have hu2_0 : u2 m = some (mO ad m 0 x22 dr wy ce ra li bi) := by rw [hu2]; exact gup_self _ _ _
    refine g_aload_n C d_M_club_25 rfl 0 rfl ?_
    refine g_get m 1 C hu2_0 rfl i_M (by decide) (gmem wd_519 rfl) rfl rfl d_M_club_26 ?_
    refine g_iconst (v := 1) C d_M_club_29 (by decide) ?_
    refine g_isub C d_M_club_30 ?_
    exact g_iret C hR hret ⟨rfl, Or.inl ⟨c10, by simp only [ex22], (by first | (rw [hu2, hu1]; done) | (rw [hu2, hu1]; simp only [ex22]; done) | (rw [hu2, hu1]; simp only [ex22]; funext k; simp only [gup]; (repeat' split) <;> first | with_reducible rfl | (exfalso; omega) | rfl))⟩⟩ d_M_club_31
  · skip
    refine g_iconst (v := (-1)) C d_M_club_13 (by decide) ?_
    exact g_iret C hR hret ⟨rfl, Or.inr ⟨c10, rfl, (by first | (rw [hu1]; done) | (rw [hu1]; funext k; simp only [gup]; (repeat' split) <;> first | with_reducible rfl | (exfalso; omega) | rfl))⟩⟩ d_M_club_14

set_option maxHeartbeats 4000000 in
set_option maxRecDepth 100000 in
theorem k_M_member (l : Launch) (X : gX) (ad : Nat → Nat) (u : gW) (sz : Nat) (m : Nat) (th cl dr wy ce ra li bi : Int32) (mem : Nat → Int32) (c : Int32) (hm : u m = some (mO ad m th cl dr wy ce ra li bi)) (h_mem : u (m + 1) = some (.inl ((X.2 0), 4, .inl mem))) (hcl : cl ≤ 4) : gMet l (EE X) y_M_member c_M_member 2 (some .int) ({ frames := 1, cells := 0, slots := 0, locals := 21 }) [.ref (ad m), .int c] ad u sz (fun v u' sz' => sz' = sz ∧ (((isMb c cl = true ∧ ¬ mem c.toNatClampNeg = 12) ∧ v = some (.int (mem c.toNatClampNeg + 1 - 1)) ∧ u' = gup (gup u m (mO ad m 0 cl dr wy ce ra li bi)) (m + 1) (.inl ((X.2 0), 4, .inl (upd mem c.toNatClampNeg (mem c.toNatClampNeg + 1))))) ∨ (¬ (isMb c cl = true ∧ ¬ mem c.toNatClampNeg = 12) ∧ v = some (.int (-1)) ∧ u' = gup u m (mO ad m 0 cl dr wy ce ra li bi)))) := by
  refine gMet_of "ExpenseClubsModel" rfl (by decide) (Nat.le_of_ble_eq_true rfl) (lv := [(0, .ref (ad m)), (1, .int c)]) rfl (fun Z hZl C hR hret hname => ?_)
  refine g_aload_n C d_M_member_0 rfl 0 rfl ?_
  refine g_iconst (v := 0) C d_M_member_1 (by decide) ?_
  refine g_put m 0 C hm rfl i_M t_M t_M_ok n_M (by decide) (gmem wd_518 rfl) rfl rfl rfl rfl (Nat.le_of_ble_eq_true rfl) d_M_member_2 ?_
  show GW Z _ _ _ ad (gup u m (mO ad m 0 cl dr wy ce ra li bi)) _ _ _ _ _ _
  obtain ⟨u1, hu1⟩ : ∃ z, z = gup u m (mO ad m 0 cl dr wy ce ra li bi) := ⟨_, rfl⟩
  rw [← hu1]
  have hu1_0 : u1 m = some (mO ad m 0 cl dr wy ce ra li bi) := by rw [hu1]; exact gup_self _ _ _
  have hu1_1 : u1 (m + 1) = some (.inl ((X.2 0), 4, .inl mem)) := by rw [hu1, gup_ne (by omega)]; exact h_mem
  refine g_aload_n C d_M_member_5 rfl 0 rfl ?_
  refine g_iload_n C d_M_member_6 rfl 1 rfl ?_
  refine g_callV 1 C (k_M_isClub _ X ad u1 sz m 0 cl dr wy ce ra li bi  c hu1_0 ) (gmem wd_630 rfl) (gmem wd_632 rfl) (gmem ws_10 rfl) (gmem wd_4 rfl) (gmem wd_633 rfl) ⟨by decide, by decide, by decide +kernel⟩ ⟨Nat.le_of_ble_eq_true rfl, Nat.le_of_ble_eq_true rfl⟩ hu1_0 rfl rfl rfl (Nat.le_of_ble_eq_true rfl) d_M_member_7 ⟨Nat.le_of_ble_eq_true rfl, Nat.le_of_ble_eq_true rfl⟩ ?_
  rintro v9 u9 s9 ⟨h9, hu9, hs9⟩; rw [h9, hu9, hs9]; clear h9 hu9 hs9 v9 u9 s9
  show GW Z _ _ _ ad u1 sz [(0, .ref (ad m)), (1, .int c)] 0 0 10 [.int (bI (isMb c cl))]
  refine g_if_eq 24 C d_M_member_10 (by decide) (fun c10 => ?_) (fun c10 => ?_)
  · skip
    refine g_iconst (v := (-1)) C d_M_member_24 (by decide) ?_
    exact g_iret C hR hret ⟨rfl, Or.inr ⟨by simp_all [bI_eq0], rfl, (by first | (rw [hu1]; done) | (rw [hu1]; funext k; simp only [gup]; (repeat' split) <;> first | with_reducible rfl | (exfalso; omega) | rfl))⟩⟩ d_M_member_25
  · skip
    refine g_aload_n C d_M_member_13 rfl 0 rfl ?_
    refine g_get m 2 C hu1_0 rfl i_M (by decide) (gmem wd_520 rfl) rfl rfl d_M_member_14 ?_
    refine g_iload_n C d_M_member_17 rfl 1 rfl ?_
    refine g_iald (m + 1) 0 C hu1_1 rfl (in4x (bI_ne0.mp c10) hcl) d_M_member_18 ?_
    refine g_bipush (v := 12) C d_M_member_19 (by decide) ?_
    refine g_icmp_ne 26 C d_M_member_21 (by decide) (fun c21 => ?_) (fun c21 => ?_)
    · skip
      refine g_aload_n C d_M_member_26 rfl 0 rfl ?_
      refine g_get m 2 C hu1_0 rfl i_M (by decide) (gmem wd_520 rfl) rfl rfl d_M_member_27 ?_
      refine g_iload_n C d_M_member_30 rfl 1 rfl ?_
      refine g_dup2_11 C d_M_member_31 rfl rfl ?_
      refine g_iald (m + 1) 0 C hu1_1 rfl (in4x (bI_ne0.mp c10) hcl) d_M_member_32 ?_
      refine g_iconst (v := 1) C d_M_member_33 (by decide) ?_
      refine g_iadd C d_M_member_34 ?_
      refine g_topi (fun x35 ex35 => ?_)
      refine g_iast (m + 1) 0 C hu1_1 rfl (in4x (bI_ne0.mp c10) hcl) d_M_member_35 ?_
      obtain ⟨u2, hu2⟩ : ∃ z, z = gup u1 (m + 1) (.inl ((X.2 0), 4, .inl (upd mem (Int32.toNatClampNeg c) x35))) := ⟨_, rfl⟩
      rw [← hu2]
      have hu2_0 : u2 m = some (mO ad m 0 cl dr wy ce ra li bi) := by rw [hu2, gup_ne (by omega)]; exact hu1_0
      have hu2_1 : u2 (m + 1) = some (.inl ((X.2 0), 4, .inl (upd mem (Int32.toNatClampNeg c) x35))) := by rw [hu2]; exact gup_self _ _ _
      refine g_aload_n C d_M_member_36 rfl 0 rfl ?_
      refine g_get m 2 C hu2_0 rfl i_M (by decide) (gmem wd_520 rfl) rfl rfl d_M_member_37 ?_
      refine g_iload_n C d_M_member_40 rfl 1 rfl ?_
      refine g_iald (m + 1) 0 C hu2_1 rfl (in4x (bI_ne0.mp c10) hcl) d_M_member_41 ?_
      refine g_iconst (v := 1) C d_M_member_42 (by decide) ?_
      refine g_isub C d_M_member_43 ?_
      exact g_iret C hR hret ⟨rfl, Or.inl ⟨⟨bI_ne0.mp c10, c21⟩, by simp only [ex35, pk_us], (by first | (rw [hu2, hu1]; done) | (rw [hu2, hu1]; simp only [ex35]; done) | (rw [hu2, hu1]; simp only [ex35]; funext k; simp only [gup]; (repeat' split) <;> first | with_reducible rfl | (exfalso; omega) | rfl))⟩⟩ d_M_member_44
    · skip
      refine g_iconst (v := (-1)) C d_M_member_24 (by decide) ?_
      exact g_iret C hR hret ⟨rfl, Or.inr ⟨by simp_all [bI_eq0], rfl, (by first | (rw [hu1]; done) | (rw [hu1]; funext k; simp only [gup]; (repeat' split) <;> first | with_reducible rfl | (exfalso; omega) | rfl))⟩⟩ d_M_member_25

theorem memM_c {cl : Int32} {mem : Nat → Int32} {c x : Int32} (h : memM cl mem c x = true) (hcl : cl ≤ 4) : vp_in c 4 := in4x (Bool.and_eq_true_iff.mp h).1 hcl
theorem memM_x {cl : Int32} {mem : Nat → Int32} {c x : Int32} (h : memM cl mem c x = true) (hm : ∀ j, j < 4 → mem j ≤ 12) (hcl : cl ≤ 4) : vp_in x 12 := by
  obtain ⟨j, h1, -, h3⟩ := vp_nat (memM_c h hcl) (by decide)
  exact in12m (Bool.and_eq_true_iff.mp h).2 (by rw [h3]; exact hm j h1)
set_option maxHeartbeats 4000000 in
set_option maxRecDepth 100000 in
theorem k_M_stays (l : Launch) (X : gX) (ad : Nat → Nat) (u : gW) (sz : Nat) (m : Nat) (th cl dr wy ce ra li bi : Int32) (mem lef : Nat → Int32) (x : Int32) (hm : u m = some (mO ad m th cl dr wy ce ra li bi)) (h_mem : u (m + 1) = some (.inl ((X.2 0), 4, .inl mem))) (h_lef : u (m + 3) = some (.inl ((X.2 2), 48, .inl lef))) (hcl : cl ≤ 4) (hmem : ∀ j, j < 4 → mem j ≤ 12) : gMet l (EE X) y_M_stays c_M_stays 2 (some .boolean) ({ frames := 2, cells := 0, slots := 0, locals := 43 }) [.ref (ad m), .int x] ad u sz (fun v u' sz' => v = some (.int (bI (staM cl dr mem lef x))) ∧ u' = u ∧ sz' = sz) := by
  refine gMet_of "ExpenseClubsModel" rfl (by decide) (Nat.le_of_ble_eq_true rfl) (lv := [(0, .ref (ad m)), (1, .int x)]) rfl (fun Z hZl C hR hret hname => ?_)
  refine g_aload_n C d_M_stays_0 rfl 0 rfl ?_
  refine g_get m 5 C hm rfl i_M (by decide) (gmem wd_523 rfl) rfl rfl d_M_stays_1 ?_
  refine g_iconst (v := (-1)) C d_M_stays_4 (by decide) ?_
  refine g_icmp_eq 41 C d_M_stays_5 (by decide) (fun c5 => ?_) (fun c5 => ?_)
  · skip
    refine g_iconst (v := 0) C d_M_stays_41 (by decide) ?_
    exact g_zret C hR hret rfl ⟨by simp only [staM, decide_eq_true c5, if_pos c5, Bool.not_true, Bool.not_false, Bool.and_true, Bool.true_and, Bool.false_and, Bool.and_false, bI_t, bI_f], rfl, rfl⟩ d_M_stays_42
  · skip
    refine g_aload_n C d_M_stays_8 rfl 0 rfl ?_
    refine g_aload_n C d_M_stays_9 rfl 0 rfl ?_
    refine g_get m 5 C hm rfl i_M (by decide) (gmem wd_523 rfl) rfl rfl d_M_stays_10 ?_
    refine g_iload_n C d_M_stays_13 rfl 1 rfl ?_
    refine g_callV 2 C (k_M_isMember _ X ad u sz m th cl dr wy ce ra li bi mem dr x hm h_mem hcl) (gmem wd_638 rfl) (gmem wd_640 rfl) (gmem ws_11 rfl) (gmem wd_4 rfl) (gmem wd_641 rfl) ⟨by decide, by decide, by decide +kernel⟩ ⟨Nat.le_of_ble_eq_true rfl, Nat.le_of_ble_eq_true rfl⟩ hm rfl rfl rfl (Nat.le_of_ble_eq_true rfl) d_M_stays_14 ⟨Nat.le_of_ble_eq_true rfl, Nat.le_of_ble_eq_true rfl⟩ ?_
    rintro v9 u9 s9 ⟨h9, hu9, hs9⟩; rw [h9, hu9, hs9]; clear h9 hu9 hs9 v9 u9 s9
    show GW Z _ _ _ ad u sz [(0, .ref (ad m)), (1, .int x)] 0 0 17 [.int (bI (memM cl mem dr x))]
    refine g_if_eq 41 C d_M_stays_17 (by decide) (fun c17 => ?_) (fun c17 => ?_)
    · skip
      refine g_iconst (v := 0) C d_M_stays_41 (by decide) ?_
      exact g_zret C hR hret rfl ⟨by simp only [staM, decide_eq_false c5, if_neg c5, bI_eq0.mp c17, Bool.not_true, Bool.not_false, Bool.and_true, Bool.true_and, Bool.false_and, Bool.and_false, bI_t, bI_f], rfl, rfl⟩ d_M_stays_42
    · skip
      refine g_aload_n C d_M_stays_20 rfl 0 rfl ?_
      refine g_get m 4 C hm rfl i_M (by decide) (gmem wd_522 rfl) rfl rfl d_M_stays_21 ?_
      refine g_bipush (v := 12) C d_M_stays_24 (by decide) ?_
      refine g_aload_n C d_M_stays_26 rfl 0 rfl ?_
      refine g_get m 5 C hm rfl i_M (by decide) (gmem wd_523 rfl) rfl rfl d_M_stays_27 ?_
      refine g_imul C d_M_stays_30 ?_
      refine g_iload_n C d_M_stays_31 rfl 1 rfl ?_
      refine g_iadd C d_M_stays_32 ?_
      refine g_zald (m + 3) 2 C h_lef rfl (in48 (memM_c (bI_ne0.mp c17) hcl) (memM_x (bI_ne0.mp c17) hmem hcl)).1 d_M_stays_33 ?_
      rw [show Int32.toNatClampNeg ((12 * dr) + x) = 12 * dr.toNatClampNeg + x.toNatClampNeg from (in48 (memM_c (bI_ne0.mp c17) hcl) (memM_x (bI_ne0.mp c17) hmem hcl)).2]
      refine g_if_ne 41 C d_M_stays_34 (by decide) (fun c34 => ?_) (fun c34 => ?_)
      · skip
        refine g_iconst (v := 0) C d_M_stays_41 (by decide) ?_
        exact g_zret C hR hret rfl ⟨by simp only [staM, decide_eq_false c5, if_neg c5, bI_ne0.mp c17, decide_eq_false c34, if_neg c34, Bool.not_true, Bool.not_false, Bool.and_true, Bool.true_and, Bool.false_and, Bool.and_false, bI_t, bI_f], rfl, rfl⟩ d_M_stays_42
      · skip
        refine g_iconst (v := 1) C d_M_stays_37 (by decide) ?_
        refine g_goto 42 C d_M_stays_38 (by decide) ?_
        exact g_zret C hR hret rfl ⟨by simp only [staM, decide_eq_false c5, if_neg c5, bI_ne0.mp c17, decide_eq_true c34, if_pos c34, Bool.not_true, Bool.not_false, Bool.and_true, Bool.true_and, Bool.false_and, Bool.and_false, bI_t, bI_f], rfl, rfl⟩ d_M_stays_42
end
section
def okBill (cl c w n r : Int32) : Bool := isMb c cl && (withM w 1 5 && (withM n 1 100000000 && withM r 1 1000000000))
def okPay (cl dr : Int32) (mem lef : Nat → Int32) (x n : Int32) : Bool := staM cl dr mem lef x && withM n 0 100000000
def hiW (wy : Int32) : Int32 := if wy = 1 then 1 else if wy = 2 then 1000 else if wy = 3 then 100000000 else 10000
def okWei (cl dr wy : Int32) (mem lef : Nat → Int32) (x n : Int32) : Bool := staM cl dr mem lef x && (!decide (wy = 5) && withM n 0 (hiW wy))
theorem staM_m {cl dr : Int32} {mem lef : Nat → Int32} {x : Int32} (h : staM cl dr mem lef x = true) : memM cl mem dr x = true := (Bool.and_eq_true_iff.mp (Bool.and_eq_true_iff.mp h).2).1
theorem fillI_s2 (f : Nat → Int32) (v : Int32) (i : Nat) : upd (fillI f v i) i v = fillI f v (i + 1) := fillI_s f v i
set_option maxHeartbeats 4000000 in
set_option maxRecDepth 100000 in
theorem k_M_bill (l : Launch) (X : gX) (ad : Nat → Nat) (u : gW) (sz : Nat) (m : Nat) (th cl dr wy ce ra li bi : Int32) (pay wei : Nat → Int32) (c w n r : Int32) (hm : u m = some (mO ad m th cl dr wy ce ra li bi)) (h_pay : u (m + 4) = some (.inl ((X.2 0), 12, .inl pay))) (h_wei : u (m + 5) = some (.inl ((X.2 0), 12, .inl wei)))  : gMet l (EE X) y_M_bill c_M_bill 6 (some .boolean) ({ frames := 1, cells := 0, slots := 0, locals := 22 }) [.ref (ad m), .int c, .int w, .int n, .int r] ad u sz (fun v u' sz' => sz' = sz ∧ ((okBill cl c w n r = true ∧ v = some (.int 1) ∧ u' = gup (gup (gup u m (mO ad m 0 cl c w n r 0 bi)) (m + 4) (.inl ((X.2 0), 12, .inl (fillI pay 0 12)))) (m + 5) (.inl ((X.2 0), 12, .inl (fillI wei 0 12)))) ∨ (okBill cl c w n r = false ∧ v = some (.int 0) ∧ u' = gup u m (mO ad m 0 cl dr wy ce ra li bi)))) := by
  refine gMet_of "ExpenseClubsModel" rfl (by decide) (Nat.le_of_ble_eq_true rfl) (lv := [(0, .ref (ad m)), (1, .int c), (2, .int w), (3, .int n), (4, .int r)]) rfl (fun Z hZl C hR hret hname => ?_)
  refine g_aload_n C d_M_bill_0 rfl 0 rfl ?_
  refine g_iconst (v := 0) C d_M_bill_1 (by decide) ?_
  refine g_put m 0 C hm rfl i_M t_M t_M_ok n_M (by decide) (gmem wd_518 rfl) rfl rfl rfl rfl (Nat.le_of_ble_eq_true rfl) d_M_bill_2 ?_
  show GW Z _ _ _ ad (gup u m (mO ad m 0 cl dr wy ce ra li bi)) _ _ _ _ _ _
  obtain ⟨u1, hu1⟩ : ∃ z, z = gup u m (mO ad m 0 cl dr wy ce ra li bi) := ⟨_, rfl⟩
  rw [← hu1]
  have hu1_0 : u1 m = some (mO ad m 0 cl dr wy ce ra li bi) := by rw [hu1]; exact gup_self _ _ _
  have hu1_1 : u1 (m + 4) = some (.inl ((X.2 0), 12, .inl pay)) := by rw [hu1, gup_ne (by omega)]; exact h_pay
  have hu1_2 : u1 (m + 5) = some (.inl ((X.2 0), 12, .inl wei)) := by rw [hu1, gup_ne (by omega)]; exact h_wei
  refine g_aload_n C d_M_bill_5 rfl 0 rfl ?_
  refine g_iload_n C d_M_bill_6 rfl 1 rfl ?_
  refine g_callV 1 C (k_M_isClub _ X ad u1 sz m 0 cl dr wy ce ra li bi  c hu1_0 ) (gmem wd_630 rfl) (gmem wd_632 rfl) (gmem ws_10 rfl) (gmem wd_4 rfl) (gmem wd_633 rfl) ⟨by decide, by decide, by decide +kernel⟩ ⟨Nat.le_of_ble_eq_true rfl, Nat.le_of_ble_eq_true rfl⟩ hu1_0 rfl rfl rfl (Nat.le_of_ble_eq_true rfl) d_M_bill_7 ⟨Nat.le_of_ble_eq_true rfl, Nat.le_of_ble_eq_true rfl⟩ ?_
  rintro v9 u9 s9 ⟨h9, hu9, hs9⟩; rw [h9, hu9, hs9]; clear h9 hu9 hs9 v9 u9 s9
  show GW Z _ _ _ ad u1 sz [(0, .ref (ad m)), (1, .int c), (2, .int w), (3, .int n), (4, .int r)] 0 0 10 [.int (bI (isMb c cl))]
  refine g_if_eq 43 C d_M_bill_10 (by decide) (fun c10 => ?_) (fun c10 => ?_)
  · skip
    refine g_iconst (v := 0) C d_M_bill_43 (by decide) ?_
    exact g_zret C hR hret rfl ⟨rfl, Or.inr ⟨by simp only [okBill, bI_eq0.mp c10, Bool.not_true, Bool.not_false, Bool.and_true, Bool.true_and, Bool.false_and, Bool.and_false, bI_t, bI_f], rfl, (by first | (rw [hu1]; done) | (rw [hu1]; funext k; simp only [gup]; (repeat' split) <;> first | with_reducible rfl | (exfalso; omega) | rfl))⟩⟩ d_M_bill_44
  · skip
    refine g_iload_n C d_M_bill_13 rfl 2 rfl ?_
    refine g_iconst (v := 1) C d_M_bill_14 (by decide) ?_
    refine g_iconst (v := 5) C d_M_bill_15 (by decide) ?_
    refine g_callS 3 C (k_M_within _ X ad u1 sz w 1 5) (gmem wd_650 rfl) (gmem wd_651 rfl) (gmem wd_4 rfl) (gmem wd_652 rfl) ⟨by decide, by decide, by decide +kernel⟩ ⟨Nat.le_of_ble_eq_true rfl, Nat.le_of_ble_eq_true rfl⟩ rfl rfl (Nat.le_of_ble_eq_true rfl) d_M_bill_16 ⟨Nat.le_of_ble_eq_true rfl, Nat.le_of_ble_eq_true rfl⟩ ?_
    rintro v9 u9 s9 ⟨h9, hu9, hs9⟩; rw [h9, hu9, hs9]; clear h9 hu9 hs9 v9 u9 s9
    show GW Z _ _ _ ad u1 sz [(0, .ref (ad m)), (1, .int c), (2, .int w), (3, .int n), (4, .int r)] 0 0 19 [.int (bI (withM w 1 5))]
    refine g_if_eq 43 C d_M_bill_19 (by decide) (fun c19 => ?_) (fun c19 => ?_)
    · skip
      refine g_iconst (v := 0) C d_M_bill_43 (by decide) ?_
      exact g_zret C hR hret rfl ⟨rfl, Or.inr ⟨by simp only [okBill, bI_ne0.mp c10, bI_eq0.mp c19, Bool.not_true, Bool.not_false, Bool.and_true, Bool.true_and, Bool.false_and, Bool.and_false, bI_t, bI_f], rfl, (by first | (rw [hu1]; done) | (rw [hu1]; funext k; simp only [gup]; (repeat' split) <;> first | with_reducible rfl | (exfalso; omega) | rfl))⟩⟩ d_M_bill_44
    · skip
      refine g_iload_n C d_M_bill_22 rfl 3 rfl ?_
      refine g_iconst (v := 1) C d_M_bill_23 (by decide) ?_
      refine g_ldc C (gmem wd_653 rfl) d_M_bill_24 ?_
      refine g_callS 3 C (k_M_within _ X ad u1 sz n 1 100000000) (gmem wd_650 rfl) (gmem wd_651 rfl) (gmem wd_4 rfl) (gmem wd_652 rfl) ⟨by decide, by decide, by decide +kernel⟩ ⟨Nat.le_of_ble_eq_true rfl, Nat.le_of_ble_eq_true rfl⟩ rfl rfl (Nat.le_of_ble_eq_true rfl) d_M_bill_26 ⟨Nat.le_of_ble_eq_true rfl, Nat.le_of_ble_eq_true rfl⟩ ?_
      rintro v9 u9 s9 ⟨h9, hu9, hs9⟩; rw [h9, hu9, hs9]; clear h9 hu9 hs9 v9 u9 s9
      show GW Z _ _ _ ad u1 sz [(0, .ref (ad m)), (1, .int c), (2, .int w), (3, .int n), (4, .int r)] 0 0 29 [.int (bI (withM n 1 100000000))]
      refine g_if_eq 43 C d_M_bill_29 (by decide) (fun c29 => ?_) (fun c29 => ?_)
      · skip
        refine g_iconst (v := 0) C d_M_bill_43 (by decide) ?_
        exact g_zret C hR hret rfl ⟨rfl, Or.inr ⟨by simp only [okBill, bI_ne0.mp c10, bI_ne0.mp c19, bI_eq0.mp c29, Bool.not_true, Bool.not_false, Bool.and_true, Bool.true_and, Bool.false_and, Bool.and_false, bI_t, bI_f], rfl, (by first | (rw [hu1]; done) | (rw [hu1]; funext k; simp only [gup]; (repeat' split) <;> first | with_reducible rfl | (exfalso; omega) | rfl))⟩⟩ d_M_bill_44
      · skip
        refine g_iload C d_M_bill_32 4 rfl ?_
        refine g_iconst (v := 1) C d_M_bill_34 (by decide) ?_
        refine g_ldc C (gmem wd_654 rfl) d_M_bill_35 ?_
        refine g_callS 3 C (k_M_within _ X ad u1 sz r 1 1000000000) (gmem wd_650 rfl) (gmem wd_651 rfl) (gmem wd_4 rfl) (gmem wd_652 rfl) ⟨by decide, by decide, by decide +kernel⟩ ⟨Nat.le_of_ble_eq_true rfl, Nat.le_of_ble_eq_true rfl⟩ rfl rfl (Nat.le_of_ble_eq_true rfl) d_M_bill_37 ⟨Nat.le_of_ble_eq_true rfl, Nat.le_of_ble_eq_true rfl⟩ ?_
        rintro v9 u9 s9 ⟨h9, hu9, hs9⟩; rw [h9, hu9, hs9]; clear h9 hu9 hs9 v9 u9 s9
        show GW Z _ _ _ ad u1 sz [(0, .ref (ad m)), (1, .int c), (2, .int w), (3, .int n), (4, .int r)] 0 0 40 [.int (bI (withM r 1 1000000000))]
        refine g_if_ne 45 C d_M_bill_40 (by decide) (fun c40 => ?_) (fun c40 => ?_)
        · skip
          refine g_aload_n C d_M_bill_45 rfl 0 rfl ?_
          refine g_iload_n C d_M_bill_46 rfl 1 rfl ?_
          refine g_put m 5 C hu1_0 rfl i_M t_M t_M_ok n_M (by decide) (gmem wd_523 rfl) rfl rfl rfl rfl (Nat.le_of_ble_eq_true rfl) d_M_bill_47 ?_
          show GW Z _ _ _ ad (gup u1 m (mO ad m 0 cl c wy ce ra li bi)) _ _ _ _ _ _
          obtain ⟨u2, hu2⟩ : ∃ z, z = gup u1 m (mO ad m 0 cl c wy ce ra li bi) := ⟨_, rfl⟩
          rw [← hu2]
          have hu2_0 : u2 m = some (mO ad m 0 cl c wy ce ra li bi) := by rw [hu2]; exact gup_self _ _ _
          have hu2_1 : u2 (m + 4) = some (.inl ((X.2 0), 12, .inl pay)) := by rw [hu2, gup_ne (by omega)]; exact hu1_1
          have hu2_2 : u2 (m + 5) = some (.inl ((X.2 0), 12, .inl wei)) := by rw [hu2, gup_ne (by omega)]; exact hu1_2
          refine g_aload_n C d_M_bill_50 rfl 0 rfl ?_
          refine g_iload_n C d_M_bill_51 rfl 2 rfl ?_
          refine g_put m 6 C hu2_0 rfl i_M t_M t_M_ok n_M (by decide) (gmem wd_524 rfl) rfl rfl rfl rfl (Nat.le_of_ble_eq_true rfl) d_M_bill_52 ?_
          show GW Z _ _ _ ad (gup u2 m (mO ad m 0 cl c w ce ra li bi)) _ _ _ _ _ _
          obtain ⟨u3, hu3⟩ : ∃ z, z = gup u2 m (mO ad m 0 cl c w ce ra li bi) := ⟨_, rfl⟩
          rw [← hu3]
          have hu3_0 : u3 m = some (mO ad m 0 cl c w ce ra li bi) := by rw [hu3]; exact gup_self _ _ _
          have hu3_1 : u3 (m + 4) = some (.inl ((X.2 0), 12, .inl pay)) := by rw [hu3, gup_ne (by omega)]; exact hu2_1
          have hu3_2 : u3 (m + 5) = some (.inl ((X.2 0), 12, .inl wei)) := by rw [hu3, gup_ne (by omega)]; exact hu2_2
          refine g_aload_n C d_M_bill_55 rfl 0 rfl ?_
          refine g_iload_n C d_M_bill_56 rfl 3 rfl ?_
          refine g_put m 7 C hu3_0 rfl i_M t_M t_M_ok n_M (by decide) (gmem wd_525 rfl) rfl rfl rfl rfl (Nat.le_of_ble_eq_true rfl) d_M_bill_57 ?_
          show GW Z _ _ _ ad (gup u3 m (mO ad m 0 cl c w n ra li bi)) _ _ _ _ _ _
          obtain ⟨u4, hu4⟩ : ∃ z, z = gup u3 m (mO ad m 0 cl c w n ra li bi) := ⟨_, rfl⟩
          rw [← hu4]
          have hu4_0 : u4 m = some (mO ad m 0 cl c w n ra li bi) := by rw [hu4]; exact gup_self _ _ _
          have hu4_1 : u4 (m + 4) = some (.inl ((X.2 0), 12, .inl pay)) := by rw [hu4, gup_ne (by omega)]; exact hu3_1
          have hu4_2 : u4 (m + 5) = some (.inl ((X.2 0), 12, .inl wei)) := by rw [hu4, gup_ne (by omega)]; exact hu3_2
          refine g_aload_n C d_M_bill_60 rfl 0 rfl ?_
          refine g_iload C d_M_bill_61 4 rfl ?_
          refine g_put m 8 C hu4_0 rfl i_M t_M t_M_ok n_M (by decide) (gmem wd_526 rfl) rfl rfl rfl rfl (Nat.le_of_ble_eq_true rfl) d_M_bill_63 ?_
          show GW Z _ _ _ ad (gup u4 m (mO ad m 0 cl c w n r li bi)) _ _ _ _ _ _
          obtain ⟨u5, hu5⟩ : ∃ z, z = gup u4 m (mO ad m 0 cl c w n r li bi) := ⟨_, rfl⟩
          rw [← hu5]
          have hu5_0 : u5 m = some (mO ad m 0 cl c w n r li bi) := by rw [hu5]; exact gup_self _ _ _
          have hu5_1 : u5 (m + 4) = some (.inl ((X.2 0), 12, .inl pay)) := by rw [hu5, gup_ne (by omega)]; exact hu4_1
          have hu5_2 : u5 (m + 5) = some (.inl ((X.2 0), 12, .inl wei)) := by rw [hu5, gup_ne (by omega)]; exact hu4_2
          refine g_aload_n C d_M_bill_66 rfl 0 rfl ?_
          refine g_iconst (v := 0) C d_M_bill_67 (by decide) ?_
          refine g_put m 11 C hu5_0 rfl i_M t_M t_M_ok n_M (by decide) (gmem wd_529 rfl) rfl rfl rfl rfl (Nat.le_of_ble_eq_true rfl) d_M_bill_68 ?_
          show GW Z _ _ _ ad (gup u5 m (mO ad m 0 cl c w n r 0 bi)) _ _ _ _ _ _
          obtain ⟨u6, hu6⟩ : ∃ z, z = gup u5 m (mO ad m 0 cl c w n r 0 bi) := ⟨_, rfl⟩
          rw [← hu6]
          have hu6_0 : u6 m = some (mO ad m 0 cl c w n r 0 bi) := by rw [hu6]; exact gup_self _ _ _
          have hu6_1 : u6 (m + 4) = some (.inl ((X.2 0), 12, .inl pay)) := by rw [hu6, gup_ne (by omega)]; exact hu5_1
          have hu6_2 : u6 (m + 5) = some (.inl ((X.2 0), 12, .inl wei)) := by rw [hu6, gup_ne (by omega)]; exact hu5_2
          refine g_iconst (v := 0) C d_M_bill_71 (by decide) ?_
          refine g_istore C d_M_bill_72 [(5, .int 0), (0, .ref (ad m)), (1, .int c), (2, .int w), (3, .int n), (4, .int r)] (by decide) rfl ?_
          refine g_fewer (lv' := [(5, .int 0), (0, .ref (ad m))]) [0, 1] rfl ?_
          refine GW_eq (u2 := gup (gup u6 (m + 4) (.inl ((X.2 0), 12, .inl (fillI pay 0 0)))) (m + 5) (.inl ((X.2 0), 12, .inl (fillI wei 0 0)))) (lv2 := [(5, .int (nI 0)), (0, .ref (ad m))]) (by rw [fillI_0, fillI_0, gup_id hu6_1, gup_id hu6_2]) rfl ?_
          refine g_loop 12 (fun iL3 => True) (fun iL3 => gup (gup u6 (m + 4) (.inl ((X.2 0), 12, .inl (fillI pay 0 iL3)))) (m + 5) (.inl ((X.2 0), 12, .inl (fillI wei 0 iL3)))) (fun iL3 => [(5, .int (nI iL3)), (0, .ref (ad m))]) (fun iL3 hiL3 piL3 KL3 => ?_) (fun piL3 => ?_) 0 (by omega) trivial
          · skip
            show GW Z _ _ _ ad (gup (gup u6 (m + 4) (.inl ((X.2 0), 12, .inl (fillI pay 0 iL3)))) (m + 5) (.inl ((X.2 0), 12, .inl (fillI wei 0 iL3)))) _ [(5, .int (nI iL3)), (0, .ref (ad m))] _ _ 74 []
            obtain ⟨wL3s, hwL3s⟩ : ∃ z, z = gup (gup u6 (m + 4) (.inl ((X.2 0), 12, .inl (fillI pay 0 iL3)))) (m + 5) (.inl ((X.2 0), 12, .inl (fillI wei 0 iL3))) := ⟨_, rfl⟩
            rw [← hwL3s]
            have hwL3s_0 : wL3s m = some (mO ad m 0 cl c w n r 0 bi) := by rw [hwL3s, gup_ne (by omega), gup_ne (by omega)]; exact hu6_0
            have hwL3s_1 : wL3s (m + 4) = some (.inl ((X.2 0), 12, .inl (fillI pay 0 iL3))) := by rw [hwL3s, gup_ne (by omega), gup_self]
            have hwL3s_2 : wL3s (m + 5) = some (.inl ((X.2 0), 12, .inl (fillI wei 0 iL3))) := by rw [hwL3s, gup_self]
            refine g_iload C d_M_bill_74 0 rfl ?_
            refine g_bipush (v := 12) C d_M_bill_76 (by decide) ?_
            refine g_icmp_ge 103 C d_M_bill_78 (by decide) (fun c3s78 => ?_) (fun c3s78 => ?_)
            · exact absurd c3s78 (ge12 hiL3)
            refine g_aload_n C d_M_bill_81 rfl 1 rfl ?_
            refine g_get m 9 C hwL3s_0 rfl i_M (by decide) (gmem wd_527 rfl) rfl rfl d_M_bill_82 ?_
            refine g_iload C d_M_bill_85 0 rfl ?_
            refine g_iconst (v := 0) C d_M_bill_87 (by decide) ?_
            refine g_iast (m + 4) 0 C hwL3s_1 rfl (vp_in_nI (by omega) (by decide)) d_M_bill_88 ?_
            rw [show Int32.toNatClampNeg (nI iL3) = iL3 from nI_clamp (by omega)]
            obtain ⟨u3s7, hu3s7⟩ : ∃ z, z = gup wL3s (m + 4) (.inl ((X.2 0), 12, .inl (upd (fillI pay 0 iL3) iL3 0))) := ⟨_, rfl⟩
            rw [← hu3s7]
            have hu3s7_0 : u3s7 m = some (mO ad m 0 cl c w n r 0 bi) := by rw [hu3s7, gup_ne (by omega)]; exact hwL3s_0
            have hu3s7_1 : u3s7 (m + 4) = some (.inl ((X.2 0), 12, .inl (upd (fillI pay 0 iL3) iL3 0))) := by rw [hu3s7]; exact gup_self _ _ _
            have hu3s7_2 : u3s7 (m + 5) = some (.inl ((X.2 0), 12, .inl (fillI wei 0 iL3))) := by rw [hu3s7, gup_ne (by omega)]; exact hwL3s_2
            refine g_aload_n C d_M_bill_89 rfl 1 rfl ?_
            refine g_get m 10 C hu3s7_0 rfl i_M (by decide) (gmem wd_528 rfl) rfl rfl d_M_bill_90 ?_
            refine g_iload C d_M_bill_93 0 rfl ?_
            refine g_iconst (v := 0) C d_M_bill_95 (by decide) ?_
            refine g_iast (m + 5) 0 C hu3s7_2 rfl (vp_in_nI (by omega) (by decide)) d_M_bill_96 ?_
            rw [show Int32.toNatClampNeg (nI iL3) = iL3 from nI_clamp (by omega)]
            obtain ⟨u3s8, hu3s8⟩ : ∃ z, z = gup u3s7 (m + 5) (.inl ((X.2 0), 12, .inl (upd (fillI wei 0 iL3) iL3 0))) := ⟨_, rfl⟩
            rw [← hu3s8]
            have hu3s8_0 : u3s8 m = some (mO ad m 0 cl c w n r 0 bi) := by rw [hu3s8, gup_ne (by omega)]; exact hu3s7_0
            have hu3s8_1 : u3s8 (m + 4) = some (.inl ((X.2 0), 12, .inl (upd (fillI pay 0 iL3) iL3 0))) := by rw [hu3s8, gup_ne (by omega)]; exact hu3s7_1
            have hu3s8_2 : u3s8 (m + 5) = some (.inl ((X.2 0), 12, .inl (upd (fillI wei 0 iL3) iL3 0))) := by rw [hu3s8]; exact gup_self _ _ _
            obtain ⟨x3s97, ex3s97⟩ : ∃ y : Int32, y = (nI iL3) + 1 := ⟨_, rfl⟩
            refine g_iinc (v := x3s97) C d_M_bill_97 0 rfl (by rw [ex3s97]; rfl) [(5, .int x3s97), (0, .ref (ad m))] (by decide) rfl ?_
            refine g_goto 74 C d_M_bill_100 (by decide) ?_
            refine GW_eq (u2 := gup (gup u6 (m + 4) (.inl ((X.2 0), 12, .inl (fillI pay 0 (iL3 + 1))))) (m + 5) (.inl ((X.2 0), 12, .inl (fillI wei 0 (iL3 + 1))))) (lv2 := [(5, .int (nI (iL3 + 1))), (0, .ref (ad m))]) ?_ ?_ (KL3 trivial)
            · first | (rw [hu3s8, hu3s7, hwL3s]; done) | (rw [hu3s8, hu3s7, hwL3s]; simp only [fillI_s]; done) | (rw [hu3s8, hu3s7, hwL3s]; simp only [fillI_s]; funext k; simp only [gup]; (repeat' split) <;> first | with_reducible rfl | (exfalso; omega) | rfl)
            · first | rfl | simp only [ex3s97, nI_1, nI_0]
          · skip
            show GW Z _ _ _ ad (gup (gup u6 (m + 4) (.inl ((X.2 0), 12, .inl (fillI pay 0 12)))) (m + 5) (.inl ((X.2 0), 12, .inl (fillI wei 0 12)))) _ [(5, .int (nI 12)), (0, .ref (ad m))] _ _ 74 []
            obtain ⟨wL3e, hwL3e⟩ : ∃ z, z = gup (gup u6 (m + 4) (.inl ((X.2 0), 12, .inl (fillI pay 0 12)))) (m + 5) (.inl ((X.2 0), 12, .inl (fillI wei 0 12))) := ⟨_, rfl⟩
            rw [← hwL3e]
            have hwL3e_0 : wL3e m = some (mO ad m 0 cl c w n r 0 bi) := by rw [hwL3e, gup_ne (by omega), gup_ne (by omega)]; exact hu6_0
            have hwL3e_1 : wL3e (m + 4) = some (.inl ((X.2 0), 12, .inl (fillI pay 0 12))) := by rw [hwL3e, gup_ne (by omega), gup_self]
            have hwL3e_2 : wL3e (m + 5) = some (.inl ((X.2 0), 12, .inl (fillI wei 0 12))) := by rw [hwL3e, gup_self]
            refine g_iload C d_M_bill_74 0 rfl ?_
            refine g_bipush (v := 12) C d_M_bill_76 (by decide) ?_
            refine g_icmp_ge 103 C d_M_bill_78 (by decide) (fun c3e78 => ?_) (fun c3e78 => ?_)
            rotate_left
            · exact absurd (by decide) c3e78
            refine g_iconst (v := 1) C d_M_bill_103 (by decide) ?_
            have hfin3e9 : wL3e = gup (gup (gup u m (mO ad m 0 cl c w n r 0 bi)) (m + 4) (.inl ((X.2 0), 12, .inl (fillI pay 0 12)))) (m + 5) (.inl ((X.2 0), 12, .inl (fillI wei 0 12))) := by
              funext k
              by_cases hk0 : k = m
              · rw [hk0, hwL3e_0, gup_ne (by omega), gup_ne (by omega), gup_self]
              by_cases hk1 : k = m + 4
              · rw [hk1, hwL3e_1, gup_ne (by omega), gup_self]
              by_cases hk2 : k = m + 5
              · rw [hk2, hwL3e_2, gup_self]
              rw [hwL3e, gup_ne hk2, gup_ne hk1]
              rw [hu6, gup_ne hk0]
              rw [hu5, gup_ne hk0]
              rw [hu4, gup_ne hk0]
              rw [hu3, gup_ne hk0]
              rw [hu2, gup_ne hk0]
              rw [hu1, gup_ne hk0]
              rw [gup_ne hk2, gup_ne hk1, gup_ne hk0]
            exact g_zret C hR hret rfl ⟨rfl, Or.inl ⟨by simp only [okBill, bI_ne0.mp c10, bI_ne0.mp c19, bI_ne0.mp c29, bI_ne0.mp c40, Bool.not_true, Bool.not_false, Bool.and_true, Bool.true_and, Bool.false_and, Bool.and_false, bI_t, bI_f], rfl, hfin3e9⟩⟩ d_M_bill_104
        · skip
          refine g_iconst (v := 0) C d_M_bill_43 (by decide) ?_
          exact g_zret C hR hret rfl ⟨rfl, Or.inr ⟨by simp only [okBill, bI_ne0.mp c10, bI_ne0.mp c19, bI_ne0.mp c29, bI_eq0.mp c40, Bool.not_true, Bool.not_false, Bool.and_true, Bool.true_and, Bool.false_and, Bool.and_false, bI_t, bI_f], rfl, (by first | (rw [hu1]; done) | (rw [hu1]; funext k; simp only [gup]; (repeat' split) <;> first | with_reducible rfl | (exfalso; omega) | rfl))⟩⟩ d_M_bill_44

set_option maxHeartbeats 4000000 in
set_option maxRecDepth 100000 in
theorem k_M_payer (l : Launch) (X : gX) (ad : Nat → Nat) (u : gW) (sz : Nat) (m : Nat) (th cl dr wy ce ra li bi : Int32) (mem lef pay : Nat → Int32) (x n : Int32) (hm : u m = some (mO ad m th cl dr wy ce ra li bi)) (h_mem : u (m + 1) = some (.inl ((X.2 0), 4, .inl mem))) (h_lef : u (m + 3) = some (.inl ((X.2 2), 48, .inl lef))) (h_pay : u (m + 4) = some (.inl ((X.2 0), 12, .inl pay))) (hcl : cl ≤ 4) (hmem : ∀ j, j < 4 → mem j ≤ 12) : gMet l (EE X) y_M_payer c_M_payer 3 (some .boolean) ({ frames := 3, cells := 0, slots := 0, locals := 64 }) [.ref (ad m), .int x, .int n] ad u sz (fun v u' sz' => sz' = sz ∧ ((okPay cl dr mem lef x n = true ∧ v = some (.int 1) ∧ u' = gup (gup u m (mO ad m 0 cl dr wy ce ra li bi)) (m + 4) (.inl ((X.2 0), 12, .inl (upd pay x.toNatClampNeg n)))) ∨ (okPay cl dr mem lef x n = false ∧ v = some (.int 0) ∧ u' = gup u m (mO ad m 0 cl dr wy ce ra li bi)))) := by
  refine gMet_of "ExpenseClubsModel" rfl (by decide) (Nat.le_of_ble_eq_true rfl) (lv := [(0, .ref (ad m)), (1, .int x), (2, .int n)]) rfl (fun Z hZl C hR hret hname => ?_)
  refine g_aload_n C d_M_payer_0 rfl 0 rfl ?_
  refine g_iconst (v := 0) C d_M_payer_1 (by decide) ?_
  refine g_put m 0 C hm rfl i_M t_M t_M_ok n_M (by decide) (gmem wd_518 rfl) rfl rfl rfl rfl (Nat.le_of_ble_eq_true rfl) d_M_payer_2 ?_
  show GW Z _ _ _ ad (gup u m (mO ad m 0 cl dr wy ce ra li bi)) _ _ _ _ _ _
  obtain ⟨u1, hu1⟩ : ∃ z, z = gup u m (mO ad m 0 cl dr wy ce ra li bi) := ⟨_, rfl⟩
  rw [← hu1]
  have hu1_0 : u1 m = some (mO ad m 0 cl dr wy ce ra li bi) := by rw [hu1]; exact gup_self _ _ _
  have hu1_1 : u1 (m + 1) = some (.inl ((X.2 0), 4, .inl mem)) := by rw [hu1, gup_ne (by omega)]; exact h_mem
  have hu1_2 : u1 (m + 3) = some (.inl ((X.2 2), 48, .inl lef)) := by rw [hu1, gup_ne (by omega)]; exact h_lef
  have hu1_3 : u1 (m + 4) = some (.inl ((X.2 0), 12, .inl pay)) := by rw [hu1, gup_ne (by omega)]; exact h_pay
  refine g_aload_n C d_M_payer_5 rfl 0 rfl ?_
  refine g_iload_n C d_M_payer_6 rfl 1 rfl ?_
  refine g_callV 1 C (k_M_stays _ X ad u1 sz m 0 cl dr wy ce ra li bi mem lef x hu1_0 hu1_1 hu1_2 hcl hmem) (gmem wd_659 rfl) (gmem wd_661 rfl) (gmem ws_12 rfl) (gmem wd_4 rfl) (gmem wd_662 rfl) ⟨by decide, by decide, by decide +kernel⟩ ⟨Nat.le_of_ble_eq_true rfl, Nat.le_of_ble_eq_true rfl⟩ hu1_0 rfl rfl rfl (Nat.le_of_ble_eq_true rfl) d_M_payer_7 ⟨Nat.le_of_ble_eq_true rfl, Nat.le_of_ble_eq_true rfl⟩ ?_
  rintro v9 u9 s9 ⟨h9, hu9, hs9⟩; rw [h9, hu9, hs9]; clear h9 hu9 hs9 v9 u9 s9
  show GW Z _ _ _ ad u1 sz [(0, .ref (ad m)), (1, .int x), (2, .int n)] 0 0 10 [.int (bI (staM cl dr mem lef x))]
  refine g_if_eq 23 C d_M_payer_10 (by decide) (fun c10 => ?_) (fun c10 => ?_)
  · skip
    refine g_iconst (v := 0) C d_M_payer_23 (by decide) ?_
    exact g_zret C hR hret rfl ⟨rfl, Or.inr ⟨by simp only [okPay, bI_eq0.mp c10, Bool.not_true, Bool.not_false, Bool.and_true, Bool.true_and, Bool.false_and, Bool.and_false, bI_t, bI_f], rfl, (by first | (rw [hu1]; done) | (rw [hu1]; funext k; simp only [gup]; (repeat' split) <;> first | with_reducible rfl | (exfalso; omega) | rfl))⟩⟩ d_M_payer_24
  · skip
    refine g_iload_n C d_M_payer_13 rfl 2 rfl ?_
    refine g_iconst (v := 0) C d_M_payer_14 (by decide) ?_
    refine g_ldc C (gmem wd_653 rfl) d_M_payer_15 ?_
    refine g_callS 3 C (k_M_within _ X ad u1 sz n 0 100000000) (gmem wd_650 rfl) (gmem wd_651 rfl) (gmem wd_4 rfl) (gmem wd_652 rfl) ⟨by decide, by decide, by decide +kernel⟩ ⟨Nat.le_of_ble_eq_true rfl, Nat.le_of_ble_eq_true rfl⟩ rfl rfl (Nat.le_of_ble_eq_true rfl) d_M_payer_17 ⟨Nat.le_of_ble_eq_true rfl, Nat.le_of_ble_eq_true rfl⟩ ?_
    rintro v9 u9 s9 ⟨h9, hu9, hs9⟩; rw [h9, hu9, hs9]; clear h9 hu9 hs9 v9 u9 s9
    show GW Z _ _ _ ad u1 sz [(0, .ref (ad m)), (1, .int x), (2, .int n)] 0 0 20 [.int (bI (withM n 0 100000000))]
    refine g_if_ne 25 C d_M_payer_20 (by decide) (fun c20 => ?_) (fun c20 => ?_)
    · skip
      refine g_aload_n C d_M_payer_25 rfl 0 rfl ?_
      refine g_get m 9 C hu1_0 rfl i_M (by decide) (gmem wd_527 rfl) rfl rfl d_M_payer_26 ?_
      refine g_iload_n C d_M_payer_29 rfl 1 rfl ?_
      refine g_iload_n C d_M_payer_30 rfl 2 rfl ?_
      refine g_iast (m + 4) 0 C hu1_3 rfl (memM_x (staM_m (bI_ne0.mp c10)) hmem hcl) d_M_payer_31 ?_
      obtain ⟨u2, hu2⟩ : ∃ z, z = gup u1 (m + 4) (.inl ((X.2 0), 12, .inl (upd pay (Int32.toNatClampNeg x) n))) := ⟨_, rfl⟩
      rw [← hu2]
      have hu2_0 : u2 m = some (mO ad m 0 cl dr wy ce ra li bi) := by rw [hu2, gup_ne (by omega)]; exact hu1_0
      have hu2_1 : u2 (m + 1) = some (.inl ((X.2 0), 4, .inl mem)) := by rw [hu2, gup_ne (by omega)]; exact hu1_1
      have hu2_2 : u2 (m + 3) = some (.inl ((X.2 2), 48, .inl lef)) := by rw [hu2, gup_ne (by omega)]; exact hu1_2
      have hu2_3 : u2 (m + 4) = some (.inl ((X.2 0), 12, .inl (upd pay (Int32.toNatClampNeg x) n))) := by rw [hu2]; exact gup_self _ _ _
      refine g_iconst (v := 1) C d_M_payer_32 (by decide) ?_
      exact g_zret C hR hret rfl ⟨rfl, Or.inl ⟨by simp only [okPay, bI_ne0.mp c10, bI_ne0.mp c20, Bool.not_true, Bool.not_false, Bool.and_true, Bool.true_and, Bool.false_and, Bool.and_false, bI_t, bI_f], rfl, (by first | (rw [hu2, hu1]; done) | (rw [hu2, hu1]; funext k; simp only [gup]; (repeat' split) <;> first | with_reducible rfl | (exfalso; omega) | rfl))⟩⟩ d_M_payer_33
    · skip
      refine g_iconst (v := 0) C d_M_payer_23 (by decide) ?_
      exact g_zret C hR hret rfl ⟨rfl, Or.inr ⟨by simp only [okPay, bI_ne0.mp c10, bI_eq0.mp c20, Bool.not_true, Bool.not_false, Bool.and_true, Bool.true_and, Bool.false_and, Bool.and_false, bI_t, bI_f], rfl, (by first | (rw [hu1]; done) | (rw [hu1]; funext k; simp only [gup]; (repeat' split) <;> first | with_reducible rfl | (exfalso; omega) | rfl))⟩⟩ d_M_payer_24

set_option maxHeartbeats 4000000 in
set_option maxRecDepth 100000 in
theorem k_M_weight (l : Launch) (X : gX) (ad : Nat → Nat) (u : gW) (sz : Nat) (m : Nat) (th cl dr wy ce ra li bi : Int32) (mem lef wei : Nat → Int32) (x n : Int32) (hm : u m = some (mO ad m th cl dr wy ce ra li bi)) (h_mem : u (m + 1) = some (.inl ((X.2 0), 4, .inl mem))) (h_lef : u (m + 3) = some (.inl ((X.2 2), 48, .inl lef))) (h_wei : u (m + 5) = some (.inl ((X.2 0), 12, .inl wei))) (hcl : cl ≤ 4) (hmem : ∀ j, j < 4 → mem j ≤ 12) : gMet l (EE X) y_M_weight c_M_weight 4 (some .boolean) ({ frames := 3, cells := 0, slots := 0, locals := 64 }) [.ref (ad m), .int x, .int n] ad u sz (fun v u' sz' => sz' = sz ∧ ((okWei cl dr wy mem lef x n = true ∧ v = some (.int 1) ∧ u' = gup (gup u m (mO ad m 0 cl dr wy ce ra li bi)) (m + 5) (.inl ((X.2 0), 12, .inl (upd wei x.toNatClampNeg n)))) ∨ (okWei cl dr wy mem lef x n = false ∧ v = some (.int 0) ∧ u' = gup u m (mO ad m 0 cl dr wy ce ra li bi)))) := by
  refine gMet_of "ExpenseClubsModel" rfl (by decide) (Nat.le_of_ble_eq_true rfl) (lv := [(0, .ref (ad m)), (1, .int x), (2, .int n)]) rfl (fun Z hZl C hR hret hname => ?_)
  refine g_aload_n C d_M_weight_0 rfl 0 rfl ?_
  refine g_iconst (v := 0) C d_M_weight_1 (by decide) ?_
  refine g_put m 0 C hm rfl i_M t_M t_M_ok n_M (by decide) (gmem wd_518 rfl) rfl rfl rfl rfl (Nat.le_of_ble_eq_true rfl) d_M_weight_2 ?_
  show GW Z _ _ _ ad (gup u m (mO ad m 0 cl dr wy ce ra li bi)) _ _ _ _ _ _
  obtain ⟨u1, hu1⟩ : ∃ z, z = gup u m (mO ad m 0 cl dr wy ce ra li bi) := ⟨_, rfl⟩
  rw [← hu1]
  have hu1_0 : u1 m = some (mO ad m 0 cl dr wy ce ra li bi) := by rw [hu1]; exact gup_self _ _ _
  have hu1_1 : u1 (m + 1) = some (.inl ((X.2 0), 4, .inl mem)) := by rw [hu1, gup_ne (by omega)]; exact h_mem
  have hu1_2 : u1 (m + 3) = some (.inl ((X.2 2), 48, .inl lef)) := by rw [hu1, gup_ne (by omega)]; exact h_lef
  have hu1_3 : u1 (m + 5) = some (.inl ((X.2 0), 12, .inl wei)) := by rw [hu1, gup_ne (by omega)]; exact h_wei
  refine g_aload_n C d_M_weight_5 rfl 0 rfl ?_
  refine g_get m 6 C hu1_0 rfl i_M (by decide) (gmem wd_524 rfl) rfl rfl d_M_weight_6 ?_
  refine g_iconst (v := 1) C d_M_weight_9 (by decide) ?_
  refine g_icmp_ne 17 C d_M_weight_10 (by decide) (fun c10 => ?_) (fun c10 => ?_)
  · skip
    refine g_aload_n C d_M_weight_17 rfl 0 rfl ?_
    refine g_get m 6 C hu1_0 rfl i_M (by decide) (gmem wd_524 rfl) rfl rfl d_M_weight_18 ?_
    refine g_iconst (v := 2) C d_M_weight_21 (by decide) ?_
    refine g_icmp_ne 31 C d_M_weight_22 (by decide) (fun c22 => ?_) (fun c22 => ?_)
    · skip
      refine g_aload_n C d_M_weight_31 rfl 0 rfl ?_
      refine g_get m 6 C hu1_0 rfl i_M (by decide) (gmem wd_524 rfl) rfl rfl d_M_weight_32 ?_
      refine g_iconst (v := 3) C d_M_weight_35 (by decide) ?_
      refine g_icmp_ne 44 C d_M_weight_36 (by decide) (fun c36 => ?_) (fun c36 => ?_)
      · skip
        refine g_sipush (v := 10000) C d_M_weight_44 (by decide) ?_
        refine g_istore_n C d_M_weight_47 rfl [(3, .int 10000), (0, .ref (ad m)), (1, .int x), (2, .int n)] (by decide) rfl ?_
        refine g_aload_n C d_M_weight_48 rfl 1 rfl ?_
        refine g_iload_n C d_M_weight_49 rfl 2 rfl ?_
        refine g_callV 1 C (k_M_stays _ X ad u1 sz m 0 cl dr wy ce ra li bi mem lef x hu1_0 hu1_1 hu1_2 hcl hmem) (gmem wd_659 rfl) (gmem wd_661 rfl) (gmem ws_12 rfl) (gmem wd_4 rfl) (gmem wd_662 rfl) ⟨by decide, by decide, by decide +kernel⟩ ⟨Nat.le_of_ble_eq_true rfl, Nat.le_of_ble_eq_true rfl⟩ hu1_0 rfl rfl rfl (Nat.le_of_ble_eq_true rfl) d_M_weight_50 ⟨Nat.le_of_ble_eq_true rfl, Nat.le_of_ble_eq_true rfl⟩ ?_
        rintro v9 u9 s9 ⟨h9, hu9, hs9⟩; rw [h9, hu9, hs9]; clear h9 hu9 hs9 v9 u9 s9
        show GW Z _ _ _ ad u1 sz [(3, .int 10000), (0, .ref (ad m)), (1, .int x), (2, .int n)] 0 0 53 [.int (bI (staM cl dr mem lef x))]
        refine g_if_eq 73 C d_M_weight_53 (by decide) (fun c53 => ?_) (fun c53 => ?_)
        · skip
          refine g_iconst (v := 0) C d_M_weight_73 (by decide) ?_
          exact g_zret C hR hret rfl ⟨rfl, Or.inr ⟨by simp only [okWei, hiW, decide_eq_false c10, if_neg c10, decide_eq_false c22, if_neg c22, decide_eq_false c36, if_neg c36, bI_eq0.mp c53, Bool.not_true, Bool.not_false, Bool.and_true, Bool.true_and, Bool.false_and, Bool.and_false, bI_t, bI_f], rfl, (by first | (rw [hu1]; done) | (rw [hu1]; funext k; simp only [gup]; (repeat' split) <;> first | with_reducible rfl | (exfalso; omega) | rfl))⟩⟩ d_M_weight_74
        · skip
          refine g_aload_n C d_M_weight_56 rfl 1 rfl ?_
          refine g_get m 6 C hu1_0 rfl i_M (by decide) (gmem wd_524 rfl) rfl rfl d_M_weight_57 ?_
          refine g_iconst (v := 5) C d_M_weight_60 (by decide) ?_
          refine g_icmp_eq 73 C d_M_weight_61 (by decide) (fun c61 => ?_) (fun c61 => ?_)
          · skip
            refine g_iconst (v := 0) C d_M_weight_73 (by decide) ?_
            exact g_zret C hR hret rfl ⟨rfl, Or.inr ⟨by simp only [okWei, hiW, decide_eq_false c10, if_neg c10, decide_eq_false c22, if_neg c22, decide_eq_false c36, if_neg c36, bI_ne0.mp c53, decide_eq_true c61, if_pos c61, Bool.not_true, Bool.not_false, Bool.and_true, Bool.true_and, Bool.false_and, Bool.and_false, bI_t, bI_f], rfl, (by first | (rw [hu1]; done) | (rw [hu1]; funext k; simp only [gup]; (repeat' split) <;> first | with_reducible rfl | (exfalso; omega) | rfl))⟩⟩ d_M_weight_74
          · skip
            refine g_iload_n C d_M_weight_64 rfl 3 rfl ?_
            refine g_iconst (v := 0) C d_M_weight_65 (by decide) ?_
            refine g_iload_n C d_M_weight_66 rfl 0 rfl ?_
            refine g_callS 3 C (k_M_within _ X ad u1 sz n 0 10000) (gmem wd_650 rfl) (gmem wd_651 rfl) (gmem wd_4 rfl) (gmem wd_652 rfl) ⟨by decide, by decide, by decide +kernel⟩ ⟨Nat.le_of_ble_eq_true rfl, Nat.le_of_ble_eq_true rfl⟩ rfl rfl (Nat.le_of_ble_eq_true rfl) d_M_weight_67 ⟨Nat.le_of_ble_eq_true rfl, Nat.le_of_ble_eq_true rfl⟩ ?_
            rintro v9 u9 s9 ⟨h9, hu9, hs9⟩; rw [h9, hu9, hs9]; clear h9 hu9 hs9 v9 u9 s9
            show GW Z _ _ _ ad u1 sz [(3, .int 10000), (0, .ref (ad m)), (1, .int x), (2, .int n)] 0 0 70 [.int (bI (withM n 0 10000))]
            refine g_if_ne 75 C d_M_weight_70 (by decide) (fun c70 => ?_) (fun c70 => ?_)
            · skip
              refine g_aload_n C d_M_weight_75 rfl 1 rfl ?_
              refine g_get m 10 C hu1_0 rfl i_M (by decide) (gmem wd_528 rfl) rfl rfl d_M_weight_76 ?_
              refine g_iload_n C d_M_weight_79 rfl 2 rfl ?_
              refine g_iload_n C d_M_weight_80 rfl 3 rfl ?_
              refine g_iast (m + 5) 0 C hu1_3 rfl (memM_x (staM_m (bI_ne0.mp c53)) hmem hcl) d_M_weight_81 ?_
              obtain ⟨u2, hu2⟩ : ∃ z, z = gup u1 (m + 5) (.inl ((X.2 0), 12, .inl (upd wei (Int32.toNatClampNeg x) n))) := ⟨_, rfl⟩
              rw [← hu2]
              have hu2_0 : u2 m = some (mO ad m 0 cl dr wy ce ra li bi) := by rw [hu2, gup_ne (by omega)]; exact hu1_0
              have hu2_1 : u2 (m + 1) = some (.inl ((X.2 0), 4, .inl mem)) := by rw [hu2, gup_ne (by omega)]; exact hu1_1
              have hu2_2 : u2 (m + 3) = some (.inl ((X.2 2), 48, .inl lef)) := by rw [hu2, gup_ne (by omega)]; exact hu1_2
              have hu2_3 : u2 (m + 5) = some (.inl ((X.2 0), 12, .inl (upd wei (Int32.toNatClampNeg x) n))) := by rw [hu2]; exact gup_self _ _ _
              refine g_iconst (v := 1) C d_M_weight_82 (by decide) ?_
              exact g_zret C hR hret rfl ⟨rfl, Or.inl ⟨by simp only [okWei, hiW, decide_eq_false c10, if_neg c10, decide_eq_false c22, if_neg c22, decide_eq_false c36, if_neg c36, bI_ne0.mp c53, decide_eq_false c61, if_neg c61, bI_ne0.mp c70, Bool.not_true, Bool.not_false, Bool.and_true, Bool.true_and, Bool.false_and, Bool.and_false, bI_t, bI_f], rfl, (by first | (rw [hu2, hu1]; done) | (rw [hu2, hu1]; funext k; simp only [gup]; (repeat' split) <;> first | with_reducible rfl | (exfalso; omega) | rfl))⟩⟩ d_M_weight_83
            · skip
              refine g_iconst (v := 0) C d_M_weight_73 (by decide) ?_
              exact g_zret C hR hret rfl ⟨rfl, Or.inr ⟨by simp only [okWei, hiW, decide_eq_false c10, if_neg c10, decide_eq_false c22, if_neg c22, decide_eq_false c36, if_neg c36, bI_ne0.mp c53, decide_eq_false c61, if_neg c61, bI_eq0.mp c70, Bool.not_true, Bool.not_false, Bool.and_true, Bool.true_and, Bool.false_and, Bool.and_false, bI_t, bI_f], rfl, (by first | (rw [hu1]; done) | (rw [hu1]; funext k; simp only [gup]; (repeat' split) <;> first | with_reducible rfl | (exfalso; omega) | rfl))⟩⟩ d_M_weight_74
      · skip
        refine g_ldc C (gmem wd_653 rfl) d_M_weight_39 ?_
        refine g_goto 47 C d_M_weight_41 (by decide) ?_
        refine g_istore_n C d_M_weight_47 rfl [(3, .int 100000000), (0, .ref (ad m)), (1, .int x), (2, .int n)] (by decide) rfl ?_
        refine g_aload_n C d_M_weight_48 rfl 1 rfl ?_
        refine g_iload_n C d_M_weight_49 rfl 2 rfl ?_
        refine g_callV 1 C (k_M_stays _ X ad u1 sz m 0 cl dr wy ce ra li bi mem lef x hu1_0 hu1_1 hu1_2 hcl hmem) (gmem wd_659 rfl) (gmem wd_661 rfl) (gmem ws_12 rfl) (gmem wd_4 rfl) (gmem wd_662 rfl) ⟨by decide, by decide, by decide +kernel⟩ ⟨Nat.le_of_ble_eq_true rfl, Nat.le_of_ble_eq_true rfl⟩ hu1_0 rfl rfl rfl (Nat.le_of_ble_eq_true rfl) d_M_weight_50 ⟨Nat.le_of_ble_eq_true rfl, Nat.le_of_ble_eq_true rfl⟩ ?_
        rintro v9 u9 s9 ⟨h9, hu9, hs9⟩; rw [h9, hu9, hs9]; clear h9 hu9 hs9 v9 u9 s9
        show GW Z _ _ _ ad u1 sz [(3, .int 100000000), (0, .ref (ad m)), (1, .int x), (2, .int n)] 0 0 53 [.int (bI (staM cl dr mem lef x))]
        refine g_if_eq 73 C d_M_weight_53 (by decide) (fun c53 => ?_) (fun c53 => ?_)
        · skip
          refine g_iconst (v := 0) C d_M_weight_73 (by decide) ?_
          exact g_zret C hR hret rfl ⟨rfl, Or.inr ⟨by simp only [okWei, hiW, decide_eq_false c10, if_neg c10, decide_eq_false c22, if_neg c22, decide_eq_true c36, if_pos c36, bI_eq0.mp c53, Bool.not_true, Bool.not_false, Bool.and_true, Bool.true_and, Bool.false_and, Bool.and_false, bI_t, bI_f], rfl, (by first | (rw [hu1]; done) | (rw [hu1]; funext k; simp only [gup]; (repeat' split) <;> first | with_reducible rfl | (exfalso; omega) | rfl))⟩⟩ d_M_weight_74
        · skip
          refine g_aload_n C d_M_weight_56 rfl 1 rfl ?_
          refine g_get m 6 C hu1_0 rfl i_M (by decide) (gmem wd_524 rfl) rfl rfl d_M_weight_57 ?_
          refine g_iconst (v := 5) C d_M_weight_60 (by decide) ?_
          refine g_icmp_eq 73 C d_M_weight_61 (by decide) (fun c61 => ?_) (fun c61 => ?_)
          · skip
            refine g_iconst (v := 0) C d_M_weight_73 (by decide) ?_
            exact g_zret C hR hret rfl ⟨rfl, Or.inr ⟨by simp only [okWei, hiW, decide_eq_false c10, if_neg c10, decide_eq_false c22, if_neg c22, decide_eq_true c36, if_pos c36, bI_ne0.mp c53, decide_eq_true c61, if_pos c61, Bool.not_true, Bool.not_false, Bool.and_true, Bool.true_and, Bool.false_and, Bool.and_false, bI_t, bI_f], rfl, (by first | (rw [hu1]; done) | (rw [hu1]; funext k; simp only [gup]; (repeat' split) <;> first | with_reducible rfl | (exfalso; omega) | rfl))⟩⟩ d_M_weight_74
          · skip
            refine g_iload_n C d_M_weight_64 rfl 3 rfl ?_
            refine g_iconst (v := 0) C d_M_weight_65 (by decide) ?_
            refine g_iload_n C d_M_weight_66 rfl 0 rfl ?_
            refine g_callS 3 C (k_M_within _ X ad u1 sz n 0 100000000) (gmem wd_650 rfl) (gmem wd_651 rfl) (gmem wd_4 rfl) (gmem wd_652 rfl) ⟨by decide, by decide, by decide +kernel⟩ ⟨Nat.le_of_ble_eq_true rfl, Nat.le_of_ble_eq_true rfl⟩ rfl rfl (Nat.le_of_ble_eq_true rfl) d_M_weight_67 ⟨Nat.le_of_ble_eq_true rfl, Nat.le_of_ble_eq_true rfl⟩ ?_
            rintro v9 u9 s9 ⟨h9, hu9, hs9⟩; rw [h9, hu9, hs9]; clear h9 hu9 hs9 v9 u9 s9
            show GW Z _ _ _ ad u1 sz [(3, .int 100000000), (0, .ref (ad m)), (1, .int x), (2, .int n)] 0 0 70 [.int (bI (withM n 0 100000000))]
            refine g_if_ne 75 C d_M_weight_70 (by decide) (fun c70 => ?_) (fun c70 => ?_)
            · skip
              refine g_aload_n C d_M_weight_75 rfl 1 rfl ?_
              refine g_get m 10 C hu1_0 rfl i_M (by decide) (gmem wd_528 rfl) rfl rfl d_M_weight_76 ?_
              refine g_iload_n C d_M_weight_79 rfl 2 rfl ?_
              refine g_iload_n C d_M_weight_80 rfl 3 rfl ?_
              refine g_iast (m + 5) 0 C hu1_3 rfl (memM_x (staM_m (bI_ne0.mp c53)) hmem hcl) d_M_weight_81 ?_
              obtain ⟨u3, hu3⟩ : ∃ z, z = gup u1 (m + 5) (.inl ((X.2 0), 12, .inl (upd wei (Int32.toNatClampNeg x) n))) := ⟨_, rfl⟩
              rw [← hu3]
              have hu3_0 : u3 m = some (mO ad m 0 cl dr wy ce ra li bi) := by rw [hu3, gup_ne (by omega)]; exact hu1_0
              have hu3_1 : u3 (m + 1) = some (.inl ((X.2 0), 4, .inl mem)) := by rw [hu3, gup_ne (by omega)]; exact hu1_1
              have hu3_2 : u3 (m + 3) = some (.inl ((X.2 2), 48, .inl lef)) := by rw [hu3, gup_ne (by omega)]; exact hu1_2
              have hu3_3 : u3 (m + 5) = some (.inl ((X.2 0), 12, .inl (upd wei (Int32.toNatClampNeg x) n))) := by rw [hu3]; exact gup_self _ _ _
              refine g_iconst (v := 1) C d_M_weight_82 (by decide) ?_
              exact g_zret C hR hret rfl ⟨rfl, Or.inl ⟨by simp only [okWei, hiW, decide_eq_false c10, if_neg c10, decide_eq_false c22, if_neg c22, decide_eq_true c36, if_pos c36, bI_ne0.mp c53, decide_eq_false c61, if_neg c61, bI_ne0.mp c70, Bool.not_true, Bool.not_false, Bool.and_true, Bool.true_and, Bool.false_and, Bool.and_false, bI_t, bI_f], rfl, (by first | (rw [hu3, hu1]; done) | (rw [hu3, hu1]; funext k; simp only [gup]; (repeat' split) <;> first | with_reducible rfl | (exfalso; omega) | rfl))⟩⟩ d_M_weight_83
            · skip
              refine g_iconst (v := 0) C d_M_weight_73 (by decide) ?_
              exact g_zret C hR hret rfl ⟨rfl, Or.inr ⟨by simp only [okWei, hiW, decide_eq_false c10, if_neg c10, decide_eq_false c22, if_neg c22, decide_eq_true c36, if_pos c36, bI_ne0.mp c53, decide_eq_false c61, if_neg c61, bI_eq0.mp c70, Bool.not_true, Bool.not_false, Bool.and_true, Bool.true_and, Bool.false_and, Bool.and_false, bI_t, bI_f], rfl, (by first | (rw [hu1]; done) | (rw [hu1]; funext k; simp only [gup]; (repeat' split) <;> first | with_reducible rfl | (exfalso; omega) | rfl))⟩⟩ d_M_weight_74
    · skip
      refine g_sipush (v := 1000) C d_M_weight_25 (by decide) ?_
      refine g_goto 47 C d_M_weight_28 (by decide) ?_
      refine g_istore_n C d_M_weight_47 rfl [(3, .int 1000), (0, .ref (ad m)), (1, .int x), (2, .int n)] (by decide) rfl ?_
      refine g_aload_n C d_M_weight_48 rfl 1 rfl ?_
      refine g_iload_n C d_M_weight_49 rfl 2 rfl ?_
      refine g_callV 1 C (k_M_stays _ X ad u1 sz m 0 cl dr wy ce ra li bi mem lef x hu1_0 hu1_1 hu1_2 hcl hmem) (gmem wd_659 rfl) (gmem wd_661 rfl) (gmem ws_12 rfl) (gmem wd_4 rfl) (gmem wd_662 rfl) ⟨by decide, by decide, by decide +kernel⟩ ⟨Nat.le_of_ble_eq_true rfl, Nat.le_of_ble_eq_true rfl⟩ hu1_0 rfl rfl rfl (Nat.le_of_ble_eq_true rfl) d_M_weight_50 ⟨Nat.le_of_ble_eq_true rfl, Nat.le_of_ble_eq_true rfl⟩ ?_
      rintro v9 u9 s9 ⟨h9, hu9, hs9⟩; rw [h9, hu9, hs9]; clear h9 hu9 hs9 v9 u9 s9
      show GW Z _ _ _ ad u1 sz [(3, .int 1000), (0, .ref (ad m)), (1, .int x), (2, .int n)] 0 0 53 [.int (bI (staM cl dr mem lef x))]
      refine g_if_eq 73 C d_M_weight_53 (by decide) (fun c53 => ?_) (fun c53 => ?_)
      · skip
        refine g_iconst (v := 0) C d_M_weight_73 (by decide) ?_
        exact g_zret C hR hret rfl ⟨rfl, Or.inr ⟨by simp only [okWei, hiW, decide_eq_false c10, if_neg c10, decide_eq_true c22, if_pos c22, bI_eq0.mp c53, Bool.not_true, Bool.not_false, Bool.and_true, Bool.true_and, Bool.false_and, Bool.and_false, bI_t, bI_f], rfl, (by first | (rw [hu1]; done) | (rw [hu1]; funext k; simp only [gup]; (repeat' split) <;> first | with_reducible rfl | (exfalso; omega) | rfl))⟩⟩ d_M_weight_74
      · skip
        refine g_aload_n C d_M_weight_56 rfl 1 rfl ?_
        refine g_get m 6 C hu1_0 rfl i_M (by decide) (gmem wd_524 rfl) rfl rfl d_M_weight_57 ?_
        refine g_iconst (v := 5) C d_M_weight_60 (by decide) ?_
        refine g_icmp_eq 73 C d_M_weight_61 (by decide) (fun c61 => ?_) (fun c61 => ?_)
        · skip
          refine g_iconst (v := 0) C d_M_weight_73 (by decide) ?_
          exact g_zret C hR hret rfl ⟨rfl, Or.inr ⟨by simp only [okWei, hiW, decide_eq_false c10, if_neg c10, decide_eq_true c22, if_pos c22, bI_ne0.mp c53, decide_eq_true c61, if_pos c61, Bool.not_true, Bool.not_false, Bool.and_true, Bool.true_and, Bool.false_and, Bool.and_false, bI_t, bI_f], rfl, (by first | (rw [hu1]; done) | (rw [hu1]; funext k; simp only [gup]; (repeat' split) <;> first | with_reducible rfl | (exfalso; omega) | rfl))⟩⟩ d_M_weight_74
        · skip
          refine g_iload_n C d_M_weight_64 rfl 3 rfl ?_
          refine g_iconst (v := 0) C d_M_weight_65 (by decide) ?_
          refine g_iload_n C d_M_weight_66 rfl 0 rfl ?_
          refine g_callS 3 C (k_M_within _ X ad u1 sz n 0 1000) (gmem wd_650 rfl) (gmem wd_651 rfl) (gmem wd_4 rfl) (gmem wd_652 rfl) ⟨by decide, by decide, by decide +kernel⟩ ⟨Nat.le_of_ble_eq_true rfl, Nat.le_of_ble_eq_true rfl⟩ rfl rfl (Nat.le_of_ble_eq_true rfl) d_M_weight_67 ⟨Nat.le_of_ble_eq_true rfl, Nat.le_of_ble_eq_true rfl⟩ ?_
          rintro v9 u9 s9 ⟨h9, hu9, hs9⟩; rw [h9, hu9, hs9]; clear h9 hu9 hs9 v9 u9 s9
          show GW Z _ _ _ ad u1 sz [(3, .int 1000), (0, .ref (ad m)), (1, .int x), (2, .int n)] 0 0 70 [.int (bI (withM n 0 1000))]
          refine g_if_ne 75 C d_M_weight_70 (by decide) (fun c70 => ?_) (fun c70 => ?_)
          · skip
            refine g_aload_n C d_M_weight_75 rfl 1 rfl ?_
            refine g_get m 10 C hu1_0 rfl i_M (by decide) (gmem wd_528 rfl) rfl rfl d_M_weight_76 ?_
            refine g_iload_n C d_M_weight_79 rfl 2 rfl ?_
            refine g_iload_n C d_M_weight_80 rfl 3 rfl ?_
            refine g_iast (m + 5) 0 C hu1_3 rfl (memM_x (staM_m (bI_ne0.mp c53)) hmem hcl) d_M_weight_81 ?_
            obtain ⟨u4, hu4⟩ : ∃ z, z = gup u1 (m + 5) (.inl ((X.2 0), 12, .inl (upd wei (Int32.toNatClampNeg x) n))) := ⟨_, rfl⟩
            rw [← hu4]
            have hu4_0 : u4 m = some (mO ad m 0 cl dr wy ce ra li bi) := by rw [hu4, gup_ne (by omega)]; exact hu1_0
            have hu4_1 : u4 (m + 1) = some (.inl ((X.2 0), 4, .inl mem)) := by rw [hu4, gup_ne (by omega)]; exact hu1_1
            have hu4_2 : u4 (m + 3) = some (.inl ((X.2 2), 48, .inl lef)) := by rw [hu4, gup_ne (by omega)]; exact hu1_2
            have hu4_3 : u4 (m + 5) = some (.inl ((X.2 0), 12, .inl (upd wei (Int32.toNatClampNeg x) n))) := by rw [hu4]; exact gup_self _ _ _
            refine g_iconst (v := 1) C d_M_weight_82 (by decide) ?_
            exact g_zret C hR hret rfl ⟨rfl, Or.inl ⟨by simp only [okWei, hiW, decide_eq_false c10, if_neg c10, decide_eq_true c22, if_pos c22, bI_ne0.mp c53, decide_eq_false c61, if_neg c61, bI_ne0.mp c70, Bool.not_true, Bool.not_false, Bool.and_true, Bool.true_and, Bool.false_and, Bool.and_false, bI_t, bI_f], rfl, (by first | (rw [hu4, hu1]; done) | (rw [hu4, hu1]; funext k; simp only [gup]; (repeat' split) <;> first | with_reducible rfl | (exfalso; omega) | rfl))⟩⟩ d_M_weight_83
          · skip
            refine g_iconst (v := 0) C d_M_weight_73 (by decide) ?_
            exact g_zret C hR hret rfl ⟨rfl, Or.inr ⟨by simp only [okWei, hiW, decide_eq_false c10, if_neg c10, decide_eq_true c22, if_pos c22, bI_ne0.mp c53, decide_eq_false c61, if_neg c61, bI_eq0.mp c70, Bool.not_true, Bool.not_false, Bool.and_true, Bool.true_and, Bool.false_and, Bool.and_false, bI_t, bI_f], rfl, (by first | (rw [hu1]; done) | (rw [hu1]; funext k; simp only [gup]; (repeat' split) <;> first | with_reducible rfl | (exfalso; omega) | rfl))⟩⟩ d_M_weight_74
  · skip
    refine g_iconst (v := 1) C d_M_weight_13 (by decide) ?_
    refine g_goto 47 C d_M_weight_14 (by decide) ?_
    refine g_istore_n C d_M_weight_47 rfl [(3, .int 1), (0, .ref (ad m)), (1, .int x), (2, .int n)] (by decide) rfl ?_
    refine g_aload_n C d_M_weight_48 rfl 1 rfl ?_
    refine g_iload_n C d_M_weight_49 rfl 2 rfl ?_
    refine g_callV 1 C (k_M_stays _ X ad u1 sz m 0 cl dr wy ce ra li bi mem lef x hu1_0 hu1_1 hu1_2 hcl hmem) (gmem wd_659 rfl) (gmem wd_661 rfl) (gmem ws_12 rfl) (gmem wd_4 rfl) (gmem wd_662 rfl) ⟨by decide, by decide, by decide +kernel⟩ ⟨Nat.le_of_ble_eq_true rfl, Nat.le_of_ble_eq_true rfl⟩ hu1_0 rfl rfl rfl (Nat.le_of_ble_eq_true rfl) d_M_weight_50 ⟨Nat.le_of_ble_eq_true rfl, Nat.le_of_ble_eq_true rfl⟩ ?_
    rintro v9 u9 s9 ⟨h9, hu9, hs9⟩; rw [h9, hu9, hs9]; clear h9 hu9 hs9 v9 u9 s9
    show GW Z _ _ _ ad u1 sz [(3, .int 1), (0, .ref (ad m)), (1, .int x), (2, .int n)] 0 0 53 [.int (bI (staM cl dr mem lef x))]
    refine g_if_eq 73 C d_M_weight_53 (by decide) (fun c53 => ?_) (fun c53 => ?_)
    · skip
      refine g_iconst (v := 0) C d_M_weight_73 (by decide) ?_
      exact g_zret C hR hret rfl ⟨rfl, Or.inr ⟨by simp only [okWei, hiW, decide_eq_true c10, if_pos c10, bI_eq0.mp c53, Bool.not_true, Bool.not_false, Bool.and_true, Bool.true_and, Bool.false_and, Bool.and_false, bI_t, bI_f], rfl, (by first | (rw [hu1]; done) | (rw [hu1]; funext k; simp only [gup]; (repeat' split) <;> first | with_reducible rfl | (exfalso; omega) | rfl))⟩⟩ d_M_weight_74
    · skip
      refine g_aload_n C d_M_weight_56 rfl 1 rfl ?_
      refine g_get m 6 C hu1_0 rfl i_M (by decide) (gmem wd_524 rfl) rfl rfl d_M_weight_57 ?_
      refine g_iconst (v := 5) C d_M_weight_60 (by decide) ?_
      refine g_icmp_eq 73 C d_M_weight_61 (by decide) (fun c61 => ?_) (fun c61 => ?_)
      · skip
        refine g_iconst (v := 0) C d_M_weight_73 (by decide) ?_
        exact g_zret C hR hret rfl ⟨rfl, Or.inr ⟨by simp only [okWei, hiW, decide_eq_true c10, if_pos c10, bI_ne0.mp c53, decide_eq_true c61, if_pos c61, Bool.not_true, Bool.not_false, Bool.and_true, Bool.true_and, Bool.false_and, Bool.and_false, bI_t, bI_f], rfl, (by first | (rw [hu1]; done) | (rw [hu1]; funext k; simp only [gup]; (repeat' split) <;> first | with_reducible rfl | (exfalso; omega) | rfl))⟩⟩ d_M_weight_74
      · skip
        refine g_iload_n C d_M_weight_64 rfl 3 rfl ?_
        refine g_iconst (v := 0) C d_M_weight_65 (by decide) ?_
        refine g_iload_n C d_M_weight_66 rfl 0 rfl ?_
        refine g_callS 3 C (k_M_within _ X ad u1 sz n 0 1) (gmem wd_650 rfl) (gmem wd_651 rfl) (gmem wd_4 rfl) (gmem wd_652 rfl) ⟨by decide, by decide, by decide +kernel⟩ ⟨Nat.le_of_ble_eq_true rfl, Nat.le_of_ble_eq_true rfl⟩ rfl rfl (Nat.le_of_ble_eq_true rfl) d_M_weight_67 ⟨Nat.le_of_ble_eq_true rfl, Nat.le_of_ble_eq_true rfl⟩ ?_
        rintro v9 u9 s9 ⟨h9, hu9, hs9⟩; rw [h9, hu9, hs9]; clear h9 hu9 hs9 v9 u9 s9
        show GW Z _ _ _ ad u1 sz [(3, .int 1), (0, .ref (ad m)), (1, .int x), (2, .int n)] 0 0 70 [.int (bI (withM n 0 1))]
        refine g_if_ne 75 C d_M_weight_70 (by decide) (fun c70 => ?_) (fun c70 => ?_)
        · skip
          refine g_aload_n C d_M_weight_75 rfl 1 rfl ?_
          refine g_get m 10 C hu1_0 rfl i_M (by decide) (gmem wd_528 rfl) rfl rfl d_M_weight_76 ?_
          refine g_iload_n C d_M_weight_79 rfl 2 rfl ?_
          refine g_iload_n C d_M_weight_80 rfl 3 rfl ?_
          refine g_iast (m + 5) 0 C hu1_3 rfl (memM_x (staM_m (bI_ne0.mp c53)) hmem hcl) d_M_weight_81 ?_
          obtain ⟨u5, hu5⟩ : ∃ z, z = gup u1 (m + 5) (.inl ((X.2 0), 12, .inl (upd wei (Int32.toNatClampNeg x) n))) := ⟨_, rfl⟩
          rw [← hu5]
          have hu5_0 : u5 m = some (mO ad m 0 cl dr wy ce ra li bi) := by rw [hu5, gup_ne (by omega)]; exact hu1_0
          have hu5_1 : u5 (m + 1) = some (.inl ((X.2 0), 4, .inl mem)) := by rw [hu5, gup_ne (by omega)]; exact hu1_1
          have hu5_2 : u5 (m + 3) = some (.inl ((X.2 2), 48, .inl lef)) := by rw [hu5, gup_ne (by omega)]; exact hu1_2
          have hu5_3 : u5 (m + 5) = some (.inl ((X.2 0), 12, .inl (upd wei (Int32.toNatClampNeg x) n))) := by rw [hu5]; exact gup_self _ _ _
          refine g_iconst (v := 1) C d_M_weight_82 (by decide) ?_
          exact g_zret C hR hret rfl ⟨rfl, Or.inl ⟨by simp only [okWei, hiW, decide_eq_true c10, if_pos c10, bI_ne0.mp c53, decide_eq_false c61, if_neg c61, bI_ne0.mp c70, Bool.not_true, Bool.not_false, Bool.and_true, Bool.true_and, Bool.false_and, Bool.and_false, bI_t, bI_f], rfl, (by first | (rw [hu5, hu1]; done) | (rw [hu5, hu1]; funext k; simp only [gup]; (repeat' split) <;> first | with_reducible rfl | (exfalso; omega) | rfl))⟩⟩ d_M_weight_83
        · skip
          refine g_iconst (v := 0) C d_M_weight_73 (by decide) ?_
          exact g_zret C hR hret rfl ⟨rfl, Or.inr ⟨by simp only [okWei, hiW, decide_eq_true c10, if_pos c10, bI_ne0.mp c53, decide_eq_false c61, if_neg c61, bI_eq0.mp c70, Bool.not_true, Bool.not_false, Bool.and_true, Bool.true_and, Bool.false_and, Bool.and_false, bI_t, bI_f], rfl, (by first | (rw [hu1]; done) | (rw [hu1]; funext k; simp only [gup]; (repeat' split) <;> first | with_reducible rfl | (exfalso; omega) | rfl))⟩⟩ d_M_weight_74

theorem in64x {x b : Int32} (h0 : ¬ x < 0) (h1 : ¬ b ≤ x) (hb : b ≤ 64) : vp_in x 64 := by
  rw [vp_in_iff]
  rw [Int32.lt_iff_toInt_lt] at h0
  rw [Int32.le_iff_toInt_le] at h1 hb
  have e1 : (0 : Int32).toInt = 0 := by decide
  have e2 : (64 : Int32).toInt = 64 := by decide
  omega
def okStr (bi : Int32) (str ope cof : Nat → Int32) (b : Int32) : Bool := (!decide (b < 0) && !decide (bi ≤ b)) && (decide (str b.toNatClampNeg = 0) && decide (ope (cof b.toNatClampNeg).toNatClampNeg = 0))
theorem in768 {b m : Int32} (hb : vp_in b 64) (hm : vp_in m 12) : vp_in (12 * b + m) 768 ∧ (12 * b + m).toNatClampNeg = 12 * b.toNatClampNeg + m.toNatClampNeg := by
  obtain ⟨i, h1, h2, h3⟩ := vp_nat hb (by decide)
  obtain ⟨j, g1, g2, g3⟩ := vp_nat hm (by decide)
  have e : 12 * b + m = nI (12 * i + j) := by
    rw [h2, g2, show (12 : Int32) = nI 12 from rfl, pk_mul, nI_add]
  rw [e, h3, g3]
  exact ⟨vp_in_nI (by omega) (by decide), nI_clamp (by omega)⟩
theorem in12y {x : Int32} (h0 : ¬ x < 0) (h1 : x ≤ 11) : vp_in x 12 := by
  rw [vp_in_iff]
  rw [Int32.lt_iff_toInt_lt] at h0
  rw [Int32.le_iff_toInt_le] at h1
  have e1 : (0 : Int32).toInt = 0 := by decide
  have e2 : (11 : Int32).toInt = 11 := by decide
  omega
def aboM (bi b m w : Int32) (sha pai dri : Nat → Int64) : Int64 :=
  if (!decide (b < 0) && (!decide (bi ≤ b) && (!decide (w < 0) && decide (w ≤ 2)))) = false then -1 else if (!decide (m < 0) && decide (m ≤ 11)) = false then 0 else if w = 0 then sha (12 * b.toNatClampNeg + m.toNatClampNeg) else if w = 1 then pai (12 * b.toNatClampNeg + m.toNatClampNeg) else dri (12 * b.toNatClampNeg + m.toNatClampNeg)
def totM (bi b : Int32) (tot : Nat → Int64) : Int64 := if (!decide (b < 0) && decide (b < bi)) = true then tot b.toNatClampNeg else -1
set_option maxHeartbeats 4000000 in
set_option maxRecDepth 100000 in
theorem k_M_strike (l : Launch) (X : gX) (ad : Nat → Nat) (u : gW) (sz : Nat) (m : Nat) (th cl dr wy ce ra li bi : Int32) (cof str ope : Nat → Int32) (b : Int32) (hm : u m = some (mO ad m th cl dr wy ce ra li bi)) (h_cof : u (m + 9) = some (.inl ((X.2 0), 64, .inl cof))) (h_str : u (m + 11) = some (.inl ((X.2 2), 64, .inl str))) (h_ope : u (m + 16) = some (.inl ((X.2 2), 4, .inl ope))) (hbi : bi ≤ 64) (hcof : ∀ b, ¬ b < 0 → ¬ bi ≤ b → vp_in (cof b.toNatClampNeg) 4) : gMet l (EE X) y_M_strike c_M_strike 2 (some .boolean) ({ frames := 0, cells := 0, slots := 0, locals := 0 }) [.ref (ad m), .int b] ad u sz (fun v u' sz' => sz' = sz ∧ ((okStr bi str ope cof b = true ∧ v = some (.int 1) ∧ u' = gup (gup u m (mO ad m 0 cl dr wy ce ra li bi)) (m + 11) (.inl ((X.2 2), 64, .inl (upd str b.toNatClampNeg 1)))) ∨ (okStr bi str ope cof b = false ∧ v = some (.int 0) ∧ u' = gup u m (mO ad m 0 cl dr wy ce ra li bi)))) := by
  refine gMet_of "ExpenseClubsModel" rfl (by decide) (Nat.le_of_ble_eq_true rfl) (lv := [(0, .ref (ad m)), (1, .int b)]) rfl (fun Z hZl C hR hret hname => ?_)
  refine g_aload_n C d_M_strike_0 rfl 0 rfl ?_
  refine g_iconst (v := 0) C d_M_strike_1 (by decide) ?_
  refine g_put m 0 C hm rfl i_M t_M t_M_ok n_M (by decide) (gmem wd_518 rfl) rfl rfl rfl rfl (Nat.le_of_ble_eq_true rfl) d_M_strike_2 ?_
  show GW Z _ _ _ ad (gup u m (mO ad m 0 cl dr wy ce ra li bi)) _ _ _ _ _ _
  obtain ⟨u1, hu1⟩ : ∃ z, z = gup u m (mO ad m 0 cl dr wy ce ra li bi) := ⟨_, rfl⟩
  rw [← hu1]
  have hu1_0 : u1 m = some (mO ad m 0 cl dr wy ce ra li bi) := by rw [hu1]; exact gup_self _ _ _
  have hu1_1 : u1 (m + 9) = some (.inl ((X.2 0), 64, .inl cof)) := by rw [hu1, gup_ne (by omega)]; exact h_cof
  have hu1_2 : u1 (m + 11) = some (.inl ((X.2 2), 64, .inl str)) := by rw [hu1, gup_ne (by omega)]; exact h_str
  have hu1_3 : u1 (m + 16) = some (.inl ((X.2 2), 4, .inl ope)) := by rw [hu1, gup_ne (by omega)]; exact h_ope
  refine g_iload_n C d_M_strike_5 rfl 1 rfl ?_
  refine g_if_lt 40 C d_M_strike_6 (by decide) (fun c6 => ?_) (fun c6 => ?_)
  · skip
    refine g_iconst (v := 0) C d_M_strike_40 (by decide) ?_
    exact g_zret C hR hret rfl ⟨rfl, Or.inr ⟨by simp only [okStr, decide_eq_true c6, if_pos c6, Bool.not_true, Bool.not_false, Bool.and_true, Bool.true_and, Bool.false_and, Bool.and_false, bI_t, bI_f], rfl, (by first | (rw [hu1]; done) | (rw [hu1]; funext k; simp only [gup]; (repeat' split) <;> first | with_reducible rfl | (exfalso; omega) | rfl))⟩⟩ d_M_strike_41
  · skip
    refine g_iload_n C d_M_strike_9 rfl 1 rfl ?_
    refine g_aload_n C d_M_strike_10 rfl 0 rfl ?_
    refine g_get m 15 C hu1_0 rfl i_M (by decide) (gmem wd_533 rfl) rfl rfl d_M_strike_11 ?_
    refine g_icmp_ge 40 C d_M_strike_14 (by decide) (fun c14 => ?_) (fun c14 => ?_)
    · skip
      refine g_iconst (v := 0) C d_M_strike_40 (by decide) ?_
      exact g_zret C hR hret rfl ⟨rfl, Or.inr ⟨by simp only [okStr, decide_eq_false c6, if_neg c6, decide_eq_true c14, if_pos c14, Bool.not_true, Bool.not_false, Bool.and_true, Bool.true_and, Bool.false_and, Bool.and_false, bI_t, bI_f], rfl, (by first | (rw [hu1]; done) | (rw [hu1]; funext k; simp only [gup]; (repeat' split) <;> first | with_reducible rfl | (exfalso; omega) | rfl))⟩⟩ d_M_strike_41
    · skip
      refine g_aload_n C d_M_strike_17 rfl 0 rfl ?_
      refine g_get m 18 C hu1_0 rfl i_M (by decide) (gmem wd_536 rfl) rfl rfl d_M_strike_18 ?_
      refine g_iload_n C d_M_strike_21 rfl 1 rfl ?_
      refine g_zald (m + 11) 2 C hu1_2 rfl (in64x c6 c14 hbi) d_M_strike_22 ?_
      refine g_if_ne 40 C d_M_strike_23 (by decide) (fun c23 => ?_) (fun c23 => ?_)
      · skip
        refine g_iconst (v := 0) C d_M_strike_40 (by decide) ?_
        exact g_zret C hR hret rfl ⟨rfl, Or.inr ⟨by simp only [okStr, decide_eq_false c6, if_neg c6, decide_eq_false c14, if_neg c14, decide_eq_false c23, if_neg c23, Bool.not_true, Bool.not_false, Bool.and_true, Bool.true_and, Bool.false_and, Bool.and_false, bI_t, bI_f], rfl, (by first | (rw [hu1]; done) | (rw [hu1]; funext k; simp only [gup]; (repeat' split) <;> first | with_reducible rfl | (exfalso; omega) | rfl))⟩⟩ d_M_strike_41
      · skip
        refine g_aload_n C d_M_strike_26 rfl 0 rfl ?_
        refine g_get m 23 C hu1_0 rfl i_M (by decide) (gmem wd_541 rfl) rfl rfl d_M_strike_27 ?_
        refine g_aload_n C d_M_strike_30 rfl 0 rfl ?_
        refine g_get m 16 C hu1_0 rfl i_M (by decide) (gmem wd_534 rfl) rfl rfl d_M_strike_31 ?_
        refine g_iload_n C d_M_strike_34 rfl 1 rfl ?_
        refine g_iald (m + 9) 0 C hu1_1 rfl (in64x c6 c14 hbi) d_M_strike_35 ?_
        refine g_zald (m + 16) 2 C hu1_3 rfl (hcof b c6 c14) d_M_strike_36 ?_
        refine g_if_eq 42 C d_M_strike_37 (by decide) (fun c37 => ?_) (fun c37 => ?_)
        · skip
          refine g_aload_n C d_M_strike_42 rfl 0 rfl ?_
          refine g_get m 18 C hu1_0 rfl i_M (by decide) (gmem wd_536 rfl) rfl rfl d_M_strike_43 ?_
          refine g_iload_n C d_M_strike_46 rfl 1 rfl ?_
          refine g_iconst (v := 1) C d_M_strike_47 (by decide) ?_
          refine g_zast (m + 11) 2 C hu1_2 rfl (in64x c6 c14 hbi) d_M_strike_48 ?_
          rw [show vp_nar .boolean 1 = 1 from rfl]
          obtain ⟨u2, hu2⟩ : ∃ z, z = gup u1 (m + 11) (.inl ((X.2 2), 64, .inl (upd str (Int32.toNatClampNeg b) 1))) := ⟨_, rfl⟩
          rw [← hu2]
          have hu2_0 : u2 m = some (mO ad m 0 cl dr wy ce ra li bi) := by rw [hu2, gup_ne (by omega)]; exact hu1_0
          have hu2_1 : u2 (m + 9) = some (.inl ((X.2 0), 64, .inl cof)) := by rw [hu2, gup_ne (by omega)]; exact hu1_1
          have hu2_2 : u2 (m + 11) = some (.inl ((X.2 2), 64, .inl (upd str (Int32.toNatClampNeg b) 1))) := by rw [hu2]; exact gup_self _ _ _
          have hu2_3 : u2 (m + 16) = some (.inl ((X.2 2), 4, .inl ope)) := by rw [hu2, gup_ne (by omega)]; exact hu1_3
          refine g_iconst (v := 1) C d_M_strike_49 (by decide) ?_
          exact g_zret C hR hret rfl ⟨rfl, Or.inl ⟨by simp only [okStr, decide_eq_false c6, if_neg c6, decide_eq_false c14, if_neg c14, decide_eq_true c23, if_pos c23, decide_eq_true c37, if_pos c37, Bool.not_true, Bool.not_false, Bool.and_true, Bool.true_and, Bool.false_and, Bool.and_false, bI_t, bI_f], rfl, (by first | (rw [hu2, hu1]; done) | (rw [hu2, hu1]; funext k; simp only [gup]; (repeat' split) <;> first | with_reducible rfl | (exfalso; omega) | rfl))⟩⟩ d_M_strike_50
        · skip
          refine g_iconst (v := 0) C d_M_strike_40 (by decide) ?_
          exact g_zret C hR hret rfl ⟨rfl, Or.inr ⟨by simp only [okStr, decide_eq_false c6, if_neg c6, decide_eq_false c14, if_neg c14, decide_eq_true c23, if_pos c23, decide_eq_false c37, if_neg c37, Bool.not_true, Bool.not_false, Bool.and_true, Bool.true_and, Bool.false_and, Bool.and_false, bI_t, bI_f], rfl, (by first | (rw [hu1]; done) | (rw [hu1]; funext k; simp only [gup]; (repeat' split) <;> first | with_reducible rfl | (exfalso; omega) | rfl))⟩⟩ d_M_strike_41

set_option maxHeartbeats 4000000 in
set_option maxRecDepth 100000 in
theorem k_M_about (l : Launch) (X : gX) (ad : Nat → Nat) (u : gW) (sz : Nat) (m : Nat) (th cl dr wy ce ra li bi : Int32) (sha pai dri : Nat → Int64) (b x w : Int32) (hm : u m = some (mO ad m th cl dr wy ce ra li bi)) (h_sha : u (m + 12) = some (.inl ((X.2 1), 768, .inr (.inl sha)))) (h_pai : u (m + 13) = some (.inl ((X.2 1), 768, .inr (.inl pai)))) (h_dri : u (m + 14) = some (.inl ((X.2 1), 768, .inr (.inl dri)))) (hbi : bi ≤ 64) : gMet l (EE X) y_M_about c_M_about 4 (some .long) ({ frames := 0, cells := 0, slots := 0, locals := 0 }) [.ref (ad m), .int b, .int x, .int w] ad u sz (fun v u' sz' => v = some (.long (aboM bi b x w sha pai dri)) ∧ u' = gup u m (mO ad m 0 cl dr wy ce ra li bi) ∧ sz' = sz) := by
  refine gMet_of "ExpenseClubsModel" rfl (by decide) (Nat.le_of_ble_eq_true rfl) (lv := [(0, .ref (ad m)), (1, .int b), (2, .int x), (3, .int w)]) rfl (fun Z hZl C hR hret hname => ?_)
  refine g_aload_n C d_M_about_0 rfl 0 rfl ?_
  refine g_iconst (v := 0) C d_M_about_1 (by decide) ?_
  refine g_put m 0 C hm rfl i_M t_M t_M_ok n_M (by decide) (gmem wd_518 rfl) rfl rfl rfl rfl (Nat.le_of_ble_eq_true rfl) d_M_about_2 ?_
  show GW Z _ _ _ ad (gup u m (mO ad m 0 cl dr wy ce ra li bi)) _ _ _ _ _ _
  obtain ⟨u1, hu1⟩ : ∃ z, z = gup u m (mO ad m 0 cl dr wy ce ra li bi) := ⟨_, rfl⟩
  rw [← hu1]
  have hu1_0 : u1 m = some (mO ad m 0 cl dr wy ce ra li bi) := by rw [hu1]; exact gup_self _ _ _
  have hu1_1 : u1 (m + 12) = some (.inl ((X.2 1), 768, .inr (.inl sha))) := by rw [hu1, gup_ne (by omega)]; exact h_sha
  have hu1_2 : u1 (m + 13) = some (.inl ((X.2 1), 768, .inr (.inl pai))) := by rw [hu1, gup_ne (by omega)]; exact h_pai
  have hu1_3 : u1 (m + 14) = some (.inl ((X.2 1), 768, .inr (.inl dri))) := by rw [hu1, gup_ne (by omega)]; exact h_dri
  refine g_iload_n C d_M_about_5 rfl 1 rfl ?_
  refine g_if_lt 26 C d_M_about_6 (by decide) (fun c6 => ?_) (fun c6 => ?_)
  · skip
    refine g_ldc2 C (gmem wd_714 rfl) d_M_about_26 ?_
    exact g_lret C hR hret ⟨by simp only [aboM, decide_eq_true c6, if_pos c6, Bool.not_true, Bool.not_false, Bool.and_true, Bool.true_and, Bool.false_and, Bool.and_false, bI_t, bI_f] <;> (try rfl), (by first | (rw [hu1]; done) | (rw [hu1]; funext k; simp only [gup]; (repeat' split) <;> first | with_reducible rfl | (exfalso; omega) | rfl)), rfl⟩ d_M_about_29
  · skip
    refine g_iload_n C d_M_about_9 rfl 1 rfl ?_
    refine g_aload_n C d_M_about_10 rfl 0 rfl ?_
    refine g_get m 15 C hu1_0 rfl i_M (by decide) (gmem wd_533 rfl) rfl rfl d_M_about_11 ?_
    refine g_icmp_ge 26 C d_M_about_14 (by decide) (fun c14 => ?_) (fun c14 => ?_)
    · skip
      refine g_ldc2 C (gmem wd_714 rfl) d_M_about_26 ?_
      exact g_lret C hR hret ⟨by simp only [aboM, decide_eq_false c6, if_neg c6, decide_eq_true c14, if_pos c14, Bool.not_true, Bool.not_false, Bool.and_true, Bool.true_and, Bool.false_and, Bool.and_false, bI_t, bI_f] <;> (try rfl), (by first | (rw [hu1]; done) | (rw [hu1]; funext k; simp only [gup]; (repeat' split) <;> first | with_reducible rfl | (exfalso; omega) | rfl)), rfl⟩ d_M_about_29
    · skip
      refine g_iload_n C d_M_about_17 rfl 3 rfl ?_
      refine g_if_lt 26 C d_M_about_18 (by decide) (fun c18 => ?_) (fun c18 => ?_)
      · skip
        refine g_ldc2 C (gmem wd_714 rfl) d_M_about_26 ?_
        exact g_lret C hR hret ⟨by simp only [aboM, decide_eq_false c6, if_neg c6, decide_eq_false c14, if_neg c14, decide_eq_true c18, if_pos c18, Bool.not_true, Bool.not_false, Bool.and_true, Bool.true_and, Bool.false_and, Bool.and_false, bI_t, bI_f] <;> (try rfl), (by first | (rw [hu1]; done) | (rw [hu1]; funext k; simp only [gup]; (repeat' split) <;> first | with_reducible rfl | (exfalso; omega) | rfl)), rfl⟩ d_M_about_29
      · skip
        refine g_iload_n C d_M_about_21 rfl 3 rfl ?_
        refine g_iconst (v := 2) C d_M_about_22 (by decide) ?_
        refine g_icmp_le 30 C d_M_about_23 (by decide) (fun c23 => ?_) (fun c23 => ?_)
        · skip
          refine g_iload_n C d_M_about_30 rfl 2 rfl ?_
          refine g_if_lt 40 C d_M_about_31 (by decide) (fun c31 => ?_) (fun c31 => ?_)
          · skip
            refine g_lconst (v := 0) C d_M_about_40 (by decide) ?_
            exact g_lret C hR hret ⟨by simp only [aboM, decide_eq_false c6, if_neg c6, decide_eq_false c14, if_neg c14, decide_eq_false c18, if_neg c18, decide_eq_true c23, if_pos c23, decide_eq_true c31, if_pos c31, Bool.not_true, Bool.not_false, Bool.and_true, Bool.true_and, Bool.false_and, Bool.and_false, bI_t, bI_f] <;> (try rfl), (by first | (rw [hu1]; done) | (rw [hu1]; funext k; simp only [gup]; (repeat' split) <;> first | with_reducible rfl | (exfalso; omega) | rfl)), rfl⟩ d_M_about_41
          · skip
            refine g_iload_n C d_M_about_34 rfl 2 rfl ?_
            refine g_bipush (v := 11) C d_M_about_35 (by decide) ?_
            refine g_icmp_le 42 C d_M_about_37 (by decide) (fun c37 => ?_) (fun c37 => ?_)
            · skip
              refine g_iload_n C d_M_about_42 rfl 3 rfl ?_
              refine g_if_ne 60 C d_M_about_43 (by decide) (fun c43 => ?_) (fun c43 => ?_)
              · skip
                refine g_iload_n C d_M_about_60 rfl 3 rfl ?_
                refine g_iconst (v := 1) C d_M_about_61 (by decide) ?_
                refine g_icmp_ne 79 C d_M_about_62 (by decide) (fun c62 => ?_) (fun c62 => ?_)
                · skip
                  refine g_aload_n C d_M_about_79 rfl 0 rfl ?_
                  refine g_get m 21 C hu1_0 rfl i_M (by decide) (gmem wd_539 rfl) rfl rfl d_M_about_80 ?_
                  refine g_bipush (v := 12) C d_M_about_83 (by decide) ?_
                  refine g_iload_n C d_M_about_85 rfl 1 rfl ?_
                  refine g_imul C d_M_about_86 ?_
                  refine g_iload_n C d_M_about_87 rfl 2 rfl ?_
                  refine g_iadd C d_M_about_88 ?_
                  refine g_lald (m + 14) 1 C hu1_3 rfl (in768 (in64x c6 c14 hbi) (in12y c31 c37)).1 d_M_about_89 ?_
                  rw [show Int32.toNatClampNeg ((12 * b) + x) = 12 * b.toNatClampNeg + x.toNatClampNeg from (in768 (in64x c6 c14 hbi) (in12y c31 c37)).2]
                  exact g_lret C hR hret ⟨by simp only [aboM, decide_eq_false c6, if_neg c6, decide_eq_false c14, if_neg c14, decide_eq_false c18, if_neg c18, decide_eq_true c23, if_pos c23, decide_eq_false c31, if_neg c31, decide_eq_true c37, if_pos c37, decide_eq_false c43, if_neg c43, decide_eq_false c62, if_neg c62, Bool.not_true, Bool.not_false, Bool.and_true, Bool.true_and, Bool.false_and, Bool.and_false, bI_t, bI_f] <;> (try rfl), (by first | (rw [hu1]; done) | (rw [hu1]; funext k; simp only [gup]; (repeat' split) <;> first | with_reducible rfl | (exfalso; omega) | rfl)), rfl⟩ d_M_about_90
                · skip
                  refine g_aload_n C d_M_about_65 rfl 0 rfl ?_
                  refine g_get m 20 C hu1_0 rfl i_M (by decide) (gmem wd_538 rfl) rfl rfl d_M_about_66 ?_
                  refine g_bipush (v := 12) C d_M_about_69 (by decide) ?_
                  refine g_iload_n C d_M_about_71 rfl 1 rfl ?_
                  refine g_imul C d_M_about_72 ?_
                  refine g_iload_n C d_M_about_73 rfl 2 rfl ?_
                  refine g_iadd C d_M_about_74 ?_
                  refine g_lald (m + 13) 1 C hu1_2 rfl (in768 (in64x c6 c14 hbi) (in12y c31 c37)).1 d_M_about_75 ?_
                  rw [show Int32.toNatClampNeg ((12 * b) + x) = 12 * b.toNatClampNeg + x.toNatClampNeg from (in768 (in64x c6 c14 hbi) (in12y c31 c37)).2]
                  refine g_goto 90 C d_M_about_76 (by decide) ?_
                  exact g_lret C hR hret ⟨by simp only [aboM, decide_eq_false c6, if_neg c6, decide_eq_false c14, if_neg c14, decide_eq_false c18, if_neg c18, decide_eq_true c23, if_pos c23, decide_eq_false c31, if_neg c31, decide_eq_true c37, if_pos c37, decide_eq_false c43, if_neg c43, decide_eq_true c62, if_pos c62, Bool.not_true, Bool.not_false, Bool.and_true, Bool.true_and, Bool.false_and, Bool.and_false, bI_t, bI_f] <;> (try rfl), (by first | (rw [hu1]; done) | (rw [hu1]; funext k; simp only [gup]; (repeat' split) <;> first | with_reducible rfl | (exfalso; omega) | rfl)), rfl⟩ d_M_about_90
              · skip
                refine g_aload_n C d_M_about_46 rfl 0 rfl ?_
                refine g_get m 19 C hu1_0 rfl i_M (by decide) (gmem wd_537 rfl) rfl rfl d_M_about_47 ?_
                refine g_bipush (v := 12) C d_M_about_50 (by decide) ?_
                refine g_iload_n C d_M_about_52 rfl 1 rfl ?_
                refine g_imul C d_M_about_53 ?_
                refine g_iload_n C d_M_about_54 rfl 2 rfl ?_
                refine g_iadd C d_M_about_55 ?_
                refine g_lald (m + 12) 1 C hu1_1 rfl (in768 (in64x c6 c14 hbi) (in12y c31 c37)).1 d_M_about_56 ?_
                rw [show Int32.toNatClampNeg ((12 * b) + x) = 12 * b.toNatClampNeg + x.toNatClampNeg from (in768 (in64x c6 c14 hbi) (in12y c31 c37)).2]
                refine g_goto 90 C d_M_about_57 (by decide) ?_
                exact g_lret C hR hret ⟨by simp only [aboM, decide_eq_false c6, if_neg c6, decide_eq_false c14, if_neg c14, decide_eq_false c18, if_neg c18, decide_eq_true c23, if_pos c23, decide_eq_false c31, if_neg c31, decide_eq_true c37, if_pos c37, decide_eq_true c43, if_pos c43, Bool.not_true, Bool.not_false, Bool.and_true, Bool.true_and, Bool.false_and, Bool.and_false, bI_t, bI_f] <;> (try rfl), (by first | (rw [hu1]; done) | (rw [hu1]; funext k; simp only [gup]; (repeat' split) <;> first | with_reducible rfl | (exfalso; omega) | rfl)), rfl⟩ d_M_about_90
            · skip
              refine g_lconst (v := 0) C d_M_about_40 (by decide) ?_
              exact g_lret C hR hret ⟨by simp only [aboM, decide_eq_false c6, if_neg c6, decide_eq_false c14, if_neg c14, decide_eq_false c18, if_neg c18, decide_eq_true c23, if_pos c23, decide_eq_false c31, if_neg c31, decide_eq_false c37, if_neg c37, Bool.not_true, Bool.not_false, Bool.and_true, Bool.true_and, Bool.false_and, Bool.and_false, bI_t, bI_f] <;> (try rfl), (by first | (rw [hu1]; done) | (rw [hu1]; funext k; simp only [gup]; (repeat' split) <;> first | with_reducible rfl | (exfalso; omega) | rfl)), rfl⟩ d_M_about_41
        · skip
          refine g_ldc2 C (gmem wd_714 rfl) d_M_about_26 ?_
          exact g_lret C hR hret ⟨by simp only [aboM, decide_eq_false c6, if_neg c6, decide_eq_false c14, if_neg c14, decide_eq_false c18, if_neg c18, decide_eq_false c23, if_neg c23, Bool.not_true, Bool.not_false, Bool.and_true, Bool.true_and, Bool.false_and, Bool.and_false, bI_t, bI_f] <;> (try rfl), (by first | (rw [hu1]; done) | (rw [hu1]; funext k; simp only [gup]; (repeat' split) <;> first | with_reducible rfl | (exfalso; omega) | rfl)), rfl⟩ d_M_about_29

set_option maxHeartbeats 4000000 in
set_option maxRecDepth 100000 in
theorem k_M_total (l : Launch) (X : gX) (ad : Nat → Nat) (u : gW) (sz : Nat) (m : Nat) (th cl dr wy ce ra li bi : Int32) (tot : Nat → Int64) (b : Int32) (hm : u m = some (mO ad m th cl dr wy ce ra li bi)) (h_tot : u (m + 10) = some (.inl ((X.2 1), 64, .inr (.inl tot)))) (hbi : bi ≤ 64) : gMet l (EE X) y_M_total c_M_total 2 (some .long) ({ frames := 0, cells := 0, slots := 0, locals := 0 }) [.ref (ad m), .int b] ad u sz (fun v u' sz' => v = some (.long (totM bi b tot)) ∧ u' = gup u m (mO ad m 0 cl dr wy ce ra li bi) ∧ sz' = sz) := by
  refine gMet_of "ExpenseClubsModel" rfl (by decide) (Nat.le_of_ble_eq_true rfl) (lv := [(0, .ref (ad m)), (1, .int b)]) rfl (fun Z hZl C hR hret hname => ?_)
  refine g_aload_n C d_M_total_0 rfl 0 rfl ?_
  refine g_iconst (v := 0) C d_M_total_1 (by decide) ?_
  refine g_put m 0 C hm rfl i_M t_M t_M_ok n_M (by decide) (gmem wd_518 rfl) rfl rfl rfl rfl (Nat.le_of_ble_eq_true rfl) d_M_total_2 ?_
  show GW Z _ _ _ ad (gup u m (mO ad m 0 cl dr wy ce ra li bi)) _ _ _ _ _ _
  obtain ⟨u1, hu1⟩ : ∃ z, z = gup u m (mO ad m 0 cl dr wy ce ra li bi) := ⟨_, rfl⟩
  rw [← hu1]
  have hu1_0 : u1 m = some (mO ad m 0 cl dr wy ce ra li bi) := by rw [hu1]; exact gup_self _ _ _
  have hu1_1 : u1 (m + 10) = some (.inl ((X.2 1), 64, .inr (.inl tot))) := by rw [hu1, gup_ne (by omega)]; exact h_tot
  refine g_iload_n C d_M_total_5 rfl 1 rfl ?_
  refine g_if_lt 17 C d_M_total_6 (by decide) (fun c6 => ?_) (fun c6 => ?_)
  · skip
    refine g_ldc2 C (gmem wd_714 rfl) d_M_total_17 ?_
    refine g_goto 29 C d_M_total_20 (by decide) ?_
    exact g_lret C hR hret ⟨by simp only [totM, decide_eq_true c6, if_pos c6, Bool.not_true, Bool.not_false, Bool.and_true, Bool.true_and, Bool.false_and, Bool.and_false, bI_t, bI_f] <;> (try rfl), (by first | (rw [hu1]; done) | (rw [hu1]; funext k; simp only [gup]; (repeat' split) <;> first | with_reducible rfl | (exfalso; omega) | rfl)), rfl⟩ d_M_total_29
  · skip
    refine g_iload_n C d_M_total_9 rfl 1 rfl ?_
    refine g_aload_n C d_M_total_10 rfl 0 rfl ?_
    refine g_get m 15 C hu1_0 rfl i_M (by decide) (gmem wd_533 rfl) rfl rfl d_M_total_11 ?_
    refine g_icmp_lt 23 C d_M_total_14 (by decide) (fun c14 => ?_) (fun c14 => ?_)
    · skip
      refine g_aload_n C d_M_total_23 rfl 0 rfl ?_
      refine g_get m 17 C hu1_0 rfl i_M (by decide) (gmem wd_535 rfl) rfl rfl d_M_total_24 ?_
      refine g_iload_n C d_M_total_27 rfl 1 rfl ?_
      refine g_lald (m + 10) 1 C hu1_1 rfl (in64x c6 (fun h => absurd c14 (Int32.not_lt.mpr h)) hbi) d_M_total_28 ?_
      exact g_lret C hR hret ⟨by simp only [totM, decide_eq_false c6, if_neg c6, decide_eq_true c14, if_pos c14, Bool.not_true, Bool.not_false, Bool.and_true, Bool.true_and, Bool.false_and, Bool.and_false, bI_t, bI_f] <;> (try rfl), (by first | (rw [hu1]; done) | (rw [hu1]; funext k; simp only [gup]; (repeat' split) <;> first | with_reducible rfl | (exfalso; omega) | rfl)), rfl⟩ d_M_total_29
    · skip
      refine g_ldc2 C (gmem wd_714 rfl) d_M_total_17 ?_
      refine g_goto 29 C d_M_total_20 (by decide) ?_
      exact g_lret C hR hret ⟨by simp only [totM, decide_eq_false c6, if_neg c6, decide_eq_false c14, if_neg c14, Bool.not_true, Bool.not_false, Bool.and_true, Bool.true_and, Bool.false_and, Bool.and_false, bI_t, bI_f] <;> (try rfl), (by first | (rw [hu1]; done) | (rw [hu1]; funext k; simp only [gup]; (repeat' split) <;> first | with_reducible rfl | (exfalso; omega) | rfl)), rfl⟩ d_M_total_29

set_option maxHeartbeats 4000000 in
set_option maxRecDepth 100000 in
theorem k_M_thrown (l : Launch) (X : gX) (ad : Nat → Nat) (u : gW) (sz : Nat) (m : Nat) (th cl dr wy ce ra li bi : Int32)  (hm : u m = some (mO ad m th cl dr wy ce ra li bi))  : gMet l (EE X) y_M_thrown c_M_thrown 1 (some .int) ({ frames := 0, cells := 0, slots := 0, locals := 0 }) [.ref (ad m)] ad u sz (fun v u' sz' => v = some (.int th) ∧ u' = u ∧ sz' = sz) := by
  refine gMet_of "ExpenseClubsModel" rfl (by decide) (Nat.le_of_ble_eq_true rfl) (lv := [(0, .ref (ad m))]) rfl (fun Z hZl C hR hret hname => ?_)
  refine g_aload_n C d_M_thrown_0 rfl 0 rfl ?_
  refine g_get m 0 C hm rfl i_M (by decide) (gmem wd_518 rfl) rfl rfl d_M_thrown_1 ?_
  exact g_iret C hR hret ⟨rfl, rfl, rfl⟩ d_M_thrown_4
end
section
theorem geN {b : Int32} {n i : Nat} (h : b = nI n) (hn : n ≤ 4096) (hi : i < n) : ¬ b ≤ nI i := by
  rw [h]; exact fun q => by rw [nI_leI (by omega) (by omega)] at q; omega
theorem leN {b : Int32} {n : Nat} (h : b = nI n) : b ≤ nI n := by rw [h]; exact Int32.le_refl _
theorem in768i {i : Nat} {x : Int32} (hi : i < 64) (hx : vp_in x 12) : vp_in (12 * nI i + x) 768 ∧ (12 * nI i + x).toNatClampNeg = 12 * i + x.toNatClampNeg := by
  have h := in768 (b := nI i) (vp_in_nI hi (by decide)) hx
  rw [nI_clamp (n := i) (by omega)] at h
  exact h
/-- the balance of the model: what was sent, and the bills -/
def balR (cof str : Nat → Int32) (pai sha : Nat → Int64) (c : Int32) (x : Nat) (s0 : Int64) : Nat → Int64
  | 0 => s0
  | b + 1 => balR cof str pai sha c x s0 b + (if cof b = c then (if str b = 0 then pai (12 * b + x) - sha (12 * b + x) else 0) else 0)
def driR (cof str : Nat → Int32) (dri : Nat → Int64) (c : Int32) (x : Nat) : Nat → Int64
  | 0 => 0
  | b + 1 => driR cof str dri c x b + (if cof b = c then (if str b = 0 then dri (12 * b + x) else 0) else 0)
def balM (cl : Int32) (mem cof str : Nat → Int32) (pai sha sen : Nat → Int64) (nb : Nat) (c x : Int32) : Int64 :=
  if memM cl mem c x = true then balR cof str pai sha c x.toNatClampNeg (sen (12 * c.toNatClampNeg + x.toNatClampNeg)) nb else 0
def driM (cl : Int32) (mem cof str : Nat → Int32) (dri : Nat → Int64) (nb : Nat) (c x : Int32) : Int64 :=
  if memM cl mem c x = true then driR cof str dri c x.toNatClampNeg nb else 0
theorem in44 {c : Int32} {i : Nat} (hc : vp_in c 4) (hi : i < 11) : vp_in (11 * c + nI i) 44 ∧ (11 * c + nI i).toNatClampNeg = 11 * c.toNatClampNeg + i := by
  obtain ⟨j, h1, h2, h3⟩ := vp_nat hc (by decide)
  have e : 11 * c + nI i = nI (11 * j + i) := by
    rw [h2, show (11 : Int32) = nI 11 from rfl, pk_mul, nI_add]
  rw [e, h3]
  exact ⟨vp_in_nI (by omega) (by decide), nI_clamp (by omega)⟩
theorem in44x {c i : Int32} (hc : vp_in c 4) (hi : vp_in i 11) : vp_in (11 * c + i) 44 ∧ (11 * c + i).toNatClampNeg = 11 * c.toNatClampNeg + i.toNatClampNeg := by
  obtain ⟨j, h1, h2, h3⟩ := vp_nat hi (by decide)
  rw [h3, h2]
  exact in44 hc h1
def untS (tck : Nat → Int32) (c : Nat) : Nat → Int32
  | 0 => 0
  | i + 1 => untS tck c i + (if tck (11 * c + i) = 0 then 1 else 0)
def isTr (cl : Int32) (ope man : Nat → Int32) (c i : Int32) : Bool := isMb c cl && (!decide (ope c.toNatClampNeg = 0) && (!decide (i < 0) && !decide (man c.toNatClampNeg ≤ i)))
theorem isTr_c {cl : Int32} {ope man : Nat → Int32} {c i : Int32} (h : isTr cl ope man c i = true) (hcl : cl ≤ 4) : vp_in c 4 := in4x (Bool.and_eq_true_iff.mp h).1 hcl
theorem isTr_i {cl : Int32} {ope man : Nat → Int32} {c i : Int32} (h : isTr cl ope man c i = true) (hcl : cl ≤ 4) (hman : ∀ j, j < 4 → ∃ n, n ≤ 11 ∧ man j = nI n) : vp_in i 11 := by
  obtain ⟨j, h1, -, h3⟩ := vp_nat (isTr_c h hcl) (by decide)
  have h2 := (Bool.and_eq_true_iff.mp (Bool.and_eq_true_iff.mp (Bool.and_eq_true_iff.mp h).2).2)
  simp only [Bool.not_eq_true', decide_eq_false_iff_not] at h2
  obtain ⟨n, hn, e⟩ := hman j h1
  rw [h3, e] at h2
  rw [vp_in_iff]
  have g0 := h2.1
  have g1 := h2.2
  rw [Int32.lt_iff_toInt_lt] at g0
  rw [Int32.le_iff_toInt_le, nI_toInt (by omega)] at g1
  have e1 : (0 : Int32).toInt = 0 := by decide
  omega
set_option maxHeartbeats 4000000 in
set_option maxRecDepth 100000 in
theorem k_M_balance (l : Launch) (X : gX) (ad : Nat → Nat) (u : gW) (sz : Nat) (m : Nat) (th cl dr wy ce ra li bi : Int32) (mem cof str : Nat → Int32) (sen pai sha : Nat → Int64) (c x : Int32) (hm : u m = some (mO ad m th cl dr wy ce ra li bi)) (h_mem : u (m + 1) = some (.inl ((X.2 0), 4, .inl mem))) (h_cof : u (m + 9) = some (.inl ((X.2 0), 64, .inl cof))) (h_str : u (m + 11) = some (.inl ((X.2 2), 64, .inl str))) (h_sen : u (m + 15) = some (.inl ((X.2 1), 48, .inr (.inl sen)))) (h_pai : u (m + 13) = some (.inl ((X.2 1), 768, .inr (.inl pai)))) (h_sha : u (m + 12) = some (.inl ((X.2 1), 768, .inr (.inl sha)))) (hcl : cl ≤ 4) (hmem : ∀ j, j < 4 → mem j ≤ 12)(nb : Nat) (hnb : bi = nI nb) (hn64 : nb ≤ 64)  : gMet l (EE X) y_M_balance c_M_balance 6 (some .long) ({ frames := 2, cells := 0, slots := 0, locals := 43 }) [.ref (ad m), .int c, .int x] ad u sz (fun v u' sz' => v = some (.long (balM cl mem cof str pai sha sen nb c x)) ∧ u' = gup u m (mO ad m 0 cl dr wy ce ra li bi) ∧ sz' = sz) := by
  refine gMet_of "ExpenseClubsModel" rfl (by decide) (Nat.le_of_ble_eq_true rfl) (lv := [(0, .ref (ad m)), (1, .int c), (2, .int x)]) rfl (fun Z hZl C hR hret hname => ?_)
  refine g_aload_n C d_M_balance_0 rfl 0 rfl ?_
  refine g_iconst (v := 0) C d_M_balance_1 (by decide) ?_
  refine g_put m 0 C hm rfl i_M t_M t_M_ok n_M (by decide) (gmem wd_518 rfl) rfl rfl rfl rfl (Nat.le_of_ble_eq_true rfl) d_M_balance_2 ?_
  show GW Z _ _ _ ad (gup u m (mO ad m 0 cl dr wy ce ra li bi)) _ _ _ _ _ _
  obtain ⟨u1, hu1⟩ : ∃ z, z = gup u m (mO ad m 0 cl dr wy ce ra li bi) := ⟨_, rfl⟩
  rw [← hu1]
  have hu1_0 : u1 m = some (mO ad m 0 cl dr wy ce ra li bi) := by rw [hu1]; exact gup_self _ _ _
  have hu1_1 : u1 (m + 1) = some (.inl ((X.2 0), 4, .inl mem)) := by rw [hu1, gup_ne (by omega)]; exact h_mem
  have hu1_2 : u1 (m + 9) = some (.inl ((X.2 0), 64, .inl cof)) := by rw [hu1, gup_ne (by omega)]; exact h_cof
  have hu1_3 : u1 (m + 11) = some (.inl ((X.2 2), 64, .inl str)) := by rw [hu1, gup_ne (by omega)]; exact h_str
  have hu1_4 : u1 (m + 15) = some (.inl ((X.2 1), 48, .inr (.inl sen))) := by rw [hu1, gup_ne (by omega)]; exact h_sen
  have hu1_5 : u1 (m + 13) = some (.inl ((X.2 1), 768, .inr (.inl pai))) := by rw [hu1, gup_ne (by omega)]; exact h_pai
  have hu1_6 : u1 (m + 12) = some (.inl ((X.2 1), 768, .inr (.inl sha))) := by rw [hu1, gup_ne (by omega)]; exact h_sha
  refine g_aload_n C d_M_balance_5 rfl 0 rfl ?_
  refine g_iload_n C d_M_balance_6 rfl 1 rfl ?_
  refine g_iload_n C d_M_balance_7 rfl 2 rfl ?_
  refine g_callV 2 C (k_M_isMember _ X ad u1 sz m 0 cl dr wy ce ra li bi mem c x hu1_0 hu1_1 hcl) (gmem wd_638 rfl) (gmem wd_640 rfl) (gmem ws_11 rfl) (gmem wd_4 rfl) (gmem wd_641 rfl) ⟨by decide, by decide, by decide +kernel⟩ ⟨Nat.le_of_ble_eq_true rfl, Nat.le_of_ble_eq_true rfl⟩ hu1_0 rfl rfl rfl (Nat.le_of_ble_eq_true rfl) d_M_balance_8 ⟨Nat.le_of_ble_eq_true rfl, Nat.le_of_ble_eq_true rfl⟩ ?_
  rintro v9 u9 s9 ⟨h9, hu9, hs9⟩; rw [h9, hu9, hs9]; clear h9 hu9 hs9 v9 u9 s9
  show GW Z _ _ _ ad u1 sz [(0, .ref (ad m)), (1, .int c), (2, .int x)] 0 0 11 [.int (bI (memM cl mem c x))]
  refine g_if_ne 16 C d_M_balance_11 (by decide) (fun c11 => ?_) (fun c11 => ?_)
  · skip
    refine g_aload_n C d_M_balance_16 rfl 0 rfl ?_
    refine g_get m 22 C hu1_0 rfl i_M (by decide) (gmem wd_540 rfl) rfl rfl d_M_balance_17 ?_
    refine g_bipush (v := 12) C d_M_balance_20 (by decide) ?_
    refine g_iload_n C d_M_balance_22 rfl 1 rfl ?_
    refine g_imul C d_M_balance_23 ?_
    refine g_iload_n C d_M_balance_24 rfl 2 rfl ?_
    refine g_iadd C d_M_balance_25 ?_
    refine g_lald (m + 15) 1 C hu1_4 rfl (in48 (memM_c (bI_ne0.mp c11) hcl) (memM_x (bI_ne0.mp c11) hmem hcl)).1 d_M_balance_26 ?_
    rw [show Int32.toNatClampNeg ((12 * c) + x) = 12 * c.toNatClampNeg + x.toNatClampNeg from (in48 (memM_c (bI_ne0.mp c11) hcl) (memM_x (bI_ne0.mp c11) hmem hcl)).2]
    refine g_topl (fun x27 ex27 => ?_)
    refine g_lstore_n C d_M_balance_27 rfl [(3, .long x27), (0, .ref (ad m)), (1, .int c), (2, .int x)] (by decide) rfl ?_
    refine g_iconst (v := 0) C d_M_balance_28 (by decide) ?_
    refine g_istore C d_M_balance_29 [(5, .int 0), (3, .long x27), (0, .ref (ad m)), (1, .int c), (2, .int x)] (by decide) rfl ?_
    refine g_fewer (lv' := [(0, .ref (ad m)), (1, .int c), (2, .int x), (3, .long x27), (5, .int 0)]) [2, 3, 4, 1, 0] rfl ?_
    refine GW_eq (u2 := u1) (lv2 := [(0, .ref (ad m)), (1, .int c), (2, .int x), (3, .long (balR cof str pai sha c x.toNatClampNeg (sen (12 * c.toNatClampNeg + x.toNatClampNeg)) 0)), (5, .int (nI 0))]) rfl (by simp only [ex27]; rfl) ?_
    refine g_loop nb (fun iL4 => True) (fun iL4 => u1) (fun iL4 => [(0, .ref (ad m)), (1, .int c), (2, .int x), (3, .long (balR cof str pai sha c x.toNatClampNeg (sen (12 * c.toNatClampNeg + x.toNatClampNeg)) iL4)), (5, .int (nI iL4))]) (fun iL4 hiL4 piL4 KL4 => ?_) (fun piL4 => ?_) 0 (by omega) trivial
    · skip
      show GW Z _ _ _ ad (u1) _ [(0, .ref (ad m)), (1, .int c), (2, .int x), (3, .long (balR cof str pai sha c x.toNatClampNeg (sen (12 * c.toNatClampNeg + x.toNatClampNeg)) iL4)), (5, .int (nI iL4))] _ _ 31 []
      obtain ⟨wL4s, hwL4s⟩ : ∃ z, z = u1 := ⟨_, rfl⟩
      rw [← hwL4s]
      have hwL4s_0 : wL4s m = some (mO ad m 0 cl dr wy ce ra li bi) := by rw [hwL4s]; exact hu1_0
      have hwL4s_1 : wL4s (m + 1) = some (.inl ((X.2 0), 4, .inl mem)) := by rw [hwL4s]; exact hu1_1
      have hwL4s_2 : wL4s (m + 9) = some (.inl ((X.2 0), 64, .inl cof)) := by rw [hwL4s]; exact hu1_2
      have hwL4s_3 : wL4s (m + 11) = some (.inl ((X.2 2), 64, .inl str)) := by rw [hwL4s]; exact hu1_3
      have hwL4s_4 : wL4s (m + 15) = some (.inl ((X.2 1), 48, .inr (.inl sen))) := by rw [hwL4s]; exact hu1_4
      have hwL4s_5 : wL4s (m + 13) = some (.inl ((X.2 1), 768, .inr (.inl pai))) := by rw [hwL4s]; exact hu1_5
      have hwL4s_6 : wL4s (m + 12) = some (.inl ((X.2 1), 768, .inr (.inl sha))) := by rw [hwL4s]; exact hu1_6
      refine g_iload C d_M_balance_31 4 rfl ?_
      refine g_aload_n C d_M_balance_33 rfl 0 rfl ?_
      refine g_get m 15 C hwL4s_0 rfl i_M (by decide) (gmem wd_533 rfl) rfl rfl d_M_balance_34 ?_
      refine g_icmp_ge 99 C d_M_balance_37 (by decide) (fun c4s37 => ?_) (fun c4s37 => ?_)
      · exact absurd c4s37 (geN hnb (by omega) hiL4)
      refine g_lload_n C d_M_balance_40 rfl 3 rfl ?_
      refine g_aload_n C d_M_balance_41 rfl 0 rfl ?_
      refine g_get m 16 C hwL4s_0 rfl i_M (by decide) (gmem wd_534 rfl) rfl rfl d_M_balance_42 ?_
      refine g_iload C d_M_balance_45 4 rfl ?_
      refine g_iald (m + 9) 0 C hwL4s_2 rfl (vp_in_nI (by omega) (by decide)) d_M_balance_47 ?_
      rw [show Int32.toNatClampNeg (nI iL4) = iL4 from nI_clamp (by omega)]
      refine g_iload_n C d_M_balance_48 rfl 1 rfl ?_
      refine g_icmp_ne 90 C d_M_balance_49 (by decide) (fun c4s49 => ?_) (fun c4s49 => ?_)
      · skip
        refine g_lconst (v := 0) C d_M_balance_90 (by decide) ?_
        refine g_ladd C d_M_balance_91 ?_
        refine g_topl (fun x4s92 ex4s92 => ?_)
        refine g_lstore_n C d_M_balance_92 rfl [(3, .long x4s92), (0, .ref (ad m)), (1, .int c), (2, .int x), (5, .int (nI iL4))] (by decide) rfl ?_
        obtain ⟨x4s93, ex4s93⟩ : ∃ y : Int32, y = (nI iL4) + 1 := ⟨_, rfl⟩
        refine g_iinc (v := x4s93) C d_M_balance_93 4 rfl (by rw [ex4s93]; rfl) [(5, .int x4s93), (3, .long x4s92), (0, .ref (ad m)), (1, .int c), (2, .int x)] (by decide) rfl ?_
        refine g_goto 31 C d_M_balance_96 (by decide) ?_
        refine g_fewer (lv' := [(0, .ref (ad m)), (1, .int c), (2, .int x), (3, .long x4s92), (5, .int x4s93)]) [2, 3, 4, 1, 0] rfl ?_
        refine GW_eq (u2 := u1) (lv2 := [(0, .ref (ad m)), (1, .int c), (2, .int x), (3, .long (balR cof str pai sha c x.toNatClampNeg (sen (12 * c.toNatClampNeg + x.toNatClampNeg)) (iL4 + 1))), (5, .int (nI (iL4 + 1)))]) ?_ ?_ (KL4 trivial)
        · first | (rw [hwL4s]; done) | (rw [hwL4s]; funext k; simp only [gup]; (repeat' split) <;> first | with_reducible rfl | (exfalso; omega) | rfl)
        · simp only [ex4s92, ex4s93, nI_1, balR, if_neg c4s49]
      · skip
        refine g_aload_n C d_M_balance_52 rfl 0 rfl ?_
        refine g_get m 18 C hwL4s_0 rfl i_M (by decide) (gmem wd_536 rfl) rfl rfl d_M_balance_53 ?_
        refine g_iload C d_M_balance_56 4 rfl ?_
        refine g_zald (m + 11) 2 C hwL4s_3 rfl (vp_in_nI (by omega) (by decide)) d_M_balance_58 ?_
        rw [show Int32.toNatClampNeg (nI iL4) = iL4 from nI_clamp (by omega)]
        refine g_if_ne 90 C d_M_balance_59 (by decide) (fun c4s59 => ?_) (fun c4s59 => ?_)
        · skip
          refine g_lconst (v := 0) C d_M_balance_90 (by decide) ?_
          refine g_ladd C d_M_balance_91 ?_
          refine g_topl (fun x4s92 ex4s92 => ?_)
          refine g_lstore_n C d_M_balance_92 rfl [(3, .long x4s92), (0, .ref (ad m)), (1, .int c), (2, .int x), (5, .int (nI iL4))] (by decide) rfl ?_
          obtain ⟨x4s93, ex4s93⟩ : ∃ y : Int32, y = (nI iL4) + 1 := ⟨_, rfl⟩
          refine g_iinc (v := x4s93) C d_M_balance_93 4 rfl (by rw [ex4s93]; rfl) [(5, .int x4s93), (3, .long x4s92), (0, .ref (ad m)), (1, .int c), (2, .int x)] (by decide) rfl ?_
          refine g_goto 31 C d_M_balance_96 (by decide) ?_
          refine g_fewer (lv' := [(0, .ref (ad m)), (1, .int c), (2, .int x), (3, .long x4s92), (5, .int x4s93)]) [2, 3, 4, 1, 0] rfl ?_
          refine GW_eq (u2 := u1) (lv2 := [(0, .ref (ad m)), (1, .int c), (2, .int x), (3, .long (balR cof str pai sha c x.toNatClampNeg (sen (12 * c.toNatClampNeg + x.toNatClampNeg)) (iL4 + 1))), (5, .int (nI (iL4 + 1)))]) ?_ ?_ (KL4 trivial)
          · first | (rw [hwL4s]; done) | (rw [hwL4s]; funext k; simp only [gup]; (repeat' split) <;> first | with_reducible rfl | (exfalso; omega) | rfl)
          · simp only [ex4s92, ex4s93, nI_1, balR, if_pos c4s49, if_neg c4s59]
        · skip
          refine g_aload_n C d_M_balance_62 rfl 0 rfl ?_
          refine g_get m 20 C hwL4s_0 rfl i_M (by decide) (gmem wd_538 rfl) rfl rfl d_M_balance_63 ?_
          refine g_bipush (v := 12) C d_M_balance_66 (by decide) ?_
          refine g_iload C d_M_balance_68 4 rfl ?_
          refine g_imul C d_M_balance_70 ?_
          refine g_iload_n C d_M_balance_71 rfl 2 rfl ?_
          refine g_iadd C d_M_balance_72 ?_
          refine g_lald (m + 13) 1 C hwL4s_5 rfl (in768i (i := iL4) (by omega) (memM_x (bI_ne0.mp c11) hmem hcl)).1 d_M_balance_73 ?_
          rw [show Int32.toNatClampNeg ((12 * (nI iL4)) + x) = 12 * iL4 + x.toNatClampNeg from (in768i (i := iL4) (by omega) (memM_x (bI_ne0.mp c11) hmem hcl)).2]
          refine g_aload_n C d_M_balance_74 rfl 0 rfl ?_
          refine g_get m 19 C hwL4s_0 rfl i_M (by decide) (gmem wd_537 rfl) rfl rfl d_M_balance_75 ?_
          refine g_bipush (v := 12) C d_M_balance_78 (by decide) ?_
          refine g_iload C d_M_balance_80 4 rfl ?_
          refine g_imul C d_M_balance_82 ?_
          refine g_iload_n C d_M_balance_83 rfl 2 rfl ?_
          refine g_iadd C d_M_balance_84 ?_
          refine g_lald (m + 12) 1 C hwL4s_6 rfl (in768i (i := iL4) (by omega) (memM_x (bI_ne0.mp c11) hmem hcl)).1 d_M_balance_85 ?_
          rw [show Int32.toNatClampNeg ((12 * (nI iL4)) + x) = 12 * iL4 + x.toNatClampNeg from (in768i (i := iL4) (by omega) (memM_x (bI_ne0.mp c11) hmem hcl)).2]
          refine g_lsub C d_M_balance_86 ?_
          refine g_goto 91 C d_M_balance_87 (by decide) ?_
          refine g_ladd C d_M_balance_91 ?_
          refine g_topl (fun x4s92 ex4s92 => ?_)
          refine g_lstore_n C d_M_balance_92 rfl [(3, .long x4s92), (0, .ref (ad m)), (1, .int c), (2, .int x), (5, .int (nI iL4))] (by decide) rfl ?_
          obtain ⟨x4s93, ex4s93⟩ : ∃ y : Int32, y = (nI iL4) + 1 := ⟨_, rfl⟩
          refine g_iinc (v := x4s93) C d_M_balance_93 4 rfl (by rw [ex4s93]; rfl) [(5, .int x4s93), (3, .long x4s92), (0, .ref (ad m)), (1, .int c), (2, .int x)] (by decide) rfl ?_
          refine g_goto 31 C d_M_balance_96 (by decide) ?_
          refine g_fewer (lv' := [(0, .ref (ad m)), (1, .int c), (2, .int x), (3, .long x4s92), (5, .int x4s93)]) [2, 3, 4, 1, 0] rfl ?_
          refine GW_eq (u2 := u1) (lv2 := [(0, .ref (ad m)), (1, .int c), (2, .int x), (3, .long (balR cof str pai sha c x.toNatClampNeg (sen (12 * c.toNatClampNeg + x.toNatClampNeg)) (iL4 + 1))), (5, .int (nI (iL4 + 1)))]) ?_ ?_ (KL4 trivial)
          · first | (rw [hwL4s]; done) | (rw [hwL4s]; funext k; simp only [gup]; (repeat' split) <;> first | with_reducible rfl | (exfalso; omega) | rfl)
          · simp only [ex4s92, ex4s93, nI_1, balR, if_pos c4s49, if_pos c4s59]
    · skip
      show GW Z _ _ _ ad (u1) _ [(0, .ref (ad m)), (1, .int c), (2, .int x), (3, .long (balR cof str pai sha c x.toNatClampNeg (sen (12 * c.toNatClampNeg + x.toNatClampNeg)) nb)), (5, .int (nI nb))] _ _ 31 []
      obtain ⟨wL4e, hwL4e⟩ : ∃ z, z = u1 := ⟨_, rfl⟩
      rw [← hwL4e]
      have hwL4e_0 : wL4e m = some (mO ad m 0 cl dr wy ce ra li bi) := by rw [hwL4e]; exact hu1_0
      have hwL4e_1 : wL4e (m + 1) = some (.inl ((X.2 0), 4, .inl mem)) := by rw [hwL4e]; exact hu1_1
      have hwL4e_2 : wL4e (m + 9) = some (.inl ((X.2 0), 64, .inl cof)) := by rw [hwL4e]; exact hu1_2
      have hwL4e_3 : wL4e (m + 11) = some (.inl ((X.2 2), 64, .inl str)) := by rw [hwL4e]; exact hu1_3
      have hwL4e_4 : wL4e (m + 15) = some (.inl ((X.2 1), 48, .inr (.inl sen))) := by rw [hwL4e]; exact hu1_4
      have hwL4e_5 : wL4e (m + 13) = some (.inl ((X.2 1), 768, .inr (.inl pai))) := by rw [hwL4e]; exact hu1_5
      have hwL4e_6 : wL4e (m + 12) = some (.inl ((X.2 1), 768, .inr (.inl sha))) := by rw [hwL4e]; exact hu1_6
      refine g_iload C d_M_balance_31 4 rfl ?_
      refine g_aload_n C d_M_balance_33 rfl 0 rfl ?_
      refine g_get m 15 C hwL4e_0 rfl i_M (by decide) (gmem wd_533 rfl) rfl rfl d_M_balance_34 ?_
      refine g_icmp_ge 99 C d_M_balance_37 (by decide) (fun c4e37 => ?_) (fun c4e37 => ?_)
      rotate_left
      · exact absurd (leN hnb) c4e37
      refine g_lload_n C d_M_balance_99 rfl 3 rfl ?_
      exact g_lret C hR hret ⟨by rw [balM, if_pos (bI_ne0.mp c11)], (by first | (rw [hwL4e, hu1]; done) | (rw [hwL4e, hu1]; funext k; simp only [gup]; (repeat' split) <;> first | with_reducible rfl | (exfalso; omega) | rfl)), rfl⟩ d_M_balance_100
  · skip
    refine g_lconst (v := 0) C d_M_balance_14 (by decide) ?_
    exact g_lret C hR hret ⟨by rw [balM, if_neg (by rw [bI_eq0.mp c11]; decide)], (by first | (rw [hu1]; done) | (rw [hu1]; funext k; simp only [gup]; (repeat' split) <;> first | with_reducible rfl | (exfalso; omega) | rfl)), rfl⟩ d_M_balance_15

set_option maxHeartbeats 4000000 in
set_option maxRecDepth 100000 in
theorem k_M_drift (l : Launch) (X : gX) (ad : Nat → Nat) (u : gW) (sz : Nat) (m : Nat) (th cl dr wy ce ra li bi : Int32) (mem cof str : Nat → Int32) (dri : Nat → Int64) (c x : Int32) (hm : u m = some (mO ad m th cl dr wy ce ra li bi)) (h_mem : u (m + 1) = some (.inl ((X.2 0), 4, .inl mem))) (h_cof : u (m + 9) = some (.inl ((X.2 0), 64, .inl cof))) (h_str : u (m + 11) = some (.inl ((X.2 2), 64, .inl str))) (h_dri : u (m + 14) = some (.inl ((X.2 1), 768, .inr (.inl dri)))) (hcl : cl ≤ 4) (hmem : ∀ j, j < 4 → mem j ≤ 12)(nb : Nat) (hnb : bi = nI nb) (hn64 : nb ≤ 64)  : gMet l (EE X) y_M_drift c_M_drift 6 (some .long) ({ frames := 2, cells := 0, slots := 0, locals := 43 }) [.ref (ad m), .int c, .int x] ad u sz (fun v u' sz' => v = some (.long (driM cl mem cof str dri nb c x)) ∧ u' = gup u m (mO ad m 0 cl dr wy ce ra li bi) ∧ sz' = sz) := by
  refine gMet_of "ExpenseClubsModel" rfl (by decide) (Nat.le_of_ble_eq_true rfl) (lv := [(0, .ref (ad m)), (1, .int c), (2, .int x)]) rfl (fun Z hZl C hR hret hname => ?_)
  refine g_aload_n C d_M_drift_0 rfl 0 rfl ?_
  refine g_iconst (v := 0) C d_M_drift_1 (by decide) ?_
  refine g_put m 0 C hm rfl i_M t_M t_M_ok n_M (by decide) (gmem wd_518 rfl) rfl rfl rfl rfl (Nat.le_of_ble_eq_true rfl) d_M_drift_2 ?_
  show GW Z _ _ _ ad (gup u m (mO ad m 0 cl dr wy ce ra li bi)) _ _ _ _ _ _
  obtain ⟨u1, hu1⟩ : ∃ z, z = gup u m (mO ad m 0 cl dr wy ce ra li bi) := ⟨_, rfl⟩
  rw [← hu1]
  have hu1_0 : u1 m = some (mO ad m 0 cl dr wy ce ra li bi) := by rw [hu1]; exact gup_self _ _ _
  have hu1_1 : u1 (m + 1) = some (.inl ((X.2 0), 4, .inl mem)) := by rw [hu1, gup_ne (by omega)]; exact h_mem
  have hu1_2 : u1 (m + 9) = some (.inl ((X.2 0), 64, .inl cof)) := by rw [hu1, gup_ne (by omega)]; exact h_cof
  have hu1_3 : u1 (m + 11) = some (.inl ((X.2 2), 64, .inl str)) := by rw [hu1, gup_ne (by omega)]; exact h_str
  have hu1_4 : u1 (m + 14) = some (.inl ((X.2 1), 768, .inr (.inl dri))) := by rw [hu1, gup_ne (by omega)]; exact h_dri
  refine g_lconst (v := 0) C d_M_drift_5 (by decide) ?_
  refine g_lstore_n C d_M_drift_6 rfl [(3, .long 0), (0, .ref (ad m)), (1, .int c), (2, .int x)] (by decide) rfl ?_
  refine g_iconst (v := 0) C d_M_drift_7 (by decide) ?_
  refine g_istore C d_M_drift_8 [(5, .int 0), (3, .long 0), (0, .ref (ad m)), (1, .int c), (2, .int x)] (by decide) rfl ?_
  by_cases hM : memM cl mem c x = true
  · skip
    refine g_fewer (lv' := [(0, .ref (ad m)), (1, .int c), (2, .int x), (3, .long 0), (5, .int 0)]) [2, 3, 4, 1, 0] rfl ?_
    refine GW_eq (u2 := u1) (lv2 := [(0, .ref (ad m)), (1, .int c), (2, .int x), (3, .long (driR cof str dri c x.toNatClampNeg 0)), (5, .int (nI 0))]) rfl rfl ?_
    refine g_loop nb (fun iL5 => True) (fun iL5 => u1) (fun iL5 => [(0, .ref (ad m)), (1, .int c), (2, .int x), (3, .long (driR cof str dri c x.toNatClampNeg iL5)), (5, .int (nI iL5))]) (fun iL5 hiL5 piL5 KL5 => ?_) (fun piL5 => ?_) 0 (by omega) trivial
    · skip
      show GW Z _ _ _ ad (u1) _ [(0, .ref (ad m)), (1, .int c), (2, .int x), (3, .long (driR cof str dri c x.toNatClampNeg iL5)), (5, .int (nI iL5))] _ _ 10 []
      obtain ⟨wL5s, hwL5s⟩ : ∃ z, z = u1 := ⟨_, rfl⟩
      rw [← hwL5s]
      have hwL5s_0 : wL5s m = some (mO ad m 0 cl dr wy ce ra li bi) := by rw [hwL5s]; exact hu1_0
      have hwL5s_1 : wL5s (m + 1) = some (.inl ((X.2 0), 4, .inl mem)) := by rw [hwL5s]; exact hu1_1
      have hwL5s_2 : wL5s (m + 9) = some (.inl ((X.2 0), 64, .inl cof)) := by rw [hwL5s]; exact hu1_2
      have hwL5s_3 : wL5s (m + 11) = some (.inl ((X.2 2), 64, .inl str)) := by rw [hwL5s]; exact hu1_3
      have hwL5s_4 : wL5s (m + 14) = some (.inl ((X.2 1), 768, .inr (.inl dri))) := by rw [hwL5s]; exact hu1_4
      refine g_iload C d_M_drift_10 4 rfl ?_
      refine g_aload_n C d_M_drift_12 rfl 0 rfl ?_
      refine g_get m 15 C hwL5s_0 rfl i_M (by decide) (gmem wd_533 rfl) rfl rfl d_M_drift_13 ?_
      refine g_icmp_ge 74 C d_M_drift_16 (by decide) (fun c5s16 => ?_) (fun c5s16 => ?_)
      · exact absurd c5s16 (geN hnb (by omega) hiL5)
      refine g_aload_n C d_M_drift_19 rfl 0 rfl ?_
      refine g_iload_n C d_M_drift_20 rfl 1 rfl ?_
      refine g_iload_n C d_M_drift_21 rfl 2 rfl ?_
      refine g_callV 2 C (k_M_isMember _ X ad wL5s sz m 0 cl dr wy ce ra li bi mem c x hwL5s_0 hwL5s_1 hcl) (gmem wd_638 rfl) (gmem wd_640 rfl) (gmem ws_11 rfl) (gmem wd_4 rfl) (gmem wd_641 rfl) ⟨by decide, by decide, by decide +kernel⟩ ⟨Nat.le_of_ble_eq_true rfl, Nat.le_of_ble_eq_true rfl⟩ hwL5s_0 rfl rfl rfl (Nat.le_of_ble_eq_true rfl) d_M_drift_22 ⟨Nat.le_of_ble_eq_true rfl, Nat.le_of_ble_eq_true rfl⟩ ?_
      rintro v9 u9 s9 ⟨h9, hu9, hs9⟩; rw [h9, hu9, hs9]; clear h9 hu9 hs9 v9 u9 s9
      show GW Z _ _ _ ad wL5s sz [(0, .ref (ad m)), (1, .int c), (2, .int x), (3, .long (driR cof str dri c x.toNatClampNeg iL5)), (5, .int (nI iL5))] 0 0 25 [.int (bI (memM cl mem c x))]
      refine g_if_eq 74 C d_M_drift_25 (by decide) (fun c5s25 => ?_) (fun c5s25 => ?_)
      · rw [hM] at c5s25; exact absurd c5s25 (by decide)
      refine g_lload_n C d_M_drift_28 rfl 3 rfl ?_
      refine g_aload_n C d_M_drift_29 rfl 0 rfl ?_
      refine g_get m 16 C hwL5s_0 rfl i_M (by decide) (gmem wd_534 rfl) rfl rfl d_M_drift_30 ?_
      refine g_iload C d_M_drift_33 4 rfl ?_
      refine g_iald (m + 9) 0 C hwL5s_2 rfl (vp_in_nI (by omega) (by decide)) d_M_drift_35 ?_
      rw [show Int32.toNatClampNeg (nI iL5) = iL5 from nI_clamp (by omega)]
      refine g_iload_n C d_M_drift_36 rfl 1 rfl ?_
      refine g_icmp_ne 65 C d_M_drift_37 (by decide) (fun c5s37 => ?_) (fun c5s37 => ?_)
      · skip
        refine g_lconst (v := 0) C d_M_drift_65 (by decide) ?_
        refine g_ladd C d_M_drift_66 ?_
        refine g_topl (fun x5s67 ex5s67 => ?_)
        refine g_lstore_n C d_M_drift_67 rfl [(3, .long x5s67), (0, .ref (ad m)), (1, .int c), (2, .int x), (5, .int (nI iL5))] (by decide) rfl ?_
        obtain ⟨x5s68, ex5s68⟩ : ∃ y : Int32, y = (nI iL5) + 1 := ⟨_, rfl⟩
        refine g_iinc (v := x5s68) C d_M_drift_68 4 rfl (by rw [ex5s68]; rfl) [(5, .int x5s68), (3, .long x5s67), (0, .ref (ad m)), (1, .int c), (2, .int x)] (by decide) rfl ?_
        refine g_goto 10 C d_M_drift_71 (by decide) ?_
        refine g_fewer (lv' := [(0, .ref (ad m)), (1, .int c), (2, .int x), (3, .long x5s67), (5, .int x5s68)]) [2, 3, 4, 1, 0] rfl ?_
        refine GW_eq (u2 := u1) (lv2 := [(0, .ref (ad m)), (1, .int c), (2, .int x), (3, .long (driR cof str dri c x.toNatClampNeg (iL5 + 1))), (5, .int (nI (iL5 + 1)))]) ?_ ?_ (KL5 trivial)
        · first | (rw [hwL5s]; done) | (rw [hwL5s]; funext k; simp only [gup]; (repeat' split) <;> first | with_reducible rfl | (exfalso; omega) | rfl)
        · simp only [ex5s67, ex5s68, nI_1, driR, if_neg c5s37]
      · skip
        refine g_aload_n C d_M_drift_40 rfl 0 rfl ?_
        refine g_get m 18 C hwL5s_0 rfl i_M (by decide) (gmem wd_536 rfl) rfl rfl d_M_drift_41 ?_
        refine g_iload C d_M_drift_44 4 rfl ?_
        refine g_zald (m + 11) 2 C hwL5s_3 rfl (vp_in_nI (by omega) (by decide)) d_M_drift_46 ?_
        rw [show Int32.toNatClampNeg (nI iL5) = iL5 from nI_clamp (by omega)]
        refine g_if_ne 65 C d_M_drift_47 (by decide) (fun c5s47 => ?_) (fun c5s47 => ?_)
        · skip
          refine g_lconst (v := 0) C d_M_drift_65 (by decide) ?_
          refine g_ladd C d_M_drift_66 ?_
          refine g_topl (fun x5s67 ex5s67 => ?_)
          refine g_lstore_n C d_M_drift_67 rfl [(3, .long x5s67), (0, .ref (ad m)), (1, .int c), (2, .int x), (5, .int (nI iL5))] (by decide) rfl ?_
          obtain ⟨x5s68, ex5s68⟩ : ∃ y : Int32, y = (nI iL5) + 1 := ⟨_, rfl⟩
          refine g_iinc (v := x5s68) C d_M_drift_68 4 rfl (by rw [ex5s68]; rfl) [(5, .int x5s68), (3, .long x5s67), (0, .ref (ad m)), (1, .int c), (2, .int x)] (by decide) rfl ?_
          refine g_goto 10 C d_M_drift_71 (by decide) ?_
          refine g_fewer (lv' := [(0, .ref (ad m)), (1, .int c), (2, .int x), (3, .long x5s67), (5, .int x5s68)]) [2, 3, 4, 1, 0] rfl ?_
          refine GW_eq (u2 := u1) (lv2 := [(0, .ref (ad m)), (1, .int c), (2, .int x), (3, .long (driR cof str dri c x.toNatClampNeg (iL5 + 1))), (5, .int (nI (iL5 + 1)))]) ?_ ?_ (KL5 trivial)
          · first | (rw [hwL5s]; done) | (rw [hwL5s]; funext k; simp only [gup]; (repeat' split) <;> first | with_reducible rfl | (exfalso; omega) | rfl)
          · simp only [ex5s67, ex5s68, nI_1, driR, if_pos c5s37, if_neg c5s47]
        · skip
          refine g_aload_n C d_M_drift_50 rfl 0 rfl ?_
          refine g_get m 21 C hwL5s_0 rfl i_M (by decide) (gmem wd_539 rfl) rfl rfl d_M_drift_51 ?_
          refine g_bipush (v := 12) C d_M_drift_54 (by decide) ?_
          refine g_iload C d_M_drift_56 4 rfl ?_
          refine g_imul C d_M_drift_58 ?_
          refine g_iload_n C d_M_drift_59 rfl 2 rfl ?_
          refine g_iadd C d_M_drift_60 ?_
          refine g_lald (m + 14) 1 C hwL5s_4 rfl (in768i (i := iL5) (by omega) (memM_x hM hmem hcl)).1 d_M_drift_61 ?_
          rw [show Int32.toNatClampNeg ((12 * (nI iL5)) + x) = 12 * iL5 + x.toNatClampNeg from (in768i (i := iL5) (by omega) (memM_x hM hmem hcl)).2]
          refine g_goto 66 C d_M_drift_62 (by decide) ?_
          refine g_ladd C d_M_drift_66 ?_
          refine g_topl (fun x5s67 ex5s67 => ?_)
          refine g_lstore_n C d_M_drift_67 rfl [(3, .long x5s67), (0, .ref (ad m)), (1, .int c), (2, .int x), (5, .int (nI iL5))] (by decide) rfl ?_
          obtain ⟨x5s68, ex5s68⟩ : ∃ y : Int32, y = (nI iL5) + 1 := ⟨_, rfl⟩
          refine g_iinc (v := x5s68) C d_M_drift_68 4 rfl (by rw [ex5s68]; rfl) [(5, .int x5s68), (3, .long x5s67), (0, .ref (ad m)), (1, .int c), (2, .int x)] (by decide) rfl ?_
          refine g_goto 10 C d_M_drift_71 (by decide) ?_
          refine g_fewer (lv' := [(0, .ref (ad m)), (1, .int c), (2, .int x), (3, .long x5s67), (5, .int x5s68)]) [2, 3, 4, 1, 0] rfl ?_
          refine GW_eq (u2 := u1) (lv2 := [(0, .ref (ad m)), (1, .int c), (2, .int x), (3, .long (driR cof str dri c x.toNatClampNeg (iL5 + 1))), (5, .int (nI (iL5 + 1)))]) ?_ ?_ (KL5 trivial)
          · first | (rw [hwL5s]; done) | (rw [hwL5s]; funext k; simp only [gup]; (repeat' split) <;> first | with_reducible rfl | (exfalso; omega) | rfl)
          · simp only [ex5s67, ex5s68, nI_1, driR, if_pos c5s37, if_pos c5s47]
    · skip
      show GW Z _ _ _ ad (u1) _ [(0, .ref (ad m)), (1, .int c), (2, .int x), (3, .long (driR cof str dri c x.toNatClampNeg nb)), (5, .int (nI nb))] _ _ 10 []
      obtain ⟨wL5e, hwL5e⟩ : ∃ z, z = u1 := ⟨_, rfl⟩
      rw [← hwL5e]
      have hwL5e_0 : wL5e m = some (mO ad m 0 cl dr wy ce ra li bi) := by rw [hwL5e]; exact hu1_0
      have hwL5e_1 : wL5e (m + 1) = some (.inl ((X.2 0), 4, .inl mem)) := by rw [hwL5e]; exact hu1_1
      have hwL5e_2 : wL5e (m + 9) = some (.inl ((X.2 0), 64, .inl cof)) := by rw [hwL5e]; exact hu1_2
      have hwL5e_3 : wL5e (m + 11) = some (.inl ((X.2 2), 64, .inl str)) := by rw [hwL5e]; exact hu1_3
      have hwL5e_4 : wL5e (m + 14) = some (.inl ((X.2 1), 768, .inr (.inl dri))) := by rw [hwL5e]; exact hu1_4
      refine g_iload C d_M_drift_10 4 rfl ?_
      refine g_aload_n C d_M_drift_12 rfl 0 rfl ?_
      refine g_get m 15 C hwL5e_0 rfl i_M (by decide) (gmem wd_533 rfl) rfl rfl d_M_drift_13 ?_
      refine g_icmp_ge 74 C d_M_drift_16 (by decide) (fun c5e16 => ?_) (fun c5e16 => ?_)
      rotate_left
      · exact absurd (leN hnb) c5e16
      refine g_lload_n C d_M_drift_74 rfl 3 rfl ?_
      exact g_lret C hR hret ⟨by rw [driM, if_pos hM], (by first | (rw [hwL5e, hu1]; done) | (rw [hwL5e, hu1]; funext k; simp only [gup]; (repeat' split) <;> first | with_reducible rfl | (exfalso; omega) | rfl)), rfl⟩ d_M_drift_75
  · skip
    refine g_iload C d_M_drift_10 0 rfl ?_
    refine g_aload_n C d_M_drift_12 rfl 2 rfl ?_
    refine g_get m 15 C hu1_0 rfl i_M (by decide) (gmem wd_533 rfl) rfl rfl d_M_drift_13 ?_
    refine g_icmp_ge 74 C d_M_drift_16 (by decide) (fun cz16 => ?_) (fun cz16 => ?_)
    · skip
      refine g_lload_n C d_M_drift_74 rfl 1 rfl ?_
      exact g_lret C hR hret ⟨by rw [driM, if_neg hM], (by first | (rw [hu1]; done) | (rw [hu1]; funext k; simp only [gup]; (repeat' split) <;> first | with_reducible rfl | (exfalso; omega) | rfl)), rfl⟩ d_M_drift_75
    · skip
      refine g_aload_n C d_M_drift_19 rfl 2 rfl ?_
      refine g_iload_n C d_M_drift_20 rfl 3 rfl ?_
      refine g_iload_n C d_M_drift_21 rfl 4 rfl ?_
      refine g_callV 2 C (k_M_isMember _ X ad u1 sz m 0 cl dr wy ce ra li bi mem c x hu1_0 hu1_1 hcl) (gmem wd_638 rfl) (gmem wd_640 rfl) (gmem ws_11 rfl) (gmem wd_4 rfl) (gmem wd_641 rfl) ⟨by decide, by decide, by decide +kernel⟩ ⟨Nat.le_of_ble_eq_true rfl, Nat.le_of_ble_eq_true rfl⟩ hu1_0 rfl rfl rfl (Nat.le_of_ble_eq_true rfl) d_M_drift_22 ⟨Nat.le_of_ble_eq_true rfl, Nat.le_of_ble_eq_true rfl⟩ ?_
      rintro v9 u9 s9 ⟨h9, hu9, hs9⟩; rw [h9, hu9, hs9]; clear h9 hu9 hs9 v9 u9 s9
      show GW Z _ _ _ ad u1 sz [(5, .int 0), (3, .long 0), (0, .ref (ad m)), (1, .int c), (2, .int x)] 0 0 25 [.int (bI (memM cl mem c x))]
      refine g_if_eq 74 C d_M_drift_25 (by decide) (fun cz25 => ?_) (fun cz25 => ?_)
      rotate_left
      · exact absurd (show bI (memM cl mem c x) = 0 by rw [Bool.not_eq_true _ |>.mp hM]; rfl) cz25
      refine g_lload_n C d_M_drift_74 rfl 1 rfl ?_
      exact g_lret C hR hret ⟨by rw [driM, if_neg hM], (by first | (rw [hu1]; done) | (rw [hu1]; funext k; simp only [gup]; (repeat' split) <;> first | with_reducible rfl | (exfalso; omega) | rfl)), rfl⟩ d_M_drift_75

set_option maxHeartbeats 4000000 in
set_option maxRecDepth 100000 in
theorem k_M_unticked (l : Launch) (X : gX) (ad : Nat → Nat) (u : gW) (sz : Nat) (m : Nat) (th cl dr wy ce ra li bi : Int32) (man tck : Nat → Int32) (c : Int32) (hm : u m = some (mO ad m th cl dr wy ce ra li bi)) (h_man : u (m + 19) = some (.inl ((X.2 0), 4, .inl man))) (h_tck : u (m + 23) = some (.inl ((X.2 2), 44, .inl tck))) (k : Nat) (hc : vp_in c 4) (hk : man c.toNatClampNeg = nI k) (hk11 : k ≤ 11) : gMet l (EE X) y_M_unticked c_M_unticked 4 (some .int) ({ frames := 0, cells := 0, slots := 0, locals := 0 }) [.ref (ad m), .int c] ad u sz (fun v u' sz' => v = some (.int (untS tck c.toNatClampNeg k)) ∧ u' = u ∧ sz' = sz) := by
  refine gMet_of "ExpenseClubsModel" rfl (by decide) (Nat.le_of_ble_eq_true rfl) (lv := [(0, .ref (ad m)), (1, .int c)]) rfl (fun Z hZl C hR hret hname => ?_)
  refine g_iconst (v := 0) C d_M_unticked_0 (by decide) ?_
  refine g_istore_n C d_M_unticked_1 rfl [(2, .int 0), (0, .ref (ad m)), (1, .int c)] (by decide) rfl ?_
  refine g_iconst (v := 0) C d_M_unticked_2 (by decide) ?_
  refine g_istore_n C d_M_unticked_3 rfl [(3, .int 0), (2, .int 0), (0, .ref (ad m)), (1, .int c)] (by decide) rfl ?_
  refine g_fewer (lv' := [(0, .ref (ad m)), (1, .int c), (2, .int 0), (3, .int 0)]) [2, 3, 1, 0] rfl ?_
  refine GW_eq (u2 := u) (lv2 := [(0, .ref (ad m)), (1, .int c), (2, .int (untS tck c.toNatClampNeg 0)), (3, .int (nI 0))]) rfl rfl ?_
  refine g_loop k (fun iL6 => True) (fun iL6 => u) (fun iL6 => [(0, .ref (ad m)), (1, .int c), (2, .int (untS tck c.toNatClampNeg iL6)), (3, .int (nI iL6))]) (fun iL6 hiL6 piL6 KL6 => ?_) (fun piL6 => ?_) 0 (by omega) trivial
  · skip
    show GW Z _ _ _ ad (u) _ [(0, .ref (ad m)), (1, .int c), (2, .int (untS tck c.toNatClampNeg iL6)), (3, .int (nI iL6))] _ _ 4 []
    obtain ⟨wL6s, hwL6s⟩ : ∃ z, z = u := ⟨_, rfl⟩
    rw [← hwL6s]
    have hwL6s_0 : wL6s m = some (mO ad m th cl dr wy ce ra li bi) := by rw [hwL6s]; exact hm
    have hwL6s_1 : wL6s (m + 19) = some (.inl ((X.2 0), 4, .inl man)) := by rw [hwL6s]; exact h_man
    have hwL6s_2 : wL6s (m + 23) = some (.inl ((X.2 2), 44, .inl tck)) := by rw [hwL6s]; exact h_tck
    refine g_iload_n C d_M_unticked_4 rfl 3 rfl ?_
    refine g_aload_n C d_M_unticked_5 rfl 0 rfl ?_
    refine g_get m 26 C hwL6s_0 rfl i_M (by decide) (gmem wd_544 rfl) rfl rfl d_M_unticked_6 ?_
    refine g_iload_n C d_M_unticked_9 rfl 1 rfl ?_
    refine g_iald (m + 19) 0 C hwL6s_1 rfl hc d_M_unticked_10 ?_
    refine g_icmp_ge 42 C d_M_unticked_11 (by decide) (fun c6s11 => ?_) (fun c6s11 => ?_)
    · exact absurd c6s11 (geN hk (by omega) hiL6)
    refine g_iload_n C d_M_unticked_14 rfl 2 rfl ?_
    refine g_aload_n C d_M_unticked_15 rfl 0 rfl ?_
    refine g_get m 30 C hwL6s_0 rfl i_M (by decide) (gmem wd_548 rfl) rfl rfl d_M_unticked_16 ?_
    refine g_bipush (v := 11) C d_M_unticked_19 (by decide) ?_
    refine g_iload_n C d_M_unticked_21 rfl 1 rfl ?_
    refine g_imul C d_M_unticked_22 ?_
    refine g_iload_n C d_M_unticked_23 rfl 3 rfl ?_
    refine g_iadd C d_M_unticked_24 ?_
    refine g_zald (m + 23) 2 C hwL6s_2 rfl (in44 (i := iL6) hc (by omega)).1 d_M_unticked_25 ?_
    rw [show Int32.toNatClampNeg ((11 * c) + (nI iL6)) = 11 * c.toNatClampNeg + iL6 from (in44 (i := iL6) hc (by omega)).2]
    refine g_if_eq 33 C d_M_unticked_26 (by decide) (fun c6s26 => ?_) (fun c6s26 => ?_)
    · skip
      refine g_iconst (v := 1) C d_M_unticked_33 (by decide) ?_
      refine g_iadd C d_M_unticked_34 ?_
      refine g_topi (fun x6s35 ex6s35 => ?_)
      refine g_istore_n C d_M_unticked_35 rfl [(2, .int x6s35), (0, .ref (ad m)), (1, .int c), (3, .int (nI iL6))] (by decide) rfl ?_
      obtain ⟨x6s36, ex6s36⟩ : ∃ y : Int32, y = (nI iL6) + 1 := ⟨_, rfl⟩
      refine g_iinc (v := x6s36) C d_M_unticked_36 3 rfl (by rw [ex6s36]; rfl) [(3, .int x6s36), (2, .int x6s35), (0, .ref (ad m)), (1, .int c)] (by decide) rfl ?_
      refine g_goto 4 C d_M_unticked_39 (by decide) ?_
      refine g_fewer (lv' := [(0, .ref (ad m)), (1, .int c), (2, .int x6s35), (3, .int x6s36)]) [2, 3, 1, 0] rfl ?_
      refine GW_eq (u2 := u) (lv2 := [(0, .ref (ad m)), (1, .int c), (2, .int (untS tck c.toNatClampNeg (iL6 + 1))), (3, .int (nI (iL6 + 1)))]) ?_ ?_ (KL6 trivial)
      · first | (rw [hwL6s]; done) | (rw [hwL6s]; funext k; simp only [gup]; (repeat' split) <;> first | with_reducible rfl | (exfalso; omega) | rfl)
      · simp only [ex6s35, ex6s36, nI_1, untS, if_pos c6s26]
    · skip
      refine g_iconst (v := 0) C d_M_unticked_29 (by decide) ?_
      refine g_goto 34 C d_M_unticked_30 (by decide) ?_
      refine g_iadd C d_M_unticked_34 ?_
      refine g_topi (fun x6s35 ex6s35 => ?_)
      refine g_istore_n C d_M_unticked_35 rfl [(2, .int x6s35), (0, .ref (ad m)), (1, .int c), (3, .int (nI iL6))] (by decide) rfl ?_
      obtain ⟨x6s36, ex6s36⟩ : ∃ y : Int32, y = (nI iL6) + 1 := ⟨_, rfl⟩
      refine g_iinc (v := x6s36) C d_M_unticked_36 3 rfl (by rw [ex6s36]; rfl) [(3, .int x6s36), (2, .int x6s35), (0, .ref (ad m)), (1, .int c)] (by decide) rfl ?_
      refine g_goto 4 C d_M_unticked_39 (by decide) ?_
      refine g_fewer (lv' := [(0, .ref (ad m)), (1, .int c), (2, .int x6s35), (3, .int x6s36)]) [2, 3, 1, 0] rfl ?_
      refine GW_eq (u2 := u) (lv2 := [(0, .ref (ad m)), (1, .int c), (2, .int (untS tck c.toNatClampNeg (iL6 + 1))), (3, .int (nI (iL6 + 1)))]) ?_ ?_ (KL6 trivial)
      · first | (rw [hwL6s]; done) | (rw [hwL6s]; funext k; simp only [gup]; (repeat' split) <;> first | with_reducible rfl | (exfalso; omega) | rfl)
      · simp only [ex6s35, ex6s36, nI_1, untS, if_neg c6s26]
  · skip
    show GW Z _ _ _ ad (u) _ [(0, .ref (ad m)), (1, .int c), (2, .int (untS tck c.toNatClampNeg k)), (3, .int (nI k))] _ _ 4 []
    obtain ⟨wL6e, hwL6e⟩ : ∃ z, z = u := ⟨_, rfl⟩
    rw [← hwL6e]
    have hwL6e_0 : wL6e m = some (mO ad m th cl dr wy ce ra li bi) := by rw [hwL6e]; exact hm
    have hwL6e_1 : wL6e (m + 19) = some (.inl ((X.2 0), 4, .inl man)) := by rw [hwL6e]; exact h_man
    have hwL6e_2 : wL6e (m + 23) = some (.inl ((X.2 2), 44, .inl tck)) := by rw [hwL6e]; exact h_tck
    refine g_iload_n C d_M_unticked_4 rfl 3 rfl ?_
    refine g_aload_n C d_M_unticked_5 rfl 0 rfl ?_
    refine g_get m 26 C hwL6e_0 rfl i_M (by decide) (gmem wd_544 rfl) rfl rfl d_M_unticked_6 ?_
    refine g_iload_n C d_M_unticked_9 rfl 1 rfl ?_
    refine g_iald (m + 19) 0 C hwL6e_1 rfl hc d_M_unticked_10 ?_
    refine g_icmp_ge 42 C d_M_unticked_11 (by decide) (fun c6e11 => ?_) (fun c6e11 => ?_)
    rotate_left
    · exact absurd (leN hk) c6e11
    refine g_iload_n C d_M_unticked_42 rfl 2 rfl ?_
    exact g_iret C hR hret ⟨rfl, (by first | (rw [hwL6e]; done) | (rw [hwL6e]; funext k; simp only [gup]; (repeat' split) <;> first | with_reducible rfl | (exfalso; omega) | rfl)), rfl⟩ d_M_unticked_43

set_option maxHeartbeats 4000000 in
set_option maxRecDepth 100000 in
theorem k_M_isTransfer (l : Launch) (X : gX) (ad : Nat → Nat) (u : gW) (sz : Nat) (m : Nat) (th cl dr wy ce ra li bi : Int32) (ope man : Nat → Int32) (c i : Int32) (hm : u m = some (mO ad m th cl dr wy ce ra li bi)) (h_ope : u (m + 16) = some (.inl ((X.2 2), 4, .inl ope))) (h_man : u (m + 19) = some (.inl ((X.2 0), 4, .inl man))) (hcl : cl ≤ 4) : gMet l (EE X) y_M_isTransfer c_M_isTransfer 3 (some .boolean) ({ frames := 1, cells := 0, slots := 0, locals := 21 }) [.ref (ad m), .int c, .int i] ad u sz (fun v u' sz' => v = some (.int (bI (isTr cl ope man c i))) ∧ u' = u ∧ sz' = sz) := by
  refine gMet_of "ExpenseClubsModel" rfl (by decide) (Nat.le_of_ble_eq_true rfl) (lv := [(0, .ref (ad m)), (1, .int c), (2, .int i)]) rfl (fun Z hZl C hR hret hname => ?_)
  refine g_aload_n C d_M_isTransfer_0 rfl 0 rfl ?_
  refine g_iload_n C d_M_isTransfer_1 rfl 1 rfl ?_
  refine g_callV 1 C (k_M_isClub _ X ad u sz m th cl dr wy ce ra li bi  c hm ) (gmem wd_630 rfl) (gmem wd_632 rfl) (gmem ws_10 rfl) (gmem wd_4 rfl) (gmem wd_633 rfl) ⟨by decide, by decide, by decide +kernel⟩ ⟨Nat.le_of_ble_eq_true rfl, Nat.le_of_ble_eq_true rfl⟩ hm rfl rfl rfl (Nat.le_of_ble_eq_true rfl) d_M_isTransfer_2 ⟨Nat.le_of_ble_eq_true rfl, Nat.le_of_ble_eq_true rfl⟩ ?_
  rintro v9 u9 s9 ⟨h9, hu9, hs9⟩; rw [h9, hu9, hs9]; clear h9 hu9 hs9 v9 u9 s9
  show GW Z _ _ _ ad u sz [(0, .ref (ad m)), (1, .int c), (2, .int i)] 0 0 5 [.int (bI (isMb c cl))]
  refine g_if_eq 35 C d_M_isTransfer_5 (by decide) (fun c5 => ?_) (fun c5 => ?_)
  · skip
    refine g_iconst (v := 0) C d_M_isTransfer_35 (by decide) ?_
    exact g_zret C hR hret rfl ⟨by simp only [isTr, bI_eq0.mp c5, Bool.not_true, Bool.not_false, Bool.and_true, Bool.true_and, Bool.false_and, Bool.and_false, bI_t, bI_f], rfl, rfl⟩ d_M_isTransfer_36
  · skip
    refine g_aload_n C d_M_isTransfer_8 rfl 0 rfl ?_
    refine g_get m 23 C hm rfl i_M (by decide) (gmem wd_541 rfl) rfl rfl d_M_isTransfer_9 ?_
    refine g_iload_n C d_M_isTransfer_12 rfl 1 rfl ?_
    refine g_zald (m + 16) 2 C h_ope rfl (in4x (bI_ne0.mp c5) hcl) d_M_isTransfer_13 ?_
    refine g_if_eq 35 C d_M_isTransfer_14 (by decide) (fun c14 => ?_) (fun c14 => ?_)
    · skip
      refine g_iconst (v := 0) C d_M_isTransfer_35 (by decide) ?_
      exact g_zret C hR hret rfl ⟨by simp only [isTr, bI_ne0.mp c5, decide_eq_true c14, if_pos c14, Bool.not_true, Bool.not_false, Bool.and_true, Bool.true_and, Bool.false_and, Bool.and_false, bI_t, bI_f], rfl, rfl⟩ d_M_isTransfer_36
    · skip
      refine g_iload_n C d_M_isTransfer_17 rfl 2 rfl ?_
      refine g_if_lt 35 C d_M_isTransfer_18 (by decide) (fun c18 => ?_) (fun c18 => ?_)
      · skip
        refine g_iconst (v := 0) C d_M_isTransfer_35 (by decide) ?_
        exact g_zret C hR hret rfl ⟨by simp only [isTr, bI_ne0.mp c5, decide_eq_false c14, if_neg c14, decide_eq_true c18, if_pos c18, Bool.not_true, Bool.not_false, Bool.and_true, Bool.true_and, Bool.false_and, Bool.and_false, bI_t, bI_f], rfl, rfl⟩ d_M_isTransfer_36
      · skip
        refine g_iload_n C d_M_isTransfer_21 rfl 2 rfl ?_
        refine g_aload_n C d_M_isTransfer_22 rfl 0 rfl ?_
        refine g_get m 26 C hm rfl i_M (by decide) (gmem wd_544 rfl) rfl rfl d_M_isTransfer_23 ?_
        refine g_iload_n C d_M_isTransfer_26 rfl 1 rfl ?_
        refine g_iald (m + 19) 0 C h_man rfl (in4x (bI_ne0.mp c5) hcl) d_M_isTransfer_27 ?_
        refine g_icmp_ge 35 C d_M_isTransfer_28 (by decide) (fun c28 => ?_) (fun c28 => ?_)
        · skip
          refine g_iconst (v := 0) C d_M_isTransfer_35 (by decide) ?_
          exact g_zret C hR hret rfl ⟨by simp only [isTr, bI_ne0.mp c5, decide_eq_false c14, if_neg c14, decide_eq_false c18, if_neg c18, decide_eq_true c28, if_pos c28, Bool.not_true, Bool.not_false, Bool.and_true, Bool.true_and, Bool.false_and, Bool.and_false, bI_t, bI_f], rfl, rfl⟩ d_M_isTransfer_36
        · skip
          refine g_iconst (v := 1) C d_M_isTransfer_31 (by decide) ?_
          refine g_goto 36 C d_M_isTransfer_32 (by decide) ?_
          exact g_zret C hR hret rfl ⟨by simp only [isTr, bI_ne0.mp c5, decide_eq_false c14, if_neg c14, decide_eq_false c18, if_neg c18, decide_eq_false c28, if_neg c28, Bool.not_true, Bool.not_false, Bool.and_true, Bool.true_and, Bool.false_and, Bool.and_false, bI_t, bI_f], rfl, rfl⟩ d_M_isTransfer_36
end
