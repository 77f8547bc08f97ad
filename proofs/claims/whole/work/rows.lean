section
-- ===== PART A: goes FIRST, ahead of the names: the tables' words, and 'selects' of the private methods out of them =====
/-- a private method of a class that the tables say can be made, by its rows of tables_1 -/
def lw_okq (q : MethodName × Nat) : Prop := (q.1.cls ≠ "java/lang/invoke/MethodHandle" ∧ q.1.cls ≠ "java/lang/invoke/VarHandle") ∧ Cond.instantiable q.1.cls q.2 ∈ tables_1 ∧ Cond.privateMethod q.1 ∈ tables_1 ∧ Cond.instanceMethod q.1 ∈ tables_1
theorem lw_p0 : lw_okq (⟨"ExpenseClubs", "clubAt", "(I)LExpenseClubs$Club;"⟩, 6) := ⟨⟨by decide +kernel, by decide +kernel⟩, List.mem_of_getElem? (i := 16) (by decide +kernel), List.mem_of_getElem? (i := 190) (by decide +kernel), List.mem_of_getElem? (i := 191) (by decide +kernel)⟩
theorem lw_p1 : lw_okq (⟨"ExpenseClubs", "refusalOfPost", "(LExpenseClubs$Club;)I"⟩, 6) := ⟨⟨by decide +kernel, by decide +kernel⟩, List.mem_of_getElem? (i := 16) (by decide +kernel), List.mem_of_getElem? (i := 253) (by decide +kernel), List.mem_of_getElem? (i := 254) (by decide +kernel)⟩
theorem lw_p2 : lw_okq (⟨"ExpenseClubs$Draft", "dueSum", "(J)J"⟩, 7) := ⟨⟨by decide +kernel, by decide +kernel⟩, List.mem_of_getElem? (i := 28) (by decide +kernel), List.mem_of_getElem? (i := 265) (by decide +kernel), List.mem_of_getElem? (i := 266) (by decide +kernel)⟩
theorem lw_p3 : lw_okq (⟨"ExpenseClubs", "billAt", "(I)LExpenseClubs$Bill;"⟩, 6) := ⟨⟨by decide +kernel, by decide +kernel⟩, List.mem_of_getElem? (i := 16) (by decide +kernel), List.mem_of_getElem? (i := 332) (by decide +kernel), List.mem_of_getElem? (i := 333) (by decide +kernel)⟩
theorem lw_p4 : lw_okq (⟨"ExpenseClubs$Grouping", "gather", "([J)V"⟩, 4) := ⟨⟨by decide +kernel, by decide +kernel⟩, List.mem_of_getElem? (i := 62) (by decide +kernel), List.mem_of_getElem? (i := 362) (by decide +kernel), List.mem_of_getElem? (i := 363) (by decide +kernel)⟩
theorem lw_p5 : lw_okq (⟨"ExpenseClubs$Grouping", "countMost", "()V"⟩, 4) := ⟨⟨by decide +kernel, by decide +kernel⟩, List.mem_of_getElem? (i := 62) (by decide +kernel), List.mem_of_getElem? (i := 366) (by decide +kernel), List.mem_of_getElem? (i := 367) (by decide +kernel)⟩
theorem lw_p6 : lw_okq (⟨"ExpenseClubs$Grouping", "firstGroup", "(I)I"⟩, 4) := ⟨⟨by decide +kernel, by decide +kernel⟩, List.mem_of_getElem? (i := 62) (by decide +kernel), List.mem_of_getElem? (i := 377) (by decide +kernel), List.mem_of_getElem? (i := 378) (by decide +kernel)⟩
theorem lw_p7 : lw_okq (⟨"ExpenseClubs$Grouping", "sumOfSet", "(I)J"⟩, 4) := ⟨⟨by decide +kernel, by decide +kernel⟩, List.mem_of_getElem? (i := 62) (by decide +kernel), List.mem_of_getElem? (i := 381) (by decide +kernel), List.mem_of_getElem? (i := 382) (by decide +kernel)⟩
theorem lw_p8 : lw_okq (⟨"ExpenseClubs$Grouping", "addGroup", "(LExpenseClubs$Settlement;I)V"⟩, 4) := ⟨⟨by decide +kernel, by decide +kernel⟩, List.mem_of_getElem? (i := 62) (by decide +kernel), List.mem_of_getElem? (i := 385) (by decide +kernel), List.mem_of_getElem? (i := 386) (by decide +kernel)⟩
theorem lw_p9 : lw_okq (⟨"java/lang/Throwable", "fillInStackTrace", "(I)Ljava/lang/Throwable;"⟩, 6) := ⟨⟨by decide +kernel, by decide +kernel⟩, List.mem_of_getElem? (i := 467) (by decide +kernel), List.mem_of_getElem? (i := 465) (by decide +kernel), List.mem_of_getElem? (i := 466) (by decide +kernel)⟩
theorem lw_p10 : lw_okq (⟨"ExpenseClubsModel", "isClub", "(I)Z"⟩, 33) := ⟨⟨by decide +kernel, by decide +kernel⟩, List.mem_of_getElem? (i := 513) (by decide +kernel), List.mem_of_getElem? (i := 631) (by decide +kernel), List.mem_of_getElem? (i := 632) (by decide +kernel)⟩
theorem lw_p11 : lw_okq (⟨"ExpenseClubsModel", "isMember", "(II)Z"⟩, 33) := ⟨⟨by decide +kernel, by decide +kernel⟩, List.mem_of_getElem? (i := 513) (by decide +kernel), List.mem_of_getElem? (i := 639) (by decide +kernel), List.mem_of_getElem? (i := 640) (by decide +kernel)⟩
theorem lw_p12 : lw_okq (⟨"ExpenseClubsModel", "stays", "(I)Z"⟩, 33) := ⟨⟨by decide +kernel, by decide +kernel⟩, List.mem_of_getElem? (i := 513) (by decide +kernel), List.mem_of_getElem? (i := 660) (by decide +kernel), List.mem_of_getElem? (i := 661) (by decide +kernel)⟩
theorem lw_p13 : lw_okq (⟨"ExpenseClubsModel", "wrong", "()I"⟩, 33) := ⟨⟨by decide +kernel, by decide +kernel⟩, List.mem_of_getElem? (i := 513) (by decide +kernel), List.mem_of_getElem? (i := 676) (by decide +kernel), List.mem_of_getElem? (i := 677) (by decide +kernel)⟩
theorem lw_p14 : lw_okq (⟨"ExpenseClubsModel", "weighs", "()J"⟩, 33) := ⟨⟨by decide +kernel, by decide +kernel⟩, List.mem_of_getElem? (i := 513) (by decide +kernel), List.mem_of_getElem? (i := 680) (by decide +kernel), List.mem_of_getElem? (i := 681) (by decide +kernel)⟩
theorem lw_p15 : lw_okq (⟨"ExpenseClubsModel", "fits", "(J)Z"⟩, 33) := ⟨⟨by decide +kernel, by decide +kernel⟩, List.mem_of_getElem? (i := 513) (by decide +kernel), List.mem_of_getElem? (i := 687) (by decide +kernel), List.mem_of_getElem? (i := 688) (by decide +kernel)⟩
def lw_privs_1 : List (MethodName × Nat) := [(⟨"ExpenseClubs", "clubAt", "(I)LExpenseClubs$Club;"⟩, 6), (⟨"ExpenseClubs", "refusalOfPost", "(LExpenseClubs$Club;)I"⟩, 6), (⟨"ExpenseClubs$Draft", "dueSum", "(J)J"⟩, 7), (⟨"ExpenseClubs", "billAt", "(I)LExpenseClubs$Bill;"⟩, 6), (⟨"ExpenseClubs$Grouping", "gather", "([J)V"⟩, 4), (⟨"ExpenseClubs$Grouping", "countMost", "()V"⟩, 4), (⟨"ExpenseClubs$Grouping", "firstGroup", "(I)I"⟩, 4), (⟨"ExpenseClubs$Grouping", "sumOfSet", "(I)J"⟩, 4), (⟨"ExpenseClubs$Grouping", "addGroup", "(LExpenseClubs$Settlement;I)V"⟩, 4), (⟨"java/lang/Throwable", "fillInStackTrace", "(I)Ljava/lang/Throwable;"⟩, 6), (⟨"ExpenseClubsModel", "isClub", "(I)Z"⟩, 33), (⟨"ExpenseClubsModel", "isMember", "(II)Z"⟩, 33), (⟨"ExpenseClubsModel", "stays", "(I)Z"⟩, 33), (⟨"ExpenseClubsModel", "wrong", "()I"⟩, 33), (⟨"ExpenseClubsModel", "weighs", "()J"⟩, 33), (⟨"ExpenseClubsModel", "fits", "(J)Z"⟩, 33)]
theorem lw_r1 : ∀ q ∈ lw_privs_1, lw_okq q := List.forall_mem_cons.mpr ⟨lw_p0, List.forall_mem_cons.mpr ⟨lw_p1, List.forall_mem_cons.mpr ⟨lw_p2, List.forall_mem_cons.mpr ⟨lw_p3, List.forall_mem_cons.mpr ⟨lw_p4, List.forall_mem_cons.mpr ⟨lw_p5, List.forall_mem_cons.mpr ⟨lw_p6, List.forall_mem_cons.mpr ⟨lw_p7, List.forall_mem_cons.mpr ⟨lw_p8, List.forall_mem_cons.mpr ⟨lw_p9, List.forall_mem_cons.mpr ⟨lw_p10, List.forall_mem_cons.mpr ⟨lw_p11, List.forall_mem_cons.mpr ⟨lw_p12, List.forall_mem_cons.mpr ⟨lw_p13, List.forall_mem_cons.mpr ⟨lw_p14, List.forall_mem_cons.mpr ⟨lw_p15, fun _ h => absurd h List.not_mem_nil⟩⟩⟩⟩⟩⟩⟩⟩⟩⟩⟩⟩⟩⟩⟩⟩
theorem lw_p16 : lw_okq (⟨"ExpenseClubsModel", "pay", "(IJ)V"⟩, 33) := ⟨⟨by decide +kernel, by decide +kernel⟩, List.mem_of_getElem? (i := 513) (by decide +kernel), List.mem_of_getElem? (i := 694) (by decide +kernel), List.mem_of_getElem? (i := 695) (by decide +kernel)⟩
theorem lw_p17 : lw_okq (⟨"ExpenseClubsModel", "share", "(IJJ)V"⟩, 33) := ⟨⟨by decide +kernel, by decide +kernel⟩, List.mem_of_getElem? (i := 513) (by decide +kernel), List.mem_of_getElem? (i := 702) (by decide +kernel), List.mem_of_getElem? (i := 703) (by decide +kernel)⟩
theorem lw_p18 : lw_okq (⟨"ExpenseClubsModel", "weighAll", "(I)V"⟩, 33) := ⟨⟨by decide +kernel, by decide +kernel⟩, List.mem_of_getElem? (i := 513) (by decide +kernel), List.mem_of_getElem? (i := 729) (by decide +kernel), List.mem_of_getElem? (i := 730) (by decide +kernel)⟩
theorem lw_p19 : lw_okq (⟨"ExpenseClubsModel", "divides", "()V"⟩, 33) := ⟨⟨by decide +kernel, by decide +kernel⟩, List.mem_of_getElem? (i := 513) (by decide +kernel), List.mem_of_getElem? (i := 736) (by decide +kernel), List.mem_of_getElem? (i := 737) (by decide +kernel)⟩
theorem lw_p20 : lw_okq (⟨"ExpenseClubsModel", "least", "(I)I"⟩, 33) := ⟨⟨by decide +kernel, by decide +kernel⟩, List.mem_of_getElem? (i := 513) (by decide +kernel), List.mem_of_getElem? (i := 740) (by decide +kernel), List.mem_of_getElem? (i := 741) (by decide +kernel)⟩
theorem lw_p21 : lw_okq (⟨"ExpenseClubsModel", "moves", "(II)V"⟩, 33) := ⟨⟨by decide +kernel, by decide +kernel⟩, List.mem_of_getElem? (i := 513) (by decide +kernel), List.mem_of_getElem? (i := 744) (by decide +kernel), List.mem_of_getElem? (i := 745) (by decide +kernel)⟩
theorem lw_p22 : lw_okq (⟨"ExpenseClubsModel", "isTransfer", "(II)Z"⟩, 33) := ⟨⟨by decide +kernel, by decide +kernel⟩, List.mem_of_getElem? (i := 513) (by decide +kernel), List.mem_of_getElem? (i := 752) (by decide +kernel), List.mem_of_getElem? (i := 753) (by decide +kernel)⟩
theorem lw_p23 : lw_okq (⟨"ExpenseClubsModel", "unticked", "(I)I"⟩, 33) := ⟨⟨by decide +kernel, by decide +kernel⟩, List.mem_of_getElem? (i := 513) (by decide +kernel), List.mem_of_getElem? (i := 764) (by decide +kernel), List.mem_of_getElem? (i := 765) (by decide +kernel)⟩
def lw_privs_2 : List (MethodName × Nat) := [(⟨"ExpenseClubsModel", "pay", "(IJ)V"⟩, 33), (⟨"ExpenseClubsModel", "share", "(IJJ)V"⟩, 33), (⟨"ExpenseClubsModel", "weighAll", "(I)V"⟩, 33), (⟨"ExpenseClubsModel", "divides", "()V"⟩, 33), (⟨"ExpenseClubsModel", "least", "(I)I"⟩, 33), (⟨"ExpenseClubsModel", "moves", "(II)V"⟩, 33), (⟨"ExpenseClubsModel", "isTransfer", "(II)Z"⟩, 33), (⟨"ExpenseClubsModel", "unticked", "(I)I"⟩, 33)]
theorem lw_r2 : ∀ q ∈ lw_privs_2, lw_okq q := List.forall_mem_cons.mpr ⟨lw_p16, List.forall_mem_cons.mpr ⟨lw_p17, List.forall_mem_cons.mpr ⟨lw_p18, List.forall_mem_cons.mpr ⟨lw_p19, List.forall_mem_cons.mpr ⟨lw_p20, List.forall_mem_cons.mpr ⟨lw_p21, List.forall_mem_cons.mpr ⟨lw_p22, List.forall_mem_cons.mpr ⟨lw_p23, fun _ h => absurd h List.not_mem_nil⟩⟩⟩⟩⟩⟩⟩⟩
def lw_privs : List (MethodName × Nat) := lw_privs_1 ++ (lw_privs_2)
def lw_tbl : List Cond := k2_sels lw_privs ++ tables_1
theorem lw_privs_ok : ∀ q ∈ lw_privs, lw_okq q := by
  show ∀ q ∈ lw_privs_1 ++ (lw_privs_2), lw_okq q
  exact List.forall_mem_append.mpr ⟨lw_r1, lw_r2⟩
/-! the words that a call may carry: those of the tables that stay true while the tables grow warmer -/
def gT : List Cond := lw_tbl.filter goodWord
theorem gmem {w : Cond} (h : w ∈ lw_tbl) (hg : goodWord w = true) : w ∈ gT := List.mem_filter.mpr ⟨h, hg⟩
theorem gT_good : ∀ w ∈ gT, w ∈ gT ∧ ((w.onTables && w.keeps) = true ∨ ∃ ty, w = .arrayClass ty) := fun w h => ⟨h, good_of_word (List.mem_filter.mp h).2⟩
theorem gT_of {w : Cond} (h : w ∈ gT) : w ∈ lw_tbl := (List.mem_filter.mp h).1
theorem goodIn_w (ws : List Cond) (ps : List Nat) (hp : ws = ps.filterMap (fun i => lw_tbl[i]?)) (h : ws.all goodWord = true) : ∀ w ∈ ws, w ∈ gT := by
  intro w hw
  have h1 := List.all_eq_true.mp h w hw
  rw [hp] at hw
  obtain ⟨i, -, hi⟩ := List.mem_filterMap.mp hw
  exact gmem (List.mem_of_getElem? hi) h1
def R_B : String := "ExpenseClubs$Bill"
def T_B : u_T := fun k => match k with
  | 0 => ("ExpenseClubs$Bill", "owner", "LExpenseClubs$Club;", true)
  | 1 => ("ExpenseClubs$Bill", "clubCents", "J", true)
  | 2 => ("ExpenseClubs$Bill", "paid", "[J", true)
  | 3 => ("ExpenseClubs$Bill", "shares", "[J", true)
  | 4 => ("ExpenseClubs$Bill", "drifts", "[J", true)
  | _ => ("ExpenseClubs$Bill", "struck", "Z", false)
def t_B : Nat → FieldType := fun k => match k with
  | 0 => .object "ExpenseClubs$Club"
  | 1 => .long
  | 2 => .array .long
  | 3 => .array .long
  | 4 => .array .long
  | _ => .boolean
theorem n_B : ∀ a, a < 6 → ∀ b, b < 6 → a ≠ b → (T_B a).2.1 ≠ (T_B b).2.1 := by decide +kernel
theorem t_B_ok : ∀ k, k < 6 → parseFieldDescriptor (T_B k).2.2.1 = some (t_B k) := by decide +kernel
set_option maxRecDepth 100000 in
theorem i_B : ∀ w ∈ u_ws "ExpenseClubs$Bill" T_B 6, w ∈ gT := (goodIn_w _ [324, 326, 328, 330, 332, 334] (by decide +kernel) (by decide +kernel))

def R_C : String := "ExpenseClubs$Club"
def T_C : u_T := fun k => match k with
  | 0 => ("ExpenseClubs$Club", "balances", "[J", true)
  | 1 => ("ExpenseClubs$Club", "drifts", "[J", true)
  | 2 => ("ExpenseClubs$Club", "settlement", "LExpenseClubs$Settlement;", true)
  | 3 => ("ExpenseClubs$Club", "memberCount", "I", false)
  | 4 => ("ExpenseClubs$Club", "goneSet", "I", false)
  | _ => ("ExpenseClubs$Club", "mark", "I", false)
def t_C : Nat → FieldType := fun k => match k with
  | 0 => .array .long
  | 1 => .array .long
  | 2 => .object "ExpenseClubs$Settlement"
  | 3 => .int
  | 4 => .int
  | _ => .int
theorem n_C : ∀ a, a < 6 → ∀ b, b < 6 → a ≠ b → (T_C a).2.1 ≠ (T_C b).2.1 := by decide +kernel
theorem t_C_ok : ∀ k, k < 6 → parseFieldDescriptor (T_C k).2.2.1 = some (t_C k) := by decide +kernel
set_option maxRecDepth 100000 in
theorem i_C : ∀ w ∈ u_ws "ExpenseClubs$Club" T_C 6, w ∈ gT := (goodIn_w _ [196, 198, 200, 202, 204, 206] (by decide +kernel) (by decide +kernel))

def R_D : String := "ExpenseClubs$Draft"
def T_D : u_T := fun k => match k with
  | 0 => ("ExpenseClubs$Draft", "payers", "[J", true)
  | 1 => ("ExpenseClubs$Draft", "weights", "[J", true)
  | 2 => ("ExpenseClubs$Draft", "club", "LExpenseClubs$Club;", false)
  | 3 => ("ExpenseClubs$Draft", "way", "I", false)
  | 4 => ("ExpenseClubs$Draft", "cents", "I", false)
  | 5 => ("ExpenseClubs$Draft", "rate", "I", false)
  | _ => ("ExpenseClubs$Draft", "lineCount", "I", false)
def t_D : Nat → FieldType := fun k => match k with
  | 0 => .array .long
  | 1 => .array .long
  | 2 => .object "ExpenseClubs$Club"
  | 3 => .int
  | 4 => .int
  | 5 => .int
  | _ => .int
theorem n_D : ∀ a, a < 7 → ∀ b, b < 7 → a ≠ b → (T_D a).2.1 ≠ (T_D b).2.1 := by decide +kernel
theorem t_D_ok : ∀ k, k < 7 → parseFieldDescriptor (T_D k).2.2.1 = some (t_D k) := by decide +kernel
set_option maxRecDepth 100000 in
theorem i_D : ∀ w ∈ u_ws "ExpenseClubs$Draft" T_D 7, w ∈ gT := (goodIn_w _ [69, 71, 73, 75, 77, 79, 81] (by decide +kernel) (by decide +kernel))

def R_G : String := "ExpenseClubs$Grouping"
def T_G : u_T := fun k => match k with
  | 0 => ("ExpenseClubs$Grouping", "members", "[I", true)
  | 1 => ("ExpenseClubs$Grouping", "amounts", "[J", true)
  | 2 => ("ExpenseClubs$Grouping", "most", "[I", true)
  | _ => ("ExpenseClubs$Grouping", "size", "I", false)
def t_G : Nat → FieldType := fun k => match k with
  | 0 => .array .int
  | 1 => .array .long
  | 2 => .array .int
  | _ => .int
theorem n_G : ∀ a, a < 4 → ∀ b, b < 4 → a ≠ b → (T_G a).2.1 ≠ (T_G b).2.1 := by decide +kernel
theorem t_G_ok : ∀ k, k < 4 → parseFieldDescriptor (T_G k).2.2.1 = some (t_G k) := by decide +kernel
set_option maxRecDepth 100000 in
theorem i_G : ∀ w ∈ u_ws "ExpenseClubs$Grouping" T_G 4, w ∈ gT := (goodIn_w _ [95, 97, 99, 101] (by decide +kernel) (by decide +kernel))

def R_S : String := "ExpenseClubs$Settlement"
def T_S : u_T := fun k => match k with
  | 0 => ("ExpenseClubs$Settlement", "groups", "[I", true)
  | 1 => ("ExpenseClubs$Settlement", "senders", "[I", true)
  | 2 => ("ExpenseClubs$Settlement", "getters", "[I", true)
  | 3 => ("ExpenseClubs$Settlement", "amounts", "[J", true)
  | 4 => ("ExpenseClubs$Settlement", "ticked", "[Z", true)
  | 5 => ("ExpenseClubs$Settlement", "open", "Z", false)
  | 6 => ("ExpenseClubs$Settlement", "groupCount", "I", false)
  | 7 => ("ExpenseClubs$Settlement", "transferCount", "I", false)
  | _ => ("ExpenseClubs$Settlement", "waiting", "I", false)
def t_S : Nat → FieldType := fun k => match k with
  | 0 => .array .int
  | 1 => .array .int
  | 2 => .array .int
  | 3 => .array .long
  | 4 => .array .boolean
  | 5 => .boolean
  | 6 => .int
  | 7 => .int
  | _ => .int
theorem n_S : ∀ a, a < 9 → ∀ b, b < 9 → a ≠ b → (T_S a).2.1 ≠ (T_S b).2.1 := by decide +kernel
theorem t_S_ok : ∀ k, k < 9 → parseFieldDescriptor (T_S k).2.2.1 = some (t_S k) := by decide +kernel
set_option maxRecDepth 100000 in
theorem i_S : ∀ w ∈ u_ws "ExpenseClubs$Settlement" T_S 9, w ∈ gT := (goodIn_w _ [164, 166, 168, 170, 172, 174, 176, 178, 180] (by decide +kernel) (by decide +kernel))

def R_X : String := "ExpenseClubs"
def T_X : u_T := fun k => match k with
  | 0 => ("ExpenseClubs", "clubs", "[LExpenseClubs$Club;", true)
  | 1 => ("ExpenseClubs", "bills", "[LExpenseClubs$Bill;", true)
  | 2 => ("ExpenseClubs", "draft", "LExpenseClubs$Draft;", true)
  | 3 => ("ExpenseClubs", "grouping", "LExpenseClubs$Grouping;", true)
  | 4 => ("ExpenseClubs", "clubCount", "I", false)
  | _ => ("ExpenseClubs", "billCount", "I", false)
def t_X : Nat → FieldType := fun k => match k with
  | 0 => .array (.object "ExpenseClubs$Club")
  | 1 => .array (.object "ExpenseClubs$Bill")
  | 2 => .object "ExpenseClubs$Draft"
  | 3 => .object "ExpenseClubs$Grouping"
  | 4 => .int
  | _ => .int
theorem n_X : ∀ a, a < 6 → ∀ b, b < 6 → a ≠ b → (T_X a).2.1 ≠ (T_X b).2.1 := by decide +kernel
theorem t_X_ok : ∀ k, k < 6 → parseFieldDescriptor (T_X k).2.2.1 = some (t_X k) := by decide +kernel
set_option maxRecDepth 100000 in
theorem i_X : ∀ w ∈ u_ws "ExpenseClubs" T_X 6, w ∈ gT := (goodIn_w _ [111, 113, 115, 117, 119, 121] (by decide +kernel) (by decide +kernel))

def R_M : String := "ExpenseClubsModel"
def T_M : u_T := fun k => match k with
  | 0 => ("ExpenseClubsModel", "thrown", "I", false)
  | 1 => ("ExpenseClubsModel", "clubs", "I", false)
  | 2 => ("ExpenseClubsModel", "members", "[I", true)
  | 3 => ("ExpenseClubsModel", "marks", "[I", true)
  | 4 => ("ExpenseClubsModel", "left", "[Z", true)
  | 5 => ("ExpenseClubsModel", "draft", "I", false)
  | 6 => ("ExpenseClubsModel", "way", "I", false)
  | 7 => ("ExpenseClubsModel", "cents", "I", false)
  | 8 => ("ExpenseClubsModel", "rate", "I", false)
  | 9 => ("ExpenseClubsModel", "pays", "[I", true)
  | 10 => ("ExpenseClubsModel", "weights", "[I", true)
  | 11 => ("ExpenseClubsModel", "lines", "I", false)
  | 12 => ("ExpenseClubsModel", "lineCents", "[I", true)
  | 13 => ("ExpenseClubsModel", "lineSets", "[I", true)
  | 14 => ("ExpenseClubsModel", "heavy", "[J", true)
  | 15 => ("ExpenseClubsModel", "bills", "I", false)
  | 16 => ("ExpenseClubsModel", "clubOf", "[I", true)
  | 17 => ("ExpenseClubsModel", "totals", "[J", true)
  | 18 => ("ExpenseClubsModel", "struck", "[Z", true)
  | 19 => ("ExpenseClubsModel", "shares", "[J", true)
  | 20 => ("ExpenseClubsModel", "paid", "[J", true)
  | 21 => ("ExpenseClubsModel", "drifts", "[J", true)
  | 22 => ("ExpenseClubsModel", "sent", "[J", true)
  | 23 => ("ExpenseClubsModel", "open", "[Z", true)
  | 24 => ("ExpenseClubsModel", "groups", "[I", true)
  | 25 => ("ExpenseClubsModel", "group", "[I", true)
  | 26 => ("ExpenseClubsModel", "many", "[I", true)
  | 27 => ("ExpenseClubsModel", "sends", "[I", true)
  | 28 => ("ExpenseClubsModel", "gets", "[I", true)
  | 29 => ("ExpenseClubsModel", "sums", "[J", true)
  | 30 => ("ExpenseClubsModel", "ticked", "[Z", true)
  | 31 => ("ExpenseClubsModel", "weigh", "[J", true)
  | _ => ("ExpenseClubsModel", "most", "[I", true)
def t_M : Nat → FieldType := fun k => match k with
  | 0 => .int
  | 1 => .int
  | 2 => .array .int
  | 3 => .array .int
  | 4 => .array .boolean
  | 5 => .int
  | 6 => .int
  | 7 => .int
  | 8 => .int
  | 9 => .array .int
  | 10 => .array .int
  | 11 => .int
  | 12 => .array .int
  | 13 => .array .int
  | 14 => .array .long
  | 15 => .int
  | 16 => .array .int
  | 17 => .array .long
  | 18 => .array .boolean
  | 19 => .array .long
  | 20 => .array .long
  | 21 => .array .long
  | 22 => .array .long
  | 23 => .array .boolean
  | 24 => .array .int
  | 25 => .array .int
  | 26 => .array .int
  | 27 => .array .int
  | 28 => .array .int
  | 29 => .array .long
  | 30 => .array .boolean
  | 31 => .array .long
  | _ => .array .int
theorem n_M : ∀ a, a < 33 → ∀ b, b < 33 → a ≠ b → (T_M a).2.1 ≠ (T_M b).2.1 := by decide +kernel
theorem t_M_ok : ∀ k, k < 33 → parseFieldDescriptor (T_M k).2.2.1 = some (t_M k) := by decide +kernel
set_option maxRecDepth 100000 in
theorem i_M : ∀ w ∈ u_ws "ExpenseClubsModel" T_M 33, w ∈ gT := (goodIn_w _ [575, 577, 579, 581, 583, 585, 587, 589, 591, 593, 595, 597, 599, 601, 603, 605, 607, 609, 611, 613, 615, 617, 619, 621, 623, 625, 627, 629, 631, 633, 635, 637, 639] (by decide +kernel) (by decide +kernel))

abbrev gCl : List vw_C := [("ExpenseClubs$Bill", T_B, 6), ("ExpenseClubs$Club", T_C, 6), ("ExpenseClubs$Draft", T_D, 7), ("ExpenseClubs$Grouping", T_G, 4), ("ExpenseClubs$Settlement", T_S, 9), ("ExpenseClubs", T_X, 6), ("ExpenseClubsModel", T_M, 33)]
abbrev gE : Type := va_G × List vw_C × List (ClassId × FieldType)
abbrev gX : Type := va_G × (Nat → ClassId)
abbrev EE (X : gX) : gE := (X.1, gCl, [(X.2 0, .int), (X.2 1, .long), (X.2 2, .boolean), (X.2 3, .object "ExpenseClubs$Club"), (X.2 4, .object "ExpenseClubs$Bill")])
abbrev c_X_init : ByteArray := prog_1_method_1_code
def y_X_init : MethodName := ⟨"ExpenseClubs", "<init>", "()V"⟩
abbrev c_O_init : ByteArray := object_method_1_code
def y_O_init : MethodName := ⟨"java/lang/Object", "<init>", "()V"⟩
abbrev c_D_init : ByteArray := prog_4_method_1_code
def y_D_init : MethodName := ⟨"ExpenseClubs$Draft", "<init>", "()V"⟩
abbrev c_G_init : ByteArray := prog_5_method_1_code
def y_G_init : MethodName := ⟨"ExpenseClubs$Grouping", "<init>", "()V"⟩
abbrev c_X_club : ByteArray := prog_1_method_2_code
def y_X_club : MethodName := ⟨"ExpenseClubs", "club", "()I"⟩
abbrev c_C_init : ByteArray := prog_3_method_1_code
def y_C_init : MethodName := ⟨"ExpenseClubs$Club", "<init>", "()V"⟩
abbrev c_S_init : ByteArray := prog_6_method_1_code
def y_S_init : MethodName := ⟨"ExpenseClubs$Settlement", "<init>", "()V"⟩
abbrev c_X_member : ByteArray := prog_1_method_3_code
def y_X_member : MethodName := ⟨"ExpenseClubs", "member", "(I)I"⟩
abbrev c_X_clubAt : ByteArray := prog_1_method_22_code
def y_X_clubAt : MethodName := ⟨"ExpenseClubs", "clubAt", "(I)LExpenseClubs$Club;"⟩
abbrev c_X_leave : ByteArray := prog_1_method_4_code
def y_X_leave : MethodName := ⟨"ExpenseClubs", "leave", "(II)Z"⟩
abbrev c_C_isPresent : ByteArray := prog_3_method_3_code
def y_C_isPresent : MethodName := ⟨"ExpenseClubs$Club", "isPresent", "(I)Z"⟩
abbrev c_C_isMember : ByteArray := prog_3_method_2_code
def y_C_isMember : MethodName := ⟨"ExpenseClubs$Club", "isMember", "(I)Z"⟩
abbrev c_C_isGone : ByteArray := prog_3_method_4_code
def y_C_isGone : MethodName := ⟨"ExpenseClubs$Club", "isGone", "(I)Z"⟩
abbrev c_X_bill : ByteArray := prog_1_method_5_code
def y_X_bill : MethodName := ⟨"ExpenseClubs", "bill", "(IIII)Z"⟩
abbrev c_D_begin : ByteArray := prog_4_method_2_code
def y_D_begin : MethodName := ⟨"ExpenseClubs$Draft", "begin", "(LExpenseClubs$Club;III)V"⟩
abbrev c_X_payer : ByteArray := prog_1_method_6_code
def y_X_payer : MethodName := ⟨"ExpenseClubs", "payer", "(II)Z"⟩
abbrev c_X_weight : ByteArray := prog_1_method_7_code
def y_X_weight : MethodName := ⟨"ExpenseClubs", "weight", "(II)Z"⟩
abbrev c_X_mostWeight : ByteArray := prog_1_method_25_code
def y_X_mostWeight : MethodName := ⟨"ExpenseClubs", "mostWeight", "(I)I"⟩
abbrev c_X_line : ByteArray := prog_1_method_8_code
def y_X_line : MethodName := ⟨"ExpenseClubs", "line", "(II)Z"⟩
abbrev c_C_presentSet : ByteArray := prog_3_method_5_code
def y_C_presentSet : MethodName := ⟨"ExpenseClubs$Club", "presentSet", "()I"⟩
abbrev c_D_addLine : ByteArray := prog_4_method_3_code
def y_D_addLine : MethodName := ⟨"ExpenseClubs$Draft", "addLine", "(II)V"⟩
abbrev c_I_bitCount : ByteArray := prog_12_method_49_code
def y_I_bitCount : MethodName := ⟨"java/lang/Integer", "bitCount", "(I)I"⟩
abbrev c_X_post : ByteArray := prog_1_method_9_code
def y_X_post : MethodName := ⟨"ExpenseClubs", "post", "()I"⟩
abbrev c_X_refusalOfPost : ByteArray := prog_1_method_24_code
def y_X_refusalOfPost : MethodName := ⟨"ExpenseClubs", "refusalOfPost", "(LExpenseClubs$Club;)I"⟩
abbrev c_D_refusalFor : ByteArray := prog_4_method_4_code
def y_D_refusalFor : MethodName := ⟨"ExpenseClubs$Draft", "refusalFor", "(LExpenseClubs$Club;)I"⟩
abbrev c_X_sumOf : ByteArray := prog_1_method_26_code
def y_X_sumOf : MethodName := ⟨"ExpenseClubs", "sumOf", "([J)J"⟩
abbrev c_D_dueSum : ByteArray := prog_4_method_5_code
def y_D_dueSum : MethodName := ⟨"ExpenseClubs$Draft", "dueSum", "(J)J"⟩
abbrev c_D_toBill : ByteArray := prog_4_method_6_code
def y_D_toBill : MethodName := ⟨"ExpenseClubs$Draft", "toBill", "(LExpenseClubs$Club;)LExpenseClubs$Bill;"⟩
abbrev c_B_init : ByteArray := prog_2_method_1_code
def y_B_init : MethodName := ⟨"ExpenseClubs$Bill", "<init>", "(LExpenseClubs$Club;J)V"⟩
abbrev c_X_cut : ByteArray := prog_1_method_28_code
def y_X_cut : MethodName := ⟨"ExpenseClubs", "cut", "(J[JI[J)I"⟩
abbrev c_X_portion : ByteArray := prog_1_method_27_code
def y_X_portion : MethodName := ⟨"ExpenseClubs", "portion", "(JJJ)J"⟩
abbrev c_C_book : ByteArray := prog_3_method_6_code
def y_C_book : MethodName := ⟨"ExpenseClubs$Club", "book", "(LExpenseClubs$Bill;I)V"⟩
abbrev c_X_strike : ByteArray := prog_1_method_10_code
def y_X_strike : MethodName := ⟨"ExpenseClubs", "strike", "(I)Z"⟩
abbrev c_X_billAt : ByteArray := prog_1_method_23_code
def y_X_billAt : MethodName := ⟨"ExpenseClubs", "billAt", "(I)LExpenseClubs$Bill;"⟩
abbrev c_X_about : ByteArray := prog_1_method_11_code
def y_X_about : MethodName := ⟨"ExpenseClubs", "about", "(III)J"⟩
abbrev c_X_total : ByteArray := prog_1_method_12_code
def y_X_total : MethodName := ⟨"ExpenseClubs", "total", "(I)J"⟩
abbrev c_X_balance : ByteArray := prog_1_method_13_code
def y_X_balance : MethodName := ⟨"ExpenseClubs", "balance", "(II)J"⟩
abbrev c_X_drift : ByteArray := prog_1_method_14_code
def y_X_drift : MethodName := ⟨"ExpenseClubs", "drift", "(II)J"⟩
abbrev c_X_settle : ByteArray := prog_1_method_15_code
def y_X_settle : MethodName := ⟨"ExpenseClubs", "settle", "(I)I"⟩
abbrev c_G_fill : ByteArray := prog_5_method_2_code
def y_G_fill : MethodName := ⟨"ExpenseClubs$Grouping", "fill", "(LExpenseClubs$Settlement;[J)V"⟩
abbrev c_G_gather : ByteArray := prog_5_method_3_code
def y_G_gather : MethodName := ⟨"ExpenseClubs$Grouping", "gather", "([J)V"⟩
abbrev c_G_countMost : ByteArray := prog_5_method_4_code
def y_G_countMost : MethodName := ⟨"ExpenseClubs$Grouping", "countMost", "()V"⟩
abbrev c_Ma_max : ByteArray := prog_13_method_65_code
def y_Ma_max : MethodName := ⟨"java/lang/Math", "max", "(II)I"⟩
abbrev c_S_begin : ByteArray := prog_6_method_2_code
def y_S_begin : MethodName := ⟨"ExpenseClubs$Settlement", "begin", "()V"⟩
abbrev c_G_firstGroup : ByteArray := prog_5_method_5_code
def y_G_firstGroup : MethodName := ⟨"ExpenseClubs$Grouping", "firstGroup", "(I)I"⟩
abbrev c_G_sumOfSet : ByteArray := prog_5_method_6_code
def y_G_sumOfSet : MethodName := ⟨"ExpenseClubs$Grouping", "sumOfSet", "(I)J"⟩
abbrev c_G_addGroup : ByteArray := prog_5_method_7_code
def y_G_addGroup : MethodName := ⟨"ExpenseClubs$Grouping", "addGroup", "(LExpenseClubs$Settlement;I)V"⟩
abbrev c_S_addTransfer : ByteArray := prog_6_method_4_code
def y_S_addTransfer : MethodName := ⟨"ExpenseClubs$Settlement", "addTransfer", "(IIJ)V"⟩
abbrev c_X_tick : ByteArray := prog_1_method_17_code
def y_X_tick : MethodName := ⟨"ExpenseClubs", "tick", "(II)Z"⟩
abbrev c_S_hasTransfer : ByteArray := prog_6_method_3_code
def y_S_hasTransfer : MethodName := ⟨"ExpenseClubs$Settlement", "hasTransfer", "(I)Z"⟩
abbrev c_C_makeTransfer : ByteArray := prog_3_method_7_code
def y_C_makeTransfer : MethodName := ⟨"ExpenseClubs$Club", "makeTransfer", "(I)V"⟩
abbrev c_X_giveUp : ByteArray := prog_1_method_18_code
def y_X_giveUp : MethodName := ⟨"ExpenseClubs", "giveUp", "(I)I"⟩
abbrev c_X_close : ByteArray := prog_1_method_19_code
def y_X_close : MethodName := ⟨"ExpenseClubs", "close", "(I)Z"⟩
abbrev c_X_count : ByteArray := prog_1_method_20_code
def y_X_count : MethodName := ⟨"ExpenseClubs", "count", "(II)I"⟩
abbrev c_X_groupOf : ByteArray := prog_1_method_21_code
def y_X_groupOf : MethodName := ⟨"ExpenseClubs", "groupOf", "(II)I"⟩
abbrev c_X_transfer : ByteArray := prog_1_method_16_code
def y_X_transfer : MethodName := ⟨"ExpenseClubs", "transfer", "(III)J"⟩
abbrev c_M_init : ByteArray := prog_8_method_1_code
def y_M_init : MethodName := ⟨"ExpenseClubsModel", "<init>", "()V"⟩
abbrev c_M_thrown : ByteArray := prog_8_method_2_code
def y_M_thrown : MethodName := ⟨"ExpenseClubsModel", "thrown", "()I"⟩
abbrev c_M_club : ByteArray := prog_8_method_6_code
def y_M_club : MethodName := ⟨"ExpenseClubsModel", "club", "()I"⟩
abbrev c_M_member : ByteArray := prog_8_method_7_code
def y_M_member : MethodName := ⟨"ExpenseClubsModel", "member", "(I)I"⟩
abbrev c_M_isClub : ByteArray := prog_8_method_3_code
def y_M_isClub : MethodName := ⟨"ExpenseClubsModel", "isClub", "(I)Z"⟩
abbrev c_M_leave : ByteArray := prog_8_method_8_code
def y_M_leave : MethodName := ⟨"ExpenseClubsModel", "leave", "(II)Z"⟩
abbrev c_M_isMember : ByteArray := prog_8_method_4_code
def y_M_isMember : MethodName := ⟨"ExpenseClubsModel", "isMember", "(II)Z"⟩
abbrev c_M_balance : ByteArray := prog_8_method_25_code
def y_M_balance : MethodName := ⟨"ExpenseClubsModel", "balance", "(II)J"⟩
abbrev c_M_bill : ByteArray := prog_8_method_10_code
def y_M_bill : MethodName := ⟨"ExpenseClubsModel", "bill", "(IIII)Z"⟩
abbrev c_M_within : ByteArray := prog_8_method_9_code
def y_M_within : MethodName := ⟨"ExpenseClubsModel", "within", "(III)Z"⟩
abbrev c_M_payer : ByteArray := prog_8_method_12_code
def y_M_payer : MethodName := ⟨"ExpenseClubsModel", "payer", "(II)Z"⟩
abbrev c_M_stays : ByteArray := prog_8_method_11_code
def y_M_stays : MethodName := ⟨"ExpenseClubsModel", "stays", "(I)Z"⟩
abbrev c_M_weight : ByteArray := prog_8_method_13_code
def y_M_weight : MethodName := ⟨"ExpenseClubsModel", "weight", "(II)Z"⟩
abbrev c_M_line : ByteArray := prog_8_method_14_code
def y_M_line : MethodName := ⟨"ExpenseClubsModel", "line", "(II)Z"⟩
abbrev c_M_post : ByteArray := prog_8_method_19_code
def y_M_post : MethodName := ⟨"ExpenseClubsModel", "post", "()I"⟩
abbrev c_M_wrong : ByteArray := prog_8_method_18_code
def y_M_wrong : MethodName := ⟨"ExpenseClubsModel", "wrong", "()I"⟩
abbrev c_M_weighs : ByteArray := prog_8_method_16_code
def y_M_weighs : MethodName := ⟨"ExpenseClubsModel", "weighs", "()J"⟩
abbrev c_M_size : ByteArray := prog_8_method_15_code
def y_M_size : MethodName := ⟨"ExpenseClubsModel", "size", "(I)I"⟩
abbrev c_M_fits : ByteArray := prog_8_method_17_code
def y_M_fits : MethodName := ⟨"ExpenseClubsModel", "fits", "(J)Z"⟩
abbrev c_M_pay : ByteArray := prog_8_method_20_code
def y_M_pay : MethodName := ⟨"ExpenseClubsModel", "pay", "(IJ)V"⟩
abbrev c_M_part : ByteArray := prog_8_method_5_code
def y_M_part : MethodName := ⟨"ExpenseClubsModel", "part", "(JJJ)J"⟩
abbrev c_M_share : ByteArray := prog_8_method_21_code
def y_M_share : MethodName := ⟨"ExpenseClubsModel", "share", "(IJJ)V"⟩
abbrev c_M_strike : ByteArray := prog_8_method_22_code
def y_M_strike : MethodName := ⟨"ExpenseClubsModel", "strike", "(I)Z"⟩
abbrev c_M_about : ByteArray := prog_8_method_23_code
def y_M_about : MethodName := ⟨"ExpenseClubsModel", "about", "(III)J"⟩
abbrev c_M_total : ByteArray := prog_8_method_24_code
def y_M_total : MethodName := ⟨"ExpenseClubsModel", "total", "(I)J"⟩
abbrev c_M_drift : ByteArray := prog_8_method_26_code
def y_M_drift : MethodName := ⟨"ExpenseClubsModel", "drift", "(II)J"⟩
abbrev c_M_settle : ByteArray := prog_8_method_32_code
def y_M_settle : MethodName := ⟨"ExpenseClubsModel", "settle", "(I)I"⟩
abbrev c_M_weighAll : ByteArray := prog_8_method_29_code
def y_M_weighAll : MethodName := ⟨"ExpenseClubsModel", "weighAll", "(I)V"⟩
abbrev c_M_lowest : ByteArray := prog_8_method_27_code
def y_M_lowest : MethodName := ⟨"ExpenseClubsModel", "lowest", "(I)I"⟩
abbrev c_M_divides : ByteArray := prog_8_method_28_code
def y_M_divides : MethodName := ⟨"ExpenseClubsModel", "divides", "()V"⟩
abbrev c_M_least : ByteArray := prog_8_method_30_code
def y_M_least : MethodName := ⟨"ExpenseClubsModel", "least", "(I)I"⟩
abbrev c_M_moves : ByteArray := prog_8_method_31_code
def y_M_moves : MethodName := ⟨"ExpenseClubsModel", "moves", "(II)V"⟩
abbrev c_M_transfer : ByteArray := prog_8_method_34_code
def y_M_transfer : MethodName := ⟨"ExpenseClubsModel", "transfer", "(III)J"⟩
abbrev c_M_isTransfer : ByteArray := prog_8_method_33_code
def y_M_isTransfer : MethodName := ⟨"ExpenseClubsModel", "isTransfer", "(II)Z"⟩
abbrev c_M_tick : ByteArray := prog_8_method_35_code
def y_M_tick : MethodName := ⟨"ExpenseClubsModel", "tick", "(II)Z"⟩
abbrev c_M_giveUp : ByteArray := prog_8_method_37_code
def y_M_giveUp : MethodName := ⟨"ExpenseClubsModel", "giveUp", "(I)I"⟩
abbrev c_M_unticked : ByteArray := prog_8_method_36_code
def y_M_unticked : MethodName := ⟨"ExpenseClubsModel", "unticked", "(I)I"⟩
abbrev c_M_close : ByteArray := prog_8_method_38_code
def y_M_close : MethodName := ⟨"ExpenseClubsModel", "close", "(I)Z"⟩
abbrev c_M_count : ByteArray := prog_8_method_39_code
def y_M_count : MethodName := ⟨"ExpenseClubsModel", "count", "(II)I"⟩
abbrev c_M_groupOf : ByteArray := prog_8_method_40_code
def y_M_groupOf : MethodName := ⟨"ExpenseClubsModel", "groupOf", "(II)I"⟩
end
section
set_option maxRecDepth 100000 in
theorem wd_0 : (Jvm.Cond.initialized "ExpenseClubsLaw") ∈ lw_tbl := List.mem_of_getElem? (i := 24) rfl
set_option maxRecDepth 100000 in
theorem wd_1 : (Jvm.Cond.initialized "ExpenseClubs") ∈ lw_tbl := List.mem_of_getElem? (i := 25) rfl
set_option maxRecDepth 100000 in
theorem wd_2 : (Jvm.Cond.initialized "ExpenseClubs$Draft") ∈ lw_tbl := List.mem_of_getElem? (i := 26) rfl
set_option maxRecDepth 100000 in
theorem wd_3 : (Jvm.Cond.initialized "ExpenseClubs$Grouping") ∈ lw_tbl := List.mem_of_getElem? (i := 27) rfl
set_option maxRecDepth 100000 in
theorem wd_4 : (Jvm.Cond.initialized "ExpenseClubsModel") ∈ lw_tbl := List.mem_of_getElem? (i := 28) rfl
set_option maxRecDepth 100000 in
theorem wd_5 : (Jvm.Cond.initialized "ExpenseClubs$Club") ∈ lw_tbl := List.mem_of_getElem? (i := 29) rfl
set_option maxRecDepth 100000 in
theorem wd_6 : (Jvm.Cond.initialized "ExpenseClubs$Settlement") ∈ lw_tbl := List.mem_of_getElem? (i := 30) rfl
set_option maxRecDepth 100000 in
theorem wd_7 : (Jvm.Cond.initialized "java/lang/Integer") ∈ lw_tbl := List.mem_of_getElem? (i := 31) rfl
set_option maxRecDepth 100000 in
theorem wd_8 : (Jvm.Cond.initialized "ExpenseClubs$Bill") ∈ lw_tbl := List.mem_of_getElem? (i := 32) rfl
set_option maxRecDepth 100000 in
theorem wd_9 : (Jvm.Cond.initialized "java/lang/Math") ∈ lw_tbl := List.mem_of_getElem? (i := 33) rfl
set_option maxRecDepth 100000 in
theorem wd_10 : (Jvm.Cond.initialized "java/lang/Throwable") ∈ lw_tbl := List.mem_of_getElem? (i := 34) rfl
set_option maxRecDepth 100000 in
theorem wd_11 : (Jvm.Cond.initialized "java/lang/Exception") ∈ lw_tbl := List.mem_of_getElem? (i := 35) rfl
set_option maxRecDepth 100000 in
theorem wd_12 : (Jvm.Cond.initialized "java/lang/RuntimeException") ∈ lw_tbl := List.mem_of_getElem? (i := 36) rfl
set_option maxRecDepth 100000 in
theorem wd_13 : (Jvm.Cond.initialized "java/lang/IndexOutOfBoundsException") ∈ lw_tbl := List.mem_of_getElem? (i := 37) rfl
set_option maxRecDepth 100000 in
theorem wd_14 : (Jvm.Cond.initialized "java/lang/IllegalArgumentException") ∈ lw_tbl := List.mem_of_getElem? (i := 38) rfl
set_option maxRecDepth 100000 in
theorem wd_15 : (Jvm.Cond.classLink "ExpenseClubsLaw" (8 : Nat) "ExpenseClubs") ∈ lw_tbl := List.mem_of_getElem? (i := 39) rfl
set_option maxRecDepth 100000 in
theorem wd_16 : (Jvm.Cond.instantiable "ExpenseClubs" (6 : Nat)) ∈ lw_tbl := List.mem_of_getElem? (i := 40) rfl
set_option maxRecDepth 100000 in
theorem wd_17 : (Jvm.Cond.methodLink "ExpenseClubsLaw" (17 : Nat) ({ cls := "ExpenseClubs", name := "<init>", desc := "()V" } : Jvm.MethodName)) ∈ lw_tbl := List.mem_of_getElem? (i := 41) rfl
set_option maxRecDepth 100000 in
theorem wd_18 : (Jvm.Cond.instanceMethod ({ cls := "ExpenseClubs", name := "<init>", desc := "()V" } : Jvm.MethodName)) ∈ lw_tbl := List.mem_of_getElem? (i := 42) rfl
set_option maxRecDepth 100000 in
theorem wd_19 : (Jvm.Cond.code ({ cls := "ExpenseClubs", name := "<init>", desc := "()V" } : Jvm.MethodName) prog_1_method_1_code (1 : Nat) (Option.none : Option Jvm.ClassFile.FieldType)) ∈ lw_tbl := List.mem_of_getElem? (i := 43) rfl
set_option maxRecDepth 100000 in
theorem wd_20 : (Jvm.Cond.methodLink "ExpenseClubs" (3 : Nat) ({ cls := "java/lang/Object", name := "<init>", desc := "()V" } : Jvm.MethodName)) ∈ lw_tbl := List.mem_of_getElem? (i := 44) rfl
set_option maxRecDepth 100000 in
theorem wd_21 : (Jvm.Cond.instanceMethod ({ cls := "java/lang/Object", name := "<init>", desc := "()V" } : Jvm.MethodName)) ∈ lw_tbl := List.mem_of_getElem? (i := 45) rfl
set_option maxRecDepth 100000 in
theorem wd_22 : (Jvm.Cond.code ({ cls := "java/lang/Object", name := "<init>", desc := "()V" } : Jvm.MethodName) object_method_1_code (1 : Nat) (Option.none : Option Jvm.ClassFile.FieldType)) ∈ lw_tbl := List.mem_of_getElem? (i := 46) rfl
set_option maxRecDepth 100000 in
theorem wd_23 : (Jvm.Cond.classLink "ExpenseClubs" (9 : Nat) "ExpenseClubs$Club") ∈ lw_tbl := List.mem_of_getElem? (i := 47) rfl
set_option maxRecDepth 100000 in
theorem wd_24 : (Jvm.Cond.arrayOver (Jvm.ClassFile.FieldType.object "ExpenseClubs$Club")) ∈ lw_tbl := List.mem_of_getElem? (i := 48) rfl
set_option maxRecDepth 100000 in
theorem wd_25 : (Jvm.Cond.classLink "ExpenseClubs" (15 : Nat) "ExpenseClubs$Bill") ∈ lw_tbl := List.mem_of_getElem? (i := 49) rfl
set_option maxRecDepth 100000 in
theorem wd_26 : (Jvm.Cond.arrayOver (Jvm.ClassFile.FieldType.object "ExpenseClubs$Bill")) ∈ lw_tbl := List.mem_of_getElem? (i := 50) rfl
set_option maxRecDepth 100000 in
theorem wd_27 : (Jvm.Cond.classLink "ExpenseClubs" (21 : Nat) "ExpenseClubs$Draft") ∈ lw_tbl := List.mem_of_getElem? (i := 51) rfl
set_option maxRecDepth 100000 in
theorem wd_28 : (Jvm.Cond.instantiable "ExpenseClubs$Draft" (7 : Nat)) ∈ lw_tbl := List.mem_of_getElem? (i := 52) rfl
set_option maxRecDepth 100000 in
theorem wd_29 : (Jvm.Cond.methodLinkNest "ExpenseClubs" (23 : Nat) ({ cls := "ExpenseClubs$Draft", name := "<init>", desc := "()V" } : Jvm.MethodName) "ExpenseClubs") ∈ lw_tbl := List.mem_of_getElem? (i := 53) rfl
set_option maxRecDepth 100000 in
theorem wd_30 : (Jvm.Cond.instanceMethod ({ cls := "ExpenseClubs$Draft", name := "<init>", desc := "()V" } : Jvm.MethodName)) ∈ lw_tbl := List.mem_of_getElem? (i := 54) rfl
set_option maxRecDepth 100000 in
theorem wd_31 : (Jvm.Cond.code ({ cls := "ExpenseClubs$Draft", name := "<init>", desc := "()V" } : Jvm.MethodName) prog_4_method_1_code (1 : Nat) (Option.none : Option Jvm.ClassFile.FieldType)) ∈ lw_tbl := List.mem_of_getElem? (i := 55) rfl
set_option maxRecDepth 100000 in
theorem wd_32 : (Jvm.Cond.methodLink "ExpenseClubs$Draft" (3 : Nat) ({ cls := "java/lang/Object", name := "<init>", desc := "()V" } : Jvm.MethodName)) ∈ lw_tbl := List.mem_of_getElem? (i := 56) rfl
set_option maxRecDepth 100000 in
theorem wd_33 : (Jvm.Cond.fieldLink "ExpenseClubs$Draft" (9 : Nat) "ExpenseClubs$Draft" "payers" "[J") ∈ lw_tbl := List.mem_of_getElem? (i := 57) rfl
set_option maxRecDepth 100000 in
theorem wd_34 : (Jvm.Cond.fieldLink "ExpenseClubs" (78 : Nat) "ExpenseClubs$Draft" "payers" "[J") ∈ lw_tbl := List.mem_of_getElem? (i := 58) rfl
set_option maxRecDepth 100000 in
theorem wd_35 : (Jvm.Cond.fieldLink "ExpenseClubs$Draft" (15 : Nat) "ExpenseClubs$Draft" "weights" "[J") ∈ lw_tbl := List.mem_of_getElem? (i := 59) rfl
set_option maxRecDepth 100000 in
theorem wd_36 : (Jvm.Cond.fieldLink "ExpenseClubs" (88 : Nat) "ExpenseClubs$Draft" "weights" "[J") ∈ lw_tbl := List.mem_of_getElem? (i := 60) rfl
set_option maxRecDepth 100000 in
theorem wd_37 : (Jvm.Cond.fieldLink "ExpenseClubs$Draft" (18 : Nat) "ExpenseClubs$Draft" "club" "LExpenseClubs$Club;") ∈ lw_tbl := List.mem_of_getElem? (i := 61) rfl
set_option maxRecDepth 100000 in
theorem wd_38 : (Jvm.Cond.fieldLink "ExpenseClubs" (74 : Nat) "ExpenseClubs$Draft" "club" "LExpenseClubs$Club;") ∈ lw_tbl := List.mem_of_getElem? (i := 62) rfl
set_option maxRecDepth 100000 in
theorem wd_39 : (Jvm.Cond.fieldLink "ExpenseClubs$Draft" (22 : Nat) "ExpenseClubs$Draft" "way" "I") ∈ lw_tbl := List.mem_of_getElem? (i := 63) rfl
set_option maxRecDepth 100000 in
theorem wd_40 : (Jvm.Cond.fieldLink "ExpenseClubs" (81 : Nat) "ExpenseClubs$Draft" "way" "I") ∈ lw_tbl := List.mem_of_getElem? (i := 64) rfl
set_option maxRecDepth 100000 in
theorem wd_41 : (Jvm.Cond.fieldLink "ExpenseClubs$Draft" (26 : Nat) "ExpenseClubs$Draft" "cents" "I") ∈ lw_tbl := List.mem_of_getElem? (i := 65) rfl
set_option maxRecDepth 100000 in
theorem wd_42 : (Jvm.Cond.fieldLink "ExpenseClubs$Draft" (29 : Nat) "ExpenseClubs$Draft" "rate" "I") ∈ lw_tbl := List.mem_of_getElem? (i := 66) rfl
set_option maxRecDepth 100000 in
theorem wd_43 : (Jvm.Cond.fieldLink "ExpenseClubs$Draft" (32 : Nat) "ExpenseClubs$Draft" "lineCount" "I") ∈ lw_tbl := List.mem_of_getElem? (i := 67) rfl
set_option maxRecDepth 100000 in
theorem wd_44 : (Jvm.Cond.fieldLink "ExpenseClubs" (95 : Nat) "ExpenseClubs$Draft" "lineCount" "I") ∈ lw_tbl := List.mem_of_getElem? (i := 68) rfl
set_option maxRecDepth 100000 in
theorem wd_45 : (Jvm.Cond.laysFinal "ExpenseClubs$Draft" "ExpenseClubs$Draft" "payers" "[J") ∈ lw_tbl := List.mem_of_getElem? (i := 69) rfl
set_option maxRecDepth 100000 in
theorem wd_46 : (Jvm.Cond.soleField "ExpenseClubs$Draft" "payers") ∈ lw_tbl := List.mem_of_getElem? (i := 70) rfl
set_option maxRecDepth 100000 in
theorem wd_47 : (Jvm.Cond.laysFinal "ExpenseClubs$Draft" "ExpenseClubs$Draft" "weights" "[J") ∈ lw_tbl := List.mem_of_getElem? (i := 71) rfl
set_option maxRecDepth 100000 in
theorem wd_48 : (Jvm.Cond.soleField "ExpenseClubs$Draft" "weights") ∈ lw_tbl := List.mem_of_getElem? (i := 72) rfl
set_option maxRecDepth 100000 in
theorem wd_49 : (Jvm.Cond.lays "ExpenseClubs$Draft" "ExpenseClubs$Draft" "club" "LExpenseClubs$Club;") ∈ lw_tbl := List.mem_of_getElem? (i := 73) rfl
set_option maxRecDepth 100000 in
theorem wd_50 : (Jvm.Cond.soleField "ExpenseClubs$Draft" "club") ∈ lw_tbl := List.mem_of_getElem? (i := 74) rfl
set_option maxRecDepth 100000 in
theorem wd_51 : (Jvm.Cond.lays "ExpenseClubs$Draft" "ExpenseClubs$Draft" "way" "I") ∈ lw_tbl := List.mem_of_getElem? (i := 75) rfl
set_option maxRecDepth 100000 in
theorem wd_52 : (Jvm.Cond.soleField "ExpenseClubs$Draft" "way") ∈ lw_tbl := List.mem_of_getElem? (i := 76) rfl
set_option maxRecDepth 100000 in
theorem wd_53 : (Jvm.Cond.lays "ExpenseClubs$Draft" "ExpenseClubs$Draft" "cents" "I") ∈ lw_tbl := List.mem_of_getElem? (i := 77) rfl
set_option maxRecDepth 100000 in
theorem wd_54 : (Jvm.Cond.soleField "ExpenseClubs$Draft" "cents") ∈ lw_tbl := List.mem_of_getElem? (i := 78) rfl
set_option maxRecDepth 100000 in
theorem wd_55 : (Jvm.Cond.lays "ExpenseClubs$Draft" "ExpenseClubs$Draft" "rate" "I") ∈ lw_tbl := List.mem_of_getElem? (i := 79) rfl
set_option maxRecDepth 100000 in
theorem wd_56 : (Jvm.Cond.soleField "ExpenseClubs$Draft" "rate") ∈ lw_tbl := List.mem_of_getElem? (i := 80) rfl
set_option maxRecDepth 100000 in
theorem wd_57 : (Jvm.Cond.lays "ExpenseClubs$Draft" "ExpenseClubs$Draft" "lineCount" "I") ∈ lw_tbl := List.mem_of_getElem? (i := 81) rfl
set_option maxRecDepth 100000 in
theorem wd_58 : (Jvm.Cond.soleField "ExpenseClubs$Draft" "lineCount") ∈ lw_tbl := List.mem_of_getElem? (i := 82) rfl
set_option maxRecDepth 100000 in
theorem wd_59 : (Jvm.Cond.superclass "ExpenseClubs$Draft" "java/lang/Object") ∈ lw_tbl := List.mem_of_getElem? (i := 83) rfl
set_option maxRecDepth 100000 in
theorem wd_60 : (Jvm.Cond.arrayClass Jvm.ClassFile.FieldType.long) ∈ lw_tbl := List.mem_of_getElem? (i := 84) rfl
set_option maxRecDepth 100000 in
theorem wd_61 : (Jvm.Cond.classLink "ExpenseClubs" (28 : Nat) "ExpenseClubs$Grouping") ∈ lw_tbl := List.mem_of_getElem? (i := 85) rfl
set_option maxRecDepth 100000 in
theorem wd_62 : (Jvm.Cond.instantiable "ExpenseClubs$Grouping" (4 : Nat)) ∈ lw_tbl := List.mem_of_getElem? (i := 86) rfl
set_option maxRecDepth 100000 in
theorem wd_63 : (Jvm.Cond.methodLinkNest "ExpenseClubs" (30 : Nat) ({ cls := "ExpenseClubs$Grouping", name := "<init>", desc := "()V" } : Jvm.MethodName) "ExpenseClubs") ∈ lw_tbl := List.mem_of_getElem? (i := 87) rfl
set_option maxRecDepth 100000 in
theorem wd_64 : (Jvm.Cond.instanceMethod ({ cls := "ExpenseClubs$Grouping", name := "<init>", desc := "()V" } : Jvm.MethodName)) ∈ lw_tbl := List.mem_of_getElem? (i := 88) rfl
set_option maxRecDepth 100000 in
theorem wd_65 : (Jvm.Cond.code ({ cls := "ExpenseClubs$Grouping", name := "<init>", desc := "()V" } : Jvm.MethodName) prog_5_method_1_code (1 : Nat) (Option.none : Option Jvm.ClassFile.FieldType)) ∈ lw_tbl := List.mem_of_getElem? (i := 89) rfl
set_option maxRecDepth 100000 in
theorem wd_66 : (Jvm.Cond.methodLink "ExpenseClubs$Grouping" (3 : Nat) ({ cls := "java/lang/Object", name := "<init>", desc := "()V" } : Jvm.MethodName)) ∈ lw_tbl := List.mem_of_getElem? (i := 90) rfl
set_option maxRecDepth 100000 in
theorem wd_67 : (Jvm.Cond.fieldLink "ExpenseClubs$Grouping" (9 : Nat) "ExpenseClubs$Grouping" "members" "[I") ∈ lw_tbl := List.mem_of_getElem? (i := 91) rfl
set_option maxRecDepth 100000 in
theorem wd_68 : (Jvm.Cond.fieldLink "ExpenseClubs$Grouping" (15 : Nat) "ExpenseClubs$Grouping" "amounts" "[J") ∈ lw_tbl := List.mem_of_getElem? (i := 92) rfl
set_option maxRecDepth 100000 in
theorem wd_69 : (Jvm.Cond.fieldLink "ExpenseClubs$Grouping" (19 : Nat) "ExpenseClubs$Grouping" "most" "[I") ∈ lw_tbl := List.mem_of_getElem? (i := 93) rfl
set_option maxRecDepth 100000 in
theorem wd_70 : (Jvm.Cond.fieldLink "ExpenseClubs$Grouping" (34 : Nat) "ExpenseClubs$Grouping" "size" "I") ∈ lw_tbl := List.mem_of_getElem? (i := 94) rfl
set_option maxRecDepth 100000 in
theorem wd_71 : (Jvm.Cond.laysFinal "ExpenseClubs$Grouping" "ExpenseClubs$Grouping" "members" "[I") ∈ lw_tbl := List.mem_of_getElem? (i := 95) rfl
set_option maxRecDepth 100000 in
theorem wd_72 : (Jvm.Cond.soleField "ExpenseClubs$Grouping" "members") ∈ lw_tbl := List.mem_of_getElem? (i := 96) rfl
set_option maxRecDepth 100000 in
theorem wd_73 : (Jvm.Cond.laysFinal "ExpenseClubs$Grouping" "ExpenseClubs$Grouping" "amounts" "[J") ∈ lw_tbl := List.mem_of_getElem? (i := 97) rfl
set_option maxRecDepth 100000 in
theorem wd_74 : (Jvm.Cond.soleField "ExpenseClubs$Grouping" "amounts") ∈ lw_tbl := List.mem_of_getElem? (i := 98) rfl
set_option maxRecDepth 100000 in
theorem wd_75 : (Jvm.Cond.laysFinal "ExpenseClubs$Grouping" "ExpenseClubs$Grouping" "most" "[I") ∈ lw_tbl := List.mem_of_getElem? (i := 99) rfl
set_option maxRecDepth 100000 in
theorem wd_76 : (Jvm.Cond.soleField "ExpenseClubs$Grouping" "most") ∈ lw_tbl := List.mem_of_getElem? (i := 100) rfl
set_option maxRecDepth 100000 in
theorem wd_77 : (Jvm.Cond.lays "ExpenseClubs$Grouping" "ExpenseClubs$Grouping" "size" "I") ∈ lw_tbl := List.mem_of_getElem? (i := 101) rfl
set_option maxRecDepth 100000 in
theorem wd_78 : (Jvm.Cond.soleField "ExpenseClubs$Grouping" "size") ∈ lw_tbl := List.mem_of_getElem? (i := 102) rfl
set_option maxRecDepth 100000 in
theorem wd_79 : (Jvm.Cond.superclass "ExpenseClubs$Grouping" "java/lang/Object") ∈ lw_tbl := List.mem_of_getElem? (i := 103) rfl
set_option maxRecDepth 100000 in
theorem wd_80 : (Jvm.Cond.arrayClass Jvm.ClassFile.FieldType.int) ∈ lw_tbl := List.mem_of_getElem? (i := 104) rfl
set_option maxRecDepth 100000 in
theorem wd_81 : (Jvm.Cond.fieldLink "ExpenseClubs" (11 : Nat) "ExpenseClubs" "clubs" "[LExpenseClubs$Club;") ∈ lw_tbl := List.mem_of_getElem? (i := 105) rfl
set_option maxRecDepth 100000 in
theorem wd_82 : (Jvm.Cond.fieldLink "ExpenseClubs" (17 : Nat) "ExpenseClubs" "bills" "[LExpenseClubs$Bill;") ∈ lw_tbl := List.mem_of_getElem? (i := 106) rfl
set_option maxRecDepth 100000 in
theorem wd_83 : (Jvm.Cond.fieldLink "ExpenseClubs" (24 : Nat) "ExpenseClubs" "draft" "LExpenseClubs$Draft;") ∈ lw_tbl := List.mem_of_getElem? (i := 107) rfl
set_option maxRecDepth 100000 in
theorem wd_84 : (Jvm.Cond.fieldLink "ExpenseClubs" (31 : Nat) "ExpenseClubs" "grouping" "LExpenseClubs$Grouping;") ∈ lw_tbl := List.mem_of_getElem? (i := 108) rfl
set_option maxRecDepth 100000 in
theorem wd_85 : (Jvm.Cond.fieldLink "ExpenseClubs" (35 : Nat) "ExpenseClubs" "clubCount" "I") ∈ lw_tbl := List.mem_of_getElem? (i := 109) rfl
set_option maxRecDepth 100000 in
theorem wd_86 : (Jvm.Cond.fieldLink "ExpenseClubs" (114 : Nat) "ExpenseClubs" "billCount" "I") ∈ lw_tbl := List.mem_of_getElem? (i := 110) rfl
set_option maxRecDepth 100000 in
theorem wd_87 : (Jvm.Cond.laysFinal "ExpenseClubs" "ExpenseClubs" "clubs" "[LExpenseClubs$Club;") ∈ lw_tbl := List.mem_of_getElem? (i := 111) rfl
set_option maxRecDepth 100000 in
theorem wd_88 : (Jvm.Cond.soleField "ExpenseClubs" "clubs") ∈ lw_tbl := List.mem_of_getElem? (i := 112) rfl
set_option maxRecDepth 100000 in
theorem wd_89 : (Jvm.Cond.laysFinal "ExpenseClubs" "ExpenseClubs" "bills" "[LExpenseClubs$Bill;") ∈ lw_tbl := List.mem_of_getElem? (i := 113) rfl
set_option maxRecDepth 100000 in
theorem wd_90 : (Jvm.Cond.soleField "ExpenseClubs" "bills") ∈ lw_tbl := List.mem_of_getElem? (i := 114) rfl
set_option maxRecDepth 100000 in
theorem wd_91 : (Jvm.Cond.laysFinal "ExpenseClubs" "ExpenseClubs" "draft" "LExpenseClubs$Draft;") ∈ lw_tbl := List.mem_of_getElem? (i := 115) rfl
set_option maxRecDepth 100000 in
theorem wd_92 : (Jvm.Cond.soleField "ExpenseClubs" "draft") ∈ lw_tbl := List.mem_of_getElem? (i := 116) rfl
set_option maxRecDepth 100000 in
theorem wd_93 : (Jvm.Cond.laysFinal "ExpenseClubs" "ExpenseClubs" "grouping" "LExpenseClubs$Grouping;") ∈ lw_tbl := List.mem_of_getElem? (i := 117) rfl
set_option maxRecDepth 100000 in
theorem wd_94 : (Jvm.Cond.soleField "ExpenseClubs" "grouping") ∈ lw_tbl := List.mem_of_getElem? (i := 118) rfl
set_option maxRecDepth 100000 in
theorem wd_95 : (Jvm.Cond.lays "ExpenseClubs" "ExpenseClubs" "clubCount" "I") ∈ lw_tbl := List.mem_of_getElem? (i := 119) rfl
set_option maxRecDepth 100000 in
theorem wd_96 : (Jvm.Cond.soleField "ExpenseClubs" "clubCount") ∈ lw_tbl := List.mem_of_getElem? (i := 120) rfl
set_option maxRecDepth 100000 in
theorem wd_97 : (Jvm.Cond.lays "ExpenseClubs" "ExpenseClubs" "billCount" "I") ∈ lw_tbl := List.mem_of_getElem? (i := 121) rfl
set_option maxRecDepth 100000 in
theorem wd_98 : (Jvm.Cond.soleField "ExpenseClubs" "billCount") ∈ lw_tbl := List.mem_of_getElem? (i := 122) rfl
set_option maxRecDepth 100000 in
theorem wd_99 : (Jvm.Cond.superclass "ExpenseClubs" "java/lang/Object") ∈ lw_tbl := List.mem_of_getElem? (i := 123) rfl
set_option maxRecDepth 100000 in
theorem wd_100 : (Jvm.Cond.methodLink "ExpenseClubsLaw" (21 : Nat) ({ cls := "ExpenseClubs", name := "club", desc := "()I" } : Jvm.MethodName)) ∈ lw_tbl := List.mem_of_getElem? (i := 124) rfl
set_option maxRecDepth 100000 in
theorem wd_101 : (Jvm.Cond.instanceMethod ({ cls := "ExpenseClubs", name := "club", desc := "()I" } : Jvm.MethodName)) ∈ lw_tbl := List.mem_of_getElem? (i := 125) rfl
set_option maxRecDepth 100000 in
theorem wd_102 : (Jvm.Cond.selects "ExpenseClubs" ({ cls := "ExpenseClubs", name := "club", desc := "()I" } : Jvm.MethodName) ({ cls := "ExpenseClubs", name := "club", desc := "()I" } : Jvm.MethodName)) ∈ lw_tbl := List.mem_of_getElem? (i := 126) rfl
set_option maxRecDepth 100000 in
theorem wd_103 : (Jvm.Cond.code ({ cls := "ExpenseClubs", name := "club", desc := "()I" } : Jvm.MethodName) prog_1_method_2_code (1 : Nat) (Option.some Jvm.ClassFile.FieldType.int)) ∈ lw_tbl := List.mem_of_getElem? (i := 127) rfl
set_option maxRecDepth 100000 in
theorem wd_104 : (Jvm.Cond.instantiable "ExpenseClubs$Club" (6 : Nat)) ∈ lw_tbl := List.mem_of_getElem? (i := 128) rfl
set_option maxRecDepth 100000 in
theorem wd_105 : (Jvm.Cond.methodLinkNest "ExpenseClubs" (39 : Nat) ({ cls := "ExpenseClubs$Club", name := "<init>", desc := "()V" } : Jvm.MethodName) "ExpenseClubs") ∈ lw_tbl := List.mem_of_getElem? (i := 129) rfl
set_option maxRecDepth 100000 in
theorem wd_106 : (Jvm.Cond.instanceMethod ({ cls := "ExpenseClubs$Club", name := "<init>", desc := "()V" } : Jvm.MethodName)) ∈ lw_tbl := List.mem_of_getElem? (i := 130) rfl
set_option maxRecDepth 100000 in
theorem wd_107 : (Jvm.Cond.code ({ cls := "ExpenseClubs$Club", name := "<init>", desc := "()V" } : Jvm.MethodName) prog_3_method_1_code (1 : Nat) (Option.none : Option Jvm.ClassFile.FieldType)) ∈ lw_tbl := List.mem_of_getElem? (i := 131) rfl
set_option maxRecDepth 100000 in
theorem wd_108 : (Jvm.Cond.methodLink "ExpenseClubs$Club" (3 : Nat) ({ cls := "java/lang/Object", name := "<init>", desc := "()V" } : Jvm.MethodName)) ∈ lw_tbl := List.mem_of_getElem? (i := 132) rfl
set_option maxRecDepth 100000 in
theorem wd_109 : (Jvm.Cond.classLink "ExpenseClubs$Club" (18 : Nat) "ExpenseClubs$Settlement") ∈ lw_tbl := List.mem_of_getElem? (i := 133) rfl
set_option maxRecDepth 100000 in
theorem wd_110 : (Jvm.Cond.instantiable "ExpenseClubs$Settlement" (9 : Nat)) ∈ lw_tbl := List.mem_of_getElem? (i := 134) rfl
set_option maxRecDepth 100000 in
theorem wd_111 : (Jvm.Cond.methodLinkNest "ExpenseClubs$Club" (20 : Nat) ({ cls := "ExpenseClubs$Settlement", name := "<init>", desc := "()V" } : Jvm.MethodName) "ExpenseClubs") ∈ lw_tbl := List.mem_of_getElem? (i := 135) rfl
set_option maxRecDepth 100000 in
theorem wd_112 : (Jvm.Cond.instanceMethod ({ cls := "ExpenseClubs$Settlement", name := "<init>", desc := "()V" } : Jvm.MethodName)) ∈ lw_tbl := List.mem_of_getElem? (i := 136) rfl
set_option maxRecDepth 100000 in
theorem wd_113 : (Jvm.Cond.code ({ cls := "ExpenseClubs$Settlement", name := "<init>", desc := "()V" } : Jvm.MethodName) prog_6_method_1_code (1 : Nat) (Option.none : Option Jvm.ClassFile.FieldType)) ∈ lw_tbl := List.mem_of_getElem? (i := 137) rfl
set_option maxRecDepth 100000 in
theorem wd_114 : (Jvm.Cond.methodLink "ExpenseClubs$Settlement" (3 : Nat) ({ cls := "java/lang/Object", name := "<init>", desc := "()V" } : Jvm.MethodName)) ∈ lw_tbl := List.mem_of_getElem? (i := 138) rfl
set_option maxRecDepth 100000 in
theorem wd_115 : (Jvm.Cond.fieldLink "ExpenseClubs$Settlement" (9 : Nat) "ExpenseClubs$Settlement" "groups" "[I") ∈ lw_tbl := List.mem_of_getElem? (i := 139) rfl
set_option maxRecDepth 100000 in
theorem wd_116 : (Jvm.Cond.fieldLink "ExpenseClubs$Grouping" (60 : Nat) "ExpenseClubs$Settlement" "groups" "[I") ∈ lw_tbl := List.mem_of_getElem? (i := 140) rfl
set_option maxRecDepth 100000 in
theorem wd_117 : (Jvm.Cond.fieldLink "ExpenseClubs" (195 : Nat) "ExpenseClubs$Settlement" "groups" "[I") ∈ lw_tbl := List.mem_of_getElem? (i := 141) rfl
set_option maxRecDepth 100000 in
theorem wd_118 : (Jvm.Cond.fieldLink "ExpenseClubs$Settlement" (15 : Nat) "ExpenseClubs$Settlement" "senders" "[I") ∈ lw_tbl := List.mem_of_getElem? (i := 142) rfl
set_option maxRecDepth 100000 in
theorem wd_119 : (Jvm.Cond.fieldLink "ExpenseClubs$Club" (55 : Nat) "ExpenseClubs$Settlement" "senders" "[I") ∈ lw_tbl := List.mem_of_getElem? (i := 143) rfl
set_option maxRecDepth 100000 in
theorem wd_120 : (Jvm.Cond.fieldLink "ExpenseClubs" (163 : Nat) "ExpenseClubs$Settlement" "senders" "[I") ∈ lw_tbl := List.mem_of_getElem? (i := 144) rfl
set_option maxRecDepth 100000 in
theorem wd_121 : (Jvm.Cond.fieldLink "ExpenseClubs$Settlement" (18 : Nat) "ExpenseClubs$Settlement" "getters" "[I") ∈ lw_tbl := List.mem_of_getElem? (i := 145) rfl
set_option maxRecDepth 100000 in
theorem wd_122 : (Jvm.Cond.fieldLink "ExpenseClubs$Club" (62 : Nat) "ExpenseClubs$Settlement" "getters" "[I") ∈ lw_tbl := List.mem_of_getElem? (i := 146) rfl
set_option maxRecDepth 100000 in
theorem wd_123 : (Jvm.Cond.fieldLink "ExpenseClubs" (167 : Nat) "ExpenseClubs$Settlement" "getters" "[I") ∈ lw_tbl := List.mem_of_getElem? (i := 147) rfl
set_option maxRecDepth 100000 in
theorem wd_124 : (Jvm.Cond.fieldLink "ExpenseClubs$Settlement" (21 : Nat) "ExpenseClubs$Settlement" "amounts" "[J") ∈ lw_tbl := List.mem_of_getElem? (i := 148) rfl
set_option maxRecDepth 100000 in
theorem wd_125 : (Jvm.Cond.fieldLink "ExpenseClubs$Club" (59 : Nat) "ExpenseClubs$Settlement" "amounts" "[J") ∈ lw_tbl := List.mem_of_getElem? (i := 149) rfl
set_option maxRecDepth 100000 in
theorem wd_126 : (Jvm.Cond.fieldLink "ExpenseClubs" (170 : Nat) "ExpenseClubs$Settlement" "amounts" "[J") ∈ lw_tbl := List.mem_of_getElem? (i := 150) rfl
set_option maxRecDepth 100000 in
theorem wd_127 : (Jvm.Cond.fieldLink "ExpenseClubs$Settlement" (25 : Nat) "ExpenseClubs$Settlement" "ticked" "[Z") ∈ lw_tbl := List.mem_of_getElem? (i := 151) rfl
set_option maxRecDepth 100000 in
theorem wd_128 : (Jvm.Cond.fieldLink "ExpenseClubs$Club" (48 : Nat) "ExpenseClubs$Settlement" "ticked" "[Z") ∈ lw_tbl := List.mem_of_getElem? (i := 152) rfl
set_option maxRecDepth 100000 in
theorem wd_129 : (Jvm.Cond.fieldLink "ExpenseClubs" (173 : Nat) "ExpenseClubs$Settlement" "ticked" "[Z") ∈ lw_tbl := List.mem_of_getElem? (i := 153) rfl
set_option maxRecDepth 100000 in
theorem wd_130 : (Jvm.Cond.fieldLink "ExpenseClubs$Settlement" (29 : Nat) "ExpenseClubs$Settlement" "open" "Z") ∈ lw_tbl := List.mem_of_getElem? (i := 154) rfl
set_option maxRecDepth 100000 in
theorem wd_131 : (Jvm.Cond.fieldLink "ExpenseClubs" (59 : Nat) "ExpenseClubs$Settlement" "open" "Z") ∈ lw_tbl := List.mem_of_getElem? (i := 155) rfl
set_option maxRecDepth 100000 in
theorem wd_132 : (Jvm.Cond.fieldLink "ExpenseClubs$Settlement" (33 : Nat) "ExpenseClubs$Settlement" "groupCount" "I") ∈ lw_tbl := List.mem_of_getElem? (i := 156) rfl
set_option maxRecDepth 100000 in
theorem wd_133 : (Jvm.Cond.fieldLink "ExpenseClubs$Grouping" (63 : Nat) "ExpenseClubs$Settlement" "groupCount" "I") ∈ lw_tbl := List.mem_of_getElem? (i := 157) rfl
set_option maxRecDepth 100000 in
theorem wd_134 : (Jvm.Cond.fieldLink "ExpenseClubs" (189 : Nat) "ExpenseClubs$Settlement" "groupCount" "I") ∈ lw_tbl := List.mem_of_getElem? (i := 158) rfl
set_option maxRecDepth 100000 in
theorem wd_135 : (Jvm.Cond.fieldLink "ExpenseClubs$Settlement" (37 : Nat) "ExpenseClubs$Settlement" "transferCount" "I") ∈ lw_tbl := List.mem_of_getElem? (i := 159) rfl
set_option maxRecDepth 100000 in
theorem wd_136 : (Jvm.Cond.fieldLink "ExpenseClubs" (150 : Nat) "ExpenseClubs$Settlement" "transferCount" "I") ∈ lw_tbl := List.mem_of_getElem? (i := 160) rfl
set_option maxRecDepth 100000 in
theorem wd_137 : (Jvm.Cond.fieldLink "ExpenseClubs$Settlement" (40 : Nat) "ExpenseClubs$Settlement" "waiting" "I") ∈ lw_tbl := List.mem_of_getElem? (i := 161) rfl
set_option maxRecDepth 100000 in
theorem wd_138 : (Jvm.Cond.fieldLink "ExpenseClubs$Club" (52 : Nat) "ExpenseClubs$Settlement" "waiting" "I") ∈ lw_tbl := List.mem_of_getElem? (i := 162) rfl
set_option maxRecDepth 100000 in
theorem wd_139 : (Jvm.Cond.fieldLink "ExpenseClubs" (186 : Nat) "ExpenseClubs$Settlement" "waiting" "I") ∈ lw_tbl := List.mem_of_getElem? (i := 163) rfl
set_option maxRecDepth 100000 in
theorem wd_140 : (Jvm.Cond.laysFinal "ExpenseClubs$Settlement" "ExpenseClubs$Settlement" "groups" "[I") ∈ lw_tbl := List.mem_of_getElem? (i := 164) rfl
set_option maxRecDepth 100000 in
theorem wd_141 : (Jvm.Cond.soleField "ExpenseClubs$Settlement" "groups") ∈ lw_tbl := List.mem_of_getElem? (i := 165) rfl
set_option maxRecDepth 100000 in
theorem wd_142 : (Jvm.Cond.laysFinal "ExpenseClubs$Settlement" "ExpenseClubs$Settlement" "senders" "[I") ∈ lw_tbl := List.mem_of_getElem? (i := 166) rfl
set_option maxRecDepth 100000 in
theorem wd_143 : (Jvm.Cond.soleField "ExpenseClubs$Settlement" "senders") ∈ lw_tbl := List.mem_of_getElem? (i := 167) rfl
set_option maxRecDepth 100000 in
theorem wd_144 : (Jvm.Cond.laysFinal "ExpenseClubs$Settlement" "ExpenseClubs$Settlement" "getters" "[I") ∈ lw_tbl := List.mem_of_getElem? (i := 168) rfl
set_option maxRecDepth 100000 in
theorem wd_145 : (Jvm.Cond.soleField "ExpenseClubs$Settlement" "getters") ∈ lw_tbl := List.mem_of_getElem? (i := 169) rfl
set_option maxRecDepth 100000 in
theorem wd_146 : (Jvm.Cond.laysFinal "ExpenseClubs$Settlement" "ExpenseClubs$Settlement" "amounts" "[J") ∈ lw_tbl := List.mem_of_getElem? (i := 170) rfl
set_option maxRecDepth 100000 in
theorem wd_147 : (Jvm.Cond.soleField "ExpenseClubs$Settlement" "amounts") ∈ lw_tbl := List.mem_of_getElem? (i := 171) rfl
set_option maxRecDepth 100000 in
theorem wd_148 : (Jvm.Cond.laysFinal "ExpenseClubs$Settlement" "ExpenseClubs$Settlement" "ticked" "[Z") ∈ lw_tbl := List.mem_of_getElem? (i := 172) rfl
set_option maxRecDepth 100000 in
theorem wd_149 : (Jvm.Cond.soleField "ExpenseClubs$Settlement" "ticked") ∈ lw_tbl := List.mem_of_getElem? (i := 173) rfl
set_option maxRecDepth 100000 in
theorem wd_150 : (Jvm.Cond.lays "ExpenseClubs$Settlement" "ExpenseClubs$Settlement" "open" "Z") ∈ lw_tbl := List.mem_of_getElem? (i := 174) rfl
set_option maxRecDepth 100000 in
theorem wd_151 : (Jvm.Cond.soleField "ExpenseClubs$Settlement" "open") ∈ lw_tbl := List.mem_of_getElem? (i := 175) rfl
set_option maxRecDepth 100000 in
theorem wd_152 : (Jvm.Cond.lays "ExpenseClubs$Settlement" "ExpenseClubs$Settlement" "groupCount" "I") ∈ lw_tbl := List.mem_of_getElem? (i := 176) rfl
set_option maxRecDepth 100000 in
theorem wd_153 : (Jvm.Cond.soleField "ExpenseClubs$Settlement" "groupCount") ∈ lw_tbl := List.mem_of_getElem? (i := 177) rfl
set_option maxRecDepth 100000 in
theorem wd_154 : (Jvm.Cond.lays "ExpenseClubs$Settlement" "ExpenseClubs$Settlement" "transferCount" "I") ∈ lw_tbl := List.mem_of_getElem? (i := 178) rfl
set_option maxRecDepth 100000 in
theorem wd_155 : (Jvm.Cond.soleField "ExpenseClubs$Settlement" "transferCount") ∈ lw_tbl := List.mem_of_getElem? (i := 179) rfl
set_option maxRecDepth 100000 in
theorem wd_156 : (Jvm.Cond.lays "ExpenseClubs$Settlement" "ExpenseClubs$Settlement" "waiting" "I") ∈ lw_tbl := List.mem_of_getElem? (i := 180) rfl
set_option maxRecDepth 100000 in
theorem wd_157 : (Jvm.Cond.soleField "ExpenseClubs$Settlement" "waiting") ∈ lw_tbl := List.mem_of_getElem? (i := 181) rfl
set_option maxRecDepth 100000 in
theorem wd_158 : (Jvm.Cond.superclass "ExpenseClubs$Settlement" "java/lang/Object") ∈ lw_tbl := List.mem_of_getElem? (i := 182) rfl
set_option maxRecDepth 100000 in
theorem wd_159 : (Jvm.Cond.arrayClass Jvm.ClassFile.FieldType.boolean) ∈ lw_tbl := List.mem_of_getElem? (i := 183) rfl
set_option maxRecDepth 100000 in
theorem wd_160 : (Jvm.Cond.fieldLink "ExpenseClubs$Club" (9 : Nat) "ExpenseClubs$Club" "balances" "[J") ∈ lw_tbl := List.mem_of_getElem? (i := 184) rfl
set_option maxRecDepth 100000 in
theorem wd_161 : (Jvm.Cond.fieldLink "ExpenseClubs" (51 : Nat) "ExpenseClubs$Club" "balances" "[J") ∈ lw_tbl := List.mem_of_getElem? (i := 185) rfl
set_option maxRecDepth 100000 in
theorem wd_162 : (Jvm.Cond.fieldLink "ExpenseClubs$Club" (15 : Nat) "ExpenseClubs$Club" "drifts" "[J") ∈ lw_tbl := List.mem_of_getElem? (i := 186) rfl
set_option maxRecDepth 100000 in
theorem wd_163 : (Jvm.Cond.fieldLink "ExpenseClubs" (145 : Nat) "ExpenseClubs$Club" "drifts" "[J") ∈ lw_tbl := List.mem_of_getElem? (i := 187) rfl
set_option maxRecDepth 100000 in
theorem wd_164 : (Jvm.Cond.fieldLink "ExpenseClubs$Club" (21 : Nat) "ExpenseClubs$Club" "settlement" "LExpenseClubs$Settlement;") ∈ lw_tbl := List.mem_of_getElem? (i := 188) rfl
set_option maxRecDepth 100000 in
theorem wd_165 : (Jvm.Cond.fieldLink "ExpenseClubs" (55 : Nat) "ExpenseClubs$Club" "settlement" "LExpenseClubs$Settlement;") ∈ lw_tbl := List.mem_of_getElem? (i := 189) rfl
set_option maxRecDepth 100000 in
theorem wd_166 : (Jvm.Cond.fieldLink "ExpenseClubs$Club" (25 : Nat) "ExpenseClubs$Club" "memberCount" "I") ∈ lw_tbl := List.mem_of_getElem? (i := 190) rfl
set_option maxRecDepth 100000 in
theorem wd_167 : (Jvm.Cond.fieldLink "ExpenseClubs" (44 : Nat) "ExpenseClubs$Club" "memberCount" "I") ∈ lw_tbl := List.mem_of_getElem? (i := 191) rfl
set_option maxRecDepth 100000 in
theorem wd_168 : (Jvm.Cond.fieldLink "ExpenseClubs$Club" (36 : Nat) "ExpenseClubs$Club" "goneSet" "I") ∈ lw_tbl := List.mem_of_getElem? (i := 192) rfl
set_option maxRecDepth 100000 in
theorem wd_169 : (Jvm.Cond.fieldLink "ExpenseClubs" (65 : Nat) "ExpenseClubs$Club" "goneSet" "I") ∈ lw_tbl := List.mem_of_getElem? (i := 193) rfl
set_option maxRecDepth 100000 in
theorem wd_170 : (Jvm.Cond.fieldLink "ExpenseClubs$Draft" (79 : Nat) "ExpenseClubs$Club" "mark" "I") ∈ lw_tbl := List.mem_of_getElem? (i := 194) rfl
set_option maxRecDepth 100000 in
theorem wd_171 : (Jvm.Cond.fieldLink "ExpenseClubs" (192 : Nat) "ExpenseClubs$Club" "mark" "I") ∈ lw_tbl := List.mem_of_getElem? (i := 195) rfl
set_option maxRecDepth 100000 in
theorem wd_172 : (Jvm.Cond.laysFinal "ExpenseClubs$Club" "ExpenseClubs$Club" "balances" "[J") ∈ lw_tbl := List.mem_of_getElem? (i := 196) rfl
set_option maxRecDepth 100000 in
theorem wd_173 : (Jvm.Cond.soleField "ExpenseClubs$Club" "balances") ∈ lw_tbl := List.mem_of_getElem? (i := 197) rfl
set_option maxRecDepth 100000 in
theorem wd_174 : (Jvm.Cond.laysFinal "ExpenseClubs$Club" "ExpenseClubs$Club" "drifts" "[J") ∈ lw_tbl := List.mem_of_getElem? (i := 198) rfl
set_option maxRecDepth 100000 in
theorem wd_175 : (Jvm.Cond.soleField "ExpenseClubs$Club" "drifts") ∈ lw_tbl := List.mem_of_getElem? (i := 199) rfl
set_option maxRecDepth 100000 in
theorem wd_176 : (Jvm.Cond.laysFinal "ExpenseClubs$Club" "ExpenseClubs$Club" "settlement" "LExpenseClubs$Settlement;") ∈ lw_tbl := List.mem_of_getElem? (i := 200) rfl
set_option maxRecDepth 100000 in
theorem wd_177 : (Jvm.Cond.soleField "ExpenseClubs$Club" "settlement") ∈ lw_tbl := List.mem_of_getElem? (i := 201) rfl
set_option maxRecDepth 100000 in
theorem wd_178 : (Jvm.Cond.lays "ExpenseClubs$Club" "ExpenseClubs$Club" "memberCount" "I") ∈ lw_tbl := List.mem_of_getElem? (i := 202) rfl
set_option maxRecDepth 100000 in
theorem wd_179 : (Jvm.Cond.soleField "ExpenseClubs$Club" "memberCount") ∈ lw_tbl := List.mem_of_getElem? (i := 203) rfl
set_option maxRecDepth 100000 in
theorem wd_180 : (Jvm.Cond.lays "ExpenseClubs$Club" "ExpenseClubs$Club" "goneSet" "I") ∈ lw_tbl := List.mem_of_getElem? (i := 204) rfl
set_option maxRecDepth 100000 in
theorem wd_181 : (Jvm.Cond.soleField "ExpenseClubs$Club" "goneSet") ∈ lw_tbl := List.mem_of_getElem? (i := 205) rfl
set_option maxRecDepth 100000 in
theorem wd_182 : (Jvm.Cond.lays "ExpenseClubs$Club" "ExpenseClubs$Club" "mark" "I") ∈ lw_tbl := List.mem_of_getElem? (i := 206) rfl
set_option maxRecDepth 100000 in
theorem wd_183 : (Jvm.Cond.soleField "ExpenseClubs$Club" "mark") ∈ lw_tbl := List.mem_of_getElem? (i := 207) rfl
set_option maxRecDepth 100000 in
theorem wd_184 : (Jvm.Cond.superclass "ExpenseClubs$Club" "java/lang/Object") ∈ lw_tbl := List.mem_of_getElem? (i := 208) rfl
set_option maxRecDepth 100000 in
theorem wd_185 : (Jvm.Cond.methodLink "ExpenseClubsLaw" (26 : Nat) ({ cls := "ExpenseClubs", name := "member", desc := "(I)I" } : Jvm.MethodName)) ∈ lw_tbl := List.mem_of_getElem? (i := 209) rfl
set_option maxRecDepth 100000 in
theorem wd_186 : (Jvm.Cond.instanceMethod ({ cls := "ExpenseClubs", name := "member", desc := "(I)I" } : Jvm.MethodName)) ∈ lw_tbl := List.mem_of_getElem? (i := 210) rfl
set_option maxRecDepth 100000 in
theorem wd_187 : (Jvm.Cond.selects "ExpenseClubs" ({ cls := "ExpenseClubs", name := "member", desc := "(I)I" } : Jvm.MethodName) ({ cls := "ExpenseClubs", name := "member", desc := "(I)I" } : Jvm.MethodName)) ∈ lw_tbl := List.mem_of_getElem? (i := 211) rfl
set_option maxRecDepth 100000 in
theorem wd_188 : (Jvm.Cond.code ({ cls := "ExpenseClubs", name := "member", desc := "(I)I" } : Jvm.MethodName) prog_1_method_3_code (3 : Nat) (Option.some Jvm.ClassFile.FieldType.int)) ∈ lw_tbl := List.mem_of_getElem? (i := 212) rfl
set_option maxRecDepth 100000 in
theorem wd_189 : (Jvm.Cond.methodLink "ExpenseClubs" (40 : Nat) ({ cls := "ExpenseClubs", name := "clubAt", desc := "(I)LExpenseClubs$Club;" } : Jvm.MethodName)) ∈ lw_tbl := List.mem_of_getElem? (i := 213) rfl
set_option maxRecDepth 100000 in
theorem wd_190 : (Jvm.Cond.privateMethod ({ cls := "ExpenseClubs", name := "clubAt", desc := "(I)LExpenseClubs$Club;" } : Jvm.MethodName)) ∈ lw_tbl := List.mem_of_getElem? (i := 214) rfl
set_option maxRecDepth 100000 in
theorem wd_191 : (Jvm.Cond.instanceMethod ({ cls := "ExpenseClubs", name := "clubAt", desc := "(I)LExpenseClubs$Club;" } : Jvm.MethodName)) ∈ lw_tbl := List.mem_of_getElem? (i := 215) rfl
set_option maxRecDepth 100000 in
theorem wd_192 : (Jvm.Cond.code ({ cls := "ExpenseClubs", name := "clubAt", desc := "(I)LExpenseClubs$Club;" } : Jvm.MethodName) prog_1_method_22_code (2 : Nat) (Option.some (Jvm.ClassFile.FieldType.object "ExpenseClubs$Club"))) ∈ lw_tbl := List.mem_of_getElem? (i := 216) rfl
set_option maxRecDepth 100000 in
theorem wd_193 : (Jvm.Cond.methodLink "ExpenseClubsLaw" (31 : Nat) ({ cls := "ExpenseClubs", name := "leave", desc := "(II)Z" } : Jvm.MethodName)) ∈ lw_tbl := List.mem_of_getElem? (i := 217) rfl
set_option maxRecDepth 100000 in
theorem wd_194 : (Jvm.Cond.instanceMethod ({ cls := "ExpenseClubs", name := "leave", desc := "(II)Z" } : Jvm.MethodName)) ∈ lw_tbl := List.mem_of_getElem? (i := 218) rfl
set_option maxRecDepth 100000 in
theorem wd_195 : (Jvm.Cond.selects "ExpenseClubs" ({ cls := "ExpenseClubs", name := "leave", desc := "(II)Z" } : Jvm.MethodName) ({ cls := "ExpenseClubs", name := "leave", desc := "(II)Z" } : Jvm.MethodName)) ∈ lw_tbl := List.mem_of_getElem? (i := 219) rfl
set_option maxRecDepth 100000 in
theorem wd_196 : (Jvm.Cond.code ({ cls := "ExpenseClubs", name := "leave", desc := "(II)Z" } : Jvm.MethodName) prog_1_method_4_code (4 : Nat) (Option.some Jvm.ClassFile.FieldType.boolean)) ∈ lw_tbl := List.mem_of_getElem? (i := 220) rfl
set_option maxRecDepth 100000 in
theorem wd_197 : (Jvm.Cond.methodLink "ExpenseClubs" (47 : Nat) ({ cls := "ExpenseClubs$Club", name := "isPresent", desc := "(I)Z" } : Jvm.MethodName)) ∈ lw_tbl := List.mem_of_getElem? (i := 221) rfl
set_option maxRecDepth 100000 in
theorem wd_198 : (Jvm.Cond.instanceMethod ({ cls := "ExpenseClubs$Club", name := "isPresent", desc := "(I)Z" } : Jvm.MethodName)) ∈ lw_tbl := List.mem_of_getElem? (i := 222) rfl
set_option maxRecDepth 100000 in
theorem wd_199 : (Jvm.Cond.selects "ExpenseClubs$Club" ({ cls := "ExpenseClubs$Club", name := "isPresent", desc := "(I)Z" } : Jvm.MethodName) ({ cls := "ExpenseClubs$Club", name := "isPresent", desc := "(I)Z" } : Jvm.MethodName)) ∈ lw_tbl := List.mem_of_getElem? (i := 223) rfl
set_option maxRecDepth 100000 in
theorem wd_200 : (Jvm.Cond.code ({ cls := "ExpenseClubs$Club", name := "isPresent", desc := "(I)Z" } : Jvm.MethodName) prog_3_method_3_code (2 : Nat) (Option.some Jvm.ClassFile.FieldType.boolean)) ∈ lw_tbl := List.mem_of_getElem? (i := 224) rfl
set_option maxRecDepth 100000 in
theorem wd_201 : (Jvm.Cond.methodLink "ExpenseClubs$Club" (29 : Nat) ({ cls := "ExpenseClubs$Club", name := "isMember", desc := "(I)Z" } : Jvm.MethodName)) ∈ lw_tbl := List.mem_of_getElem? (i := 225) rfl
set_option maxRecDepth 100000 in
theorem wd_202 : (Jvm.Cond.instanceMethod ({ cls := "ExpenseClubs$Club", name := "isMember", desc := "(I)Z" } : Jvm.MethodName)) ∈ lw_tbl := List.mem_of_getElem? (i := 226) rfl
set_option maxRecDepth 100000 in
theorem wd_203 : (Jvm.Cond.selects "ExpenseClubs$Club" ({ cls := "ExpenseClubs$Club", name := "isMember", desc := "(I)Z" } : Jvm.MethodName) ({ cls := "ExpenseClubs$Club", name := "isMember", desc := "(I)Z" } : Jvm.MethodName)) ∈ lw_tbl := List.mem_of_getElem? (i := 227) rfl
set_option maxRecDepth 100000 in
theorem wd_204 : (Jvm.Cond.code ({ cls := "ExpenseClubs$Club", name := "isMember", desc := "(I)Z" } : Jvm.MethodName) prog_3_method_2_code (2 : Nat) (Option.some Jvm.ClassFile.FieldType.boolean)) ∈ lw_tbl := List.mem_of_getElem? (i := 228) rfl
set_option maxRecDepth 100000 in
theorem wd_205 : (Jvm.Cond.methodLink "ExpenseClubs$Club" (33 : Nat) ({ cls := "ExpenseClubs$Club", name := "isGone", desc := "(I)Z" } : Jvm.MethodName)) ∈ lw_tbl := List.mem_of_getElem? (i := 229) rfl
set_option maxRecDepth 100000 in
theorem wd_206 : (Jvm.Cond.instanceMethod ({ cls := "ExpenseClubs$Club", name := "isGone", desc := "(I)Z" } : Jvm.MethodName)) ∈ lw_tbl := List.mem_of_getElem? (i := 230) rfl
set_option maxRecDepth 100000 in
theorem wd_207 : (Jvm.Cond.selects "ExpenseClubs$Club" ({ cls := "ExpenseClubs$Club", name := "isGone", desc := "(I)Z" } : Jvm.MethodName) ({ cls := "ExpenseClubs$Club", name := "isGone", desc := "(I)Z" } : Jvm.MethodName)) ∈ lw_tbl := List.mem_of_getElem? (i := 231) rfl
set_option maxRecDepth 100000 in
theorem wd_208 : (Jvm.Cond.code ({ cls := "ExpenseClubs$Club", name := "isGone", desc := "(I)Z" } : Jvm.MethodName) prog_3_method_4_code (2 : Nat) (Option.some Jvm.ClassFile.FieldType.boolean)) ∈ lw_tbl := List.mem_of_getElem? (i := 232) rfl
set_option maxRecDepth 100000 in
theorem wd_209 : (Jvm.Cond.methodLink "ExpenseClubsLaw" (36 : Nat) ({ cls := "ExpenseClubs", name := "bill", desc := "(IIII)Z" } : Jvm.MethodName)) ∈ lw_tbl := List.mem_of_getElem? (i := 233) rfl
set_option maxRecDepth 100000 in
theorem wd_210 : (Jvm.Cond.instanceMethod ({ cls := "ExpenseClubs", name := "bill", desc := "(IIII)Z" } : Jvm.MethodName)) ∈ lw_tbl := List.mem_of_getElem? (i := 234) rfl
set_option maxRecDepth 100000 in
theorem wd_211 : (Jvm.Cond.selects "ExpenseClubs" ({ cls := "ExpenseClubs", name := "bill", desc := "(IIII)Z" } : Jvm.MethodName) ({ cls := "ExpenseClubs", name := "bill", desc := "(IIII)Z" } : Jvm.MethodName)) ∈ lw_tbl := List.mem_of_getElem? (i := 235) rfl
set_option maxRecDepth 100000 in
theorem wd_212 : (Jvm.Cond.code ({ cls := "ExpenseClubs", name := "bill", desc := "(IIII)Z" } : Jvm.MethodName) prog_1_method_5_code (6 : Nat) (Option.some Jvm.ClassFile.FieldType.boolean)) ∈ lw_tbl := List.mem_of_getElem? (i := 236) rfl
set_option maxRecDepth 100000 in
theorem wd_213 : (Jvm.Cond.constant "ExpenseClubs" (68 : Nat) (100000000 : Int32)) ∈ lw_tbl := List.mem_of_getElem? (i := 237) rfl
set_option maxRecDepth 100000 in
theorem wd_214 : (Jvm.Cond.constant "ExpenseClubs" (69 : Nat) (1000000000 : Int32)) ∈ lw_tbl := List.mem_of_getElem? (i := 238) rfl
set_option maxRecDepth 100000 in
theorem wd_215 : (Jvm.Cond.methodLink "ExpenseClubs" (70 : Nat) ({ cls := "ExpenseClubs$Draft", name := "begin", desc := "(LExpenseClubs$Club;III)V" } : Jvm.MethodName)) ∈ lw_tbl := List.mem_of_getElem? (i := 239) rfl
set_option maxRecDepth 100000 in
theorem wd_216 : (Jvm.Cond.instanceMethod ({ cls := "ExpenseClubs$Draft", name := "begin", desc := "(LExpenseClubs$Club;III)V" } : Jvm.MethodName)) ∈ lw_tbl := List.mem_of_getElem? (i := 240) rfl
set_option maxRecDepth 100000 in
theorem wd_217 : (Jvm.Cond.selects "ExpenseClubs$Draft" ({ cls := "ExpenseClubs$Draft", name := "begin", desc := "(LExpenseClubs$Club;III)V" } : Jvm.MethodName) ({ cls := "ExpenseClubs$Draft", name := "begin", desc := "(LExpenseClubs$Club;III)V" } : Jvm.MethodName)) ∈ lw_tbl := List.mem_of_getElem? (i := 241) rfl
set_option maxRecDepth 100000 in
theorem wd_218 : (Jvm.Cond.code ({ cls := "ExpenseClubs$Draft", name := "begin", desc := "(LExpenseClubs$Club;III)V" } : Jvm.MethodName) prog_4_method_2_code (6 : Nat) (Option.none : Option Jvm.ClassFile.FieldType)) ∈ lw_tbl := List.mem_of_getElem? (i := 242) rfl
set_option maxRecDepth 100000 in
theorem wd_219 : (Jvm.Cond.methodLink "ExpenseClubsLaw" (41 : Nat) ({ cls := "ExpenseClubs", name := "payer", desc := "(II)Z" } : Jvm.MethodName)) ∈ lw_tbl := List.mem_of_getElem? (i := 243) rfl
set_option maxRecDepth 100000 in
theorem wd_220 : (Jvm.Cond.instanceMethod ({ cls := "ExpenseClubs", name := "payer", desc := "(II)Z" } : Jvm.MethodName)) ∈ lw_tbl := List.mem_of_getElem? (i := 244) rfl
set_option maxRecDepth 100000 in
theorem wd_221 : (Jvm.Cond.selects "ExpenseClubs" ({ cls := "ExpenseClubs", name := "payer", desc := "(II)Z" } : Jvm.MethodName) ({ cls := "ExpenseClubs", name := "payer", desc := "(II)Z" } : Jvm.MethodName)) ∈ lw_tbl := List.mem_of_getElem? (i := 245) rfl
set_option maxRecDepth 100000 in
theorem wd_222 : (Jvm.Cond.code ({ cls := "ExpenseClubs", name := "payer", desc := "(II)Z" } : Jvm.MethodName) prog_1_method_6_code (4 : Nat) (Option.some Jvm.ClassFile.FieldType.boolean)) ∈ lw_tbl := List.mem_of_getElem? (i := 246) rfl
set_option maxRecDepth 100000 in
theorem wd_223 : (Jvm.Cond.methodLink "ExpenseClubsLaw" (45 : Nat) ({ cls := "ExpenseClubs", name := "weight", desc := "(II)Z" } : Jvm.MethodName)) ∈ lw_tbl := List.mem_of_getElem? (i := 247) rfl
set_option maxRecDepth 100000 in
theorem wd_224 : (Jvm.Cond.instanceMethod ({ cls := "ExpenseClubs", name := "weight", desc := "(II)Z" } : Jvm.MethodName)) ∈ lw_tbl := List.mem_of_getElem? (i := 248) rfl
set_option maxRecDepth 100000 in
theorem wd_225 : (Jvm.Cond.selects "ExpenseClubs" ({ cls := "ExpenseClubs", name := "weight", desc := "(II)Z" } : Jvm.MethodName) ({ cls := "ExpenseClubs", name := "weight", desc := "(II)Z" } : Jvm.MethodName)) ∈ lw_tbl := List.mem_of_getElem? (i := 249) rfl
set_option maxRecDepth 100000 in
theorem wd_226 : (Jvm.Cond.code ({ cls := "ExpenseClubs", name := "weight", desc := "(II)Z" } : Jvm.MethodName) prog_1_method_7_code (4 : Nat) (Option.some Jvm.ClassFile.FieldType.boolean)) ∈ lw_tbl := List.mem_of_getElem? (i := 250) rfl
set_option maxRecDepth 100000 in
theorem wd_227 : (Jvm.Cond.methodLink "ExpenseClubs" (84 : Nat) ({ cls := "ExpenseClubs", name := "mostWeight", desc := "(I)I" } : Jvm.MethodName)) ∈ lw_tbl := List.mem_of_getElem? (i := 251) rfl
set_option maxRecDepth 100000 in
theorem wd_228 : (Jvm.Cond.static ({ cls := "ExpenseClubs", name := "mostWeight", desc := "(I)I" } : Jvm.MethodName)) ∈ lw_tbl := List.mem_of_getElem? (i := 252) rfl
set_option maxRecDepth 100000 in
theorem wd_229 : (Jvm.Cond.code ({ cls := "ExpenseClubs", name := "mostWeight", desc := "(I)I" } : Jvm.MethodName) prog_1_method_25_code (1 : Nat) (Option.some Jvm.ClassFile.FieldType.int)) ∈ lw_tbl := List.mem_of_getElem? (i := 253) rfl
set_option maxRecDepth 100000 in
theorem wd_230 : (Jvm.Cond.methodLink "ExpenseClubsLaw" (49 : Nat) ({ cls := "ExpenseClubs", name := "line", desc := "(II)Z" } : Jvm.MethodName)) ∈ lw_tbl := List.mem_of_getElem? (i := 254) rfl
set_option maxRecDepth 100000 in
theorem wd_231 : (Jvm.Cond.instanceMethod ({ cls := "ExpenseClubs", name := "line", desc := "(II)Z" } : Jvm.MethodName)) ∈ lw_tbl := List.mem_of_getElem? (i := 255) rfl
set_option maxRecDepth 100000 in
theorem wd_232 : (Jvm.Cond.selects "ExpenseClubs" ({ cls := "ExpenseClubs", name := "line", desc := "(II)Z" } : Jvm.MethodName) ({ cls := "ExpenseClubs", name := "line", desc := "(II)Z" } : Jvm.MethodName)) ∈ lw_tbl := List.mem_of_getElem? (i := 256) rfl
set_option maxRecDepth 100000 in
theorem wd_233 : (Jvm.Cond.code ({ cls := "ExpenseClubs", name := "line", desc := "(II)Z" } : Jvm.MethodName) prog_1_method_8_code (4 : Nat) (Option.some Jvm.ClassFile.FieldType.boolean)) ∈ lw_tbl := List.mem_of_getElem? (i := 257) rfl
set_option maxRecDepth 100000 in
theorem wd_234 : (Jvm.Cond.methodLink "ExpenseClubs" (91 : Nat) ({ cls := "ExpenseClubs$Club", name := "presentSet", desc := "()I" } : Jvm.MethodName)) ∈ lw_tbl := List.mem_of_getElem? (i := 258) rfl
set_option maxRecDepth 100000 in
theorem wd_235 : (Jvm.Cond.instanceMethod ({ cls := "ExpenseClubs$Club", name := "presentSet", desc := "()I" } : Jvm.MethodName)) ∈ lw_tbl := List.mem_of_getElem? (i := 259) rfl
set_option maxRecDepth 100000 in
theorem wd_236 : (Jvm.Cond.selects "ExpenseClubs$Club" ({ cls := "ExpenseClubs$Club", name := "presentSet", desc := "()I" } : Jvm.MethodName) ({ cls := "ExpenseClubs$Club", name := "presentSet", desc := "()I" } : Jvm.MethodName)) ∈ lw_tbl := List.mem_of_getElem? (i := 260) rfl
set_option maxRecDepth 100000 in
theorem wd_237 : (Jvm.Cond.code ({ cls := "ExpenseClubs$Club", name := "presentSet", desc := "()I" } : Jvm.MethodName) prog_3_method_5_code (1 : Nat) (Option.some Jvm.ClassFile.FieldType.int)) ∈ lw_tbl := List.mem_of_getElem? (i := 261) rfl
set_option maxRecDepth 100000 in
theorem wd_238 : (Jvm.Cond.methodLink "ExpenseClubs" (98 : Nat) ({ cls := "ExpenseClubs$Draft", name := "addLine", desc := "(II)V" } : Jvm.MethodName)) ∈ lw_tbl := List.mem_of_getElem? (i := 262) rfl
set_option maxRecDepth 100000 in
theorem wd_239 : (Jvm.Cond.instanceMethod ({ cls := "ExpenseClubs$Draft", name := "addLine", desc := "(II)V" } : Jvm.MethodName)) ∈ lw_tbl := List.mem_of_getElem? (i := 263) rfl
set_option maxRecDepth 100000 in
theorem wd_240 : (Jvm.Cond.selects "ExpenseClubs$Draft" ({ cls := "ExpenseClubs$Draft", name := "addLine", desc := "(II)V" } : Jvm.MethodName) ({ cls := "ExpenseClubs$Draft", name := "addLine", desc := "(II)V" } : Jvm.MethodName)) ∈ lw_tbl := List.mem_of_getElem? (i := 264) rfl
set_option maxRecDepth 100000 in
theorem wd_241 : (Jvm.Cond.code ({ cls := "ExpenseClubs$Draft", name := "addLine", desc := "(II)V" } : Jvm.MethodName) prog_4_method_3_code (7 : Nat) (Option.none : Option Jvm.ClassFile.FieldType)) ∈ lw_tbl := List.mem_of_getElem? (i := 265) rfl
set_option maxRecDepth 100000 in
theorem wd_242 : (Jvm.Cond.methodLink "ExpenseClubs$Draft" (35 : Nat) ({ cls := "java/lang/Integer", name := "bitCount", desc := "(I)I" } : Jvm.MethodName)) ∈ lw_tbl := List.mem_of_getElem? (i := 266) rfl
set_option maxRecDepth 100000 in
theorem wd_243 : (Jvm.Cond.static ({ cls := "java/lang/Integer", name := "bitCount", desc := "(I)I" } : Jvm.MethodName)) ∈ lw_tbl := List.mem_of_getElem? (i := 267) rfl
set_option maxRecDepth 100000 in
theorem wd_244 : (Jvm.Cond.code ({ cls := "java/lang/Integer", name := "bitCount", desc := "(I)I" } : Jvm.MethodName) prog_12_method_49_code (1 : Nat) (Option.some Jvm.ClassFile.FieldType.int)) ∈ lw_tbl := List.mem_of_getElem? (i := 268) rfl
set_option maxRecDepth 100000 in
theorem wd_245 : (Jvm.Cond.constant "java/lang/Integer" (265 : Nat) (1431655765 : Int32)) ∈ lw_tbl := List.mem_of_getElem? (i := 269) rfl
set_option maxRecDepth 100000 in
theorem wd_246 : (Jvm.Cond.constant "java/lang/Integer" (266 : Nat) (858993459 : Int32)) ∈ lw_tbl := List.mem_of_getElem? (i := 270) rfl
set_option maxRecDepth 100000 in
theorem wd_247 : (Jvm.Cond.constant "java/lang/Integer" (267 : Nat) (252645135 : Int32)) ∈ lw_tbl := List.mem_of_getElem? (i := 271) rfl
set_option maxRecDepth 100000 in
theorem wd_248 : (Jvm.Cond.methodLink "ExpenseClubsLaw" (53 : Nat) ({ cls := "ExpenseClubs", name := "post", desc := "()I" } : Jvm.MethodName)) ∈ lw_tbl := List.mem_of_getElem? (i := 272) rfl
set_option maxRecDepth 100000 in
theorem wd_249 : (Jvm.Cond.instanceMethod ({ cls := "ExpenseClubs", name := "post", desc := "()I" } : Jvm.MethodName)) ∈ lw_tbl := List.mem_of_getElem? (i := 273) rfl
set_option maxRecDepth 100000 in
theorem wd_250 : (Jvm.Cond.selects "ExpenseClubs" ({ cls := "ExpenseClubs", name := "post", desc := "()I" } : Jvm.MethodName) ({ cls := "ExpenseClubs", name := "post", desc := "()I" } : Jvm.MethodName)) ∈ lw_tbl := List.mem_of_getElem? (i := 274) rfl
set_option maxRecDepth 100000 in
theorem wd_251 : (Jvm.Cond.code ({ cls := "ExpenseClubs", name := "post", desc := "()I" } : Jvm.MethodName) prog_1_method_9_code (4 : Nat) (Option.some Jvm.ClassFile.FieldType.int)) ∈ lw_tbl := List.mem_of_getElem? (i := 275) rfl
set_option maxRecDepth 100000 in
theorem wd_252 : (Jvm.Cond.methodLink "ExpenseClubs" (102 : Nat) ({ cls := "ExpenseClubs", name := "refusalOfPost", desc := "(LExpenseClubs$Club;)I" } : Jvm.MethodName)) ∈ lw_tbl := List.mem_of_getElem? (i := 276) rfl
set_option maxRecDepth 100000 in
theorem wd_253 : (Jvm.Cond.privateMethod ({ cls := "ExpenseClubs", name := "refusalOfPost", desc := "(LExpenseClubs$Club;)I" } : Jvm.MethodName)) ∈ lw_tbl := List.mem_of_getElem? (i := 277) rfl
set_option maxRecDepth 100000 in
theorem wd_254 : (Jvm.Cond.instanceMethod ({ cls := "ExpenseClubs", name := "refusalOfPost", desc := "(LExpenseClubs$Club;)I" } : Jvm.MethodName)) ∈ lw_tbl := List.mem_of_getElem? (i := 278) rfl
set_option maxRecDepth 100000 in
theorem wd_255 : (Jvm.Cond.code ({ cls := "ExpenseClubs", name := "refusalOfPost", desc := "(LExpenseClubs$Club;)I" } : Jvm.MethodName) prog_1_method_24_code (2 : Nat) (Option.some Jvm.ClassFile.FieldType.int)) ∈ lw_tbl := List.mem_of_getElem? (i := 279) rfl
set_option maxRecDepth 100000 in
theorem wd_256 : (Jvm.Cond.methodLink "ExpenseClubs" (198 : Nat) ({ cls := "ExpenseClubs$Draft", name := "refusalFor", desc := "(LExpenseClubs$Club;)I" } : Jvm.MethodName)) ∈ lw_tbl := List.mem_of_getElem? (i := 280) rfl
set_option maxRecDepth 100000 in
theorem wd_257 : (Jvm.Cond.instanceMethod ({ cls := "ExpenseClubs$Draft", name := "refusalFor", desc := "(LExpenseClubs$Club;)I" } : Jvm.MethodName)) ∈ lw_tbl := List.mem_of_getElem? (i := 281) rfl
set_option maxRecDepth 100000 in
theorem wd_258 : (Jvm.Cond.selects "ExpenseClubs$Draft" ({ cls := "ExpenseClubs$Draft", name := "refusalFor", desc := "(LExpenseClubs$Club;)I" } : Jvm.MethodName) ({ cls := "ExpenseClubs$Draft", name := "refusalFor", desc := "(LExpenseClubs$Club;)I" } : Jvm.MethodName)) ∈ lw_tbl := List.mem_of_getElem? (i := 282) rfl
set_option maxRecDepth 100000 in
theorem wd_259 : (Jvm.Cond.code ({ cls := "ExpenseClubs$Draft", name := "refusalFor", desc := "(LExpenseClubs$Club;)I" } : Jvm.MethodName) prog_4_method_4_code (4 : Nat) (Option.some Jvm.ClassFile.FieldType.int)) ∈ lw_tbl := List.mem_of_getElem? (i := 283) rfl
set_option maxRecDepth 100000 in
theorem wd_260 : (Jvm.Cond.methodLink "ExpenseClubs$Draft" (41 : Nat) ({ cls := "ExpenseClubs$Club", name := "isGone", desc := "(I)Z" } : Jvm.MethodName)) ∈ lw_tbl := List.mem_of_getElem? (i := 284) rfl
set_option maxRecDepth 100000 in
theorem wd_261 : (Jvm.Cond.methodLinkNest "ExpenseClubs$Draft" (47 : Nat) ({ cls := "ExpenseClubs", name := "sumOf", desc := "([J)J" } : Jvm.MethodName) "ExpenseClubs") ∈ lw_tbl := List.mem_of_getElem? (i := 285) rfl
set_option maxRecDepth 100000 in
theorem wd_262 : (Jvm.Cond.static ({ cls := "ExpenseClubs", name := "sumOf", desc := "([J)J" } : Jvm.MethodName)) ∈ lw_tbl := List.mem_of_getElem? (i := 286) rfl
set_option maxRecDepth 100000 in
theorem wd_263 : (Jvm.Cond.code ({ cls := "ExpenseClubs", name := "sumOf", desc := "([J)J" } : Jvm.MethodName) prog_1_method_26_code (4 : Nat) (Option.some Jvm.ClassFile.FieldType.long)) ∈ lw_tbl := List.mem_of_getElem? (i := 287) rfl
set_option maxRecDepth 100000 in
theorem wd_264 : (Jvm.Cond.methodLink "ExpenseClubs$Draft" (51 : Nat) ({ cls := "ExpenseClubs$Draft", name := "dueSum", desc := "(J)J" } : Jvm.MethodName)) ∈ lw_tbl := List.mem_of_getElem? (i := 288) rfl
set_option maxRecDepth 100000 in
theorem wd_265 : (Jvm.Cond.privateMethod ({ cls := "ExpenseClubs$Draft", name := "dueSum", desc := "(J)J" } : Jvm.MethodName)) ∈ lw_tbl := List.mem_of_getElem? (i := 289) rfl
set_option maxRecDepth 100000 in
theorem wd_266 : (Jvm.Cond.instanceMethod ({ cls := "ExpenseClubs$Draft", name := "dueSum", desc := "(J)J" } : Jvm.MethodName)) ∈ lw_tbl := List.mem_of_getElem? (i := 290) rfl
set_option maxRecDepth 100000 in
theorem wd_267 : (Jvm.Cond.code ({ cls := "ExpenseClubs$Draft", name := "dueSum", desc := "(J)J" } : Jvm.MethodName) prog_4_method_5_code (3 : Nat) (Option.some Jvm.ClassFile.FieldType.long)) ∈ lw_tbl := List.mem_of_getElem? (i := 291) rfl
set_option maxRecDepth 100000 in
theorem wd_268 : (Jvm.Cond.constantLong "ExpenseClubs$Draft" (55 : Nat) (10000 : Int64)) ∈ lw_tbl := List.mem_of_getElem? (i := 292) rfl
set_option maxRecDepth 100000 in
theorem wd_269 : (Jvm.Cond.constantLong "ExpenseClubs$Draft" (57 : Nat) (27720 : Int64)) ∈ lw_tbl := List.mem_of_getElem? (i := 293) rfl
set_option maxRecDepth 100000 in
theorem wd_270 : (Jvm.Cond.methodLink "ExpenseClubs" (106 : Nat) ({ cls := "ExpenseClubs$Draft", name := "toBill", desc := "(LExpenseClubs$Club;)LExpenseClubs$Bill;" } : Jvm.MethodName)) ∈ lw_tbl := List.mem_of_getElem? (i := 294) rfl
set_option maxRecDepth 100000 in
theorem wd_271 : (Jvm.Cond.instanceMethod ({ cls := "ExpenseClubs$Draft", name := "toBill", desc := "(LExpenseClubs$Club;)LExpenseClubs$Bill;" } : Jvm.MethodName)) ∈ lw_tbl := List.mem_of_getElem? (i := 295) rfl
set_option maxRecDepth 100000 in
theorem wd_272 : (Jvm.Cond.selects "ExpenseClubs$Draft" ({ cls := "ExpenseClubs$Draft", name := "toBill", desc := "(LExpenseClubs$Club;)LExpenseClubs$Bill;" } : Jvm.MethodName) ({ cls := "ExpenseClubs$Draft", name := "toBill", desc := "(LExpenseClubs$Club;)LExpenseClubs$Bill;" } : Jvm.MethodName)) ∈ lw_tbl := List.mem_of_getElem? (i := 296) rfl
set_option maxRecDepth 100000 in
theorem wd_273 : (Jvm.Cond.code ({ cls := "ExpenseClubs$Draft", name := "toBill", desc := "(LExpenseClubs$Club;)LExpenseClubs$Bill;" } : Jvm.MethodName) prog_4_method_6_code (8 : Nat) (Option.some (Jvm.ClassFile.FieldType.object "ExpenseClubs$Bill"))) ∈ lw_tbl := List.mem_of_getElem? (i := 297) rfl
set_option maxRecDepth 100000 in
theorem wd_274 : (Jvm.Cond.classLink "ExpenseClubs$Draft" (59 : Nat) "ExpenseClubs$Bill") ∈ lw_tbl := List.mem_of_getElem? (i := 298) rfl
set_option maxRecDepth 100000 in
theorem wd_275 : (Jvm.Cond.instantiable "ExpenseClubs$Bill" (6 : Nat)) ∈ lw_tbl := List.mem_of_getElem? (i := 299) rfl
set_option maxRecDepth 100000 in
theorem wd_276 : (Jvm.Cond.constantLong "ExpenseClubs$Draft" (61 : Nat) (500000 : Int64)) ∈ lw_tbl := List.mem_of_getElem? (i := 300) rfl
set_option maxRecDepth 100000 in
theorem wd_277 : (Jvm.Cond.constantLong "ExpenseClubs$Draft" (63 : Nat) (1000000 : Int64)) ∈ lw_tbl := List.mem_of_getElem? (i := 301) rfl
set_option maxRecDepth 100000 in
theorem wd_278 : (Jvm.Cond.methodLink "ExpenseClubs$Draft" (65 : Nat) ({ cls := "ExpenseClubs$Bill", name := "<init>", desc := "(LExpenseClubs$Club;J)V" } : Jvm.MethodName)) ∈ lw_tbl := List.mem_of_getElem? (i := 302) rfl
set_option maxRecDepth 100000 in
theorem wd_279 : (Jvm.Cond.instanceMethod ({ cls := "ExpenseClubs$Bill", name := "<init>", desc := "(LExpenseClubs$Club;J)V" } : Jvm.MethodName)) ∈ lw_tbl := List.mem_of_getElem? (i := 303) rfl
set_option maxRecDepth 100000 in
theorem wd_280 : (Jvm.Cond.code ({ cls := "ExpenseClubs$Bill", name := "<init>", desc := "(LExpenseClubs$Club;J)V" } : Jvm.MethodName) prog_2_method_1_code (4 : Nat) (Option.none : Option Jvm.ClassFile.FieldType)) ∈ lw_tbl := List.mem_of_getElem? (i := 304) rfl
set_option maxRecDepth 100000 in
theorem wd_281 : (Jvm.Cond.methodLink "ExpenseClubs$Bill" (3 : Nat) ({ cls := "java/lang/Object", name := "<init>", desc := "()V" } : Jvm.MethodName)) ∈ lw_tbl := List.mem_of_getElem? (i := 305) rfl
set_option maxRecDepth 100000 in
theorem wd_282 : (Jvm.Cond.fieldLink "ExpenseClubs$Bill" (21 : Nat) "ExpenseClubs$Bill" "owner" "LExpenseClubs$Club;") ∈ lw_tbl := List.mem_of_getElem? (i := 306) rfl
set_option maxRecDepth 100000 in
theorem wd_283 : (Jvm.Cond.fieldLink "ExpenseClubs" (124 : Nat) "ExpenseClubs$Bill" "owner" "LExpenseClubs$Club;") ∈ lw_tbl := List.mem_of_getElem? (i := 307) rfl
set_option maxRecDepth 100000 in
theorem wd_284 : (Jvm.Cond.fieldLink "ExpenseClubs$Bill" (25 : Nat) "ExpenseClubs$Bill" "clubCents" "J") ∈ lw_tbl := List.mem_of_getElem? (i := 308) rfl
set_option maxRecDepth 100000 in
theorem wd_285 : (Jvm.Cond.fieldLink "ExpenseClubs$Draft" (68 : Nat) "ExpenseClubs$Bill" "clubCents" "J") ∈ lw_tbl := List.mem_of_getElem? (i := 309) rfl
set_option maxRecDepth 100000 in
theorem wd_286 : (Jvm.Cond.fieldLink "ExpenseClubs" (138 : Nat) "ExpenseClubs$Bill" "clubCents" "J") ∈ lw_tbl := List.mem_of_getElem? (i := 310) rfl
set_option maxRecDepth 100000 in
theorem wd_287 : (Jvm.Cond.fieldLink "ExpenseClubs$Bill" (9 : Nat) "ExpenseClubs$Bill" "paid" "[J") ∈ lw_tbl := List.mem_of_getElem? (i := 311) rfl
set_option maxRecDepth 100000 in
theorem wd_288 : (Jvm.Cond.fieldLink "ExpenseClubs$Club" (39 : Nat) "ExpenseClubs$Bill" "paid" "[J") ∈ lw_tbl := List.mem_of_getElem? (i := 312) rfl
set_option maxRecDepth 100000 in
theorem wd_289 : (Jvm.Cond.fieldLink "ExpenseClubs$Draft" (72 : Nat) "ExpenseClubs$Bill" "paid" "[J") ∈ lw_tbl := List.mem_of_getElem? (i := 313) rfl
set_option maxRecDepth 100000 in
theorem wd_290 : (Jvm.Cond.fieldLink "ExpenseClubs" (132 : Nat) "ExpenseClubs$Bill" "paid" "[J") ∈ lw_tbl := List.mem_of_getElem? (i := 314) rfl
set_option maxRecDepth 100000 in
theorem wd_291 : (Jvm.Cond.fieldLink "ExpenseClubs$Bill" (15 : Nat) "ExpenseClubs$Bill" "shares" "[J") ∈ lw_tbl := List.mem_of_getElem? (i := 315) rfl
set_option maxRecDepth 100000 in
theorem wd_292 : (Jvm.Cond.fieldLink "ExpenseClubs$Club" (44 : Nat) "ExpenseClubs$Bill" "shares" "[J") ∈ lw_tbl := List.mem_of_getElem? (i := 316) rfl
set_option maxRecDepth 100000 in
theorem wd_293 : (Jvm.Cond.fieldLink "ExpenseClubs$Draft" (82 : Nat) "ExpenseClubs$Bill" "shares" "[J") ∈ lw_tbl := List.mem_of_getElem? (i := 317) rfl
set_option maxRecDepth 100000 in
theorem wd_294 : (Jvm.Cond.fieldLink "ExpenseClubs" (129 : Nat) "ExpenseClubs$Bill" "shares" "[J") ∈ lw_tbl := List.mem_of_getElem? (i := 318) rfl
set_option maxRecDepth 100000 in
theorem wd_295 : (Jvm.Cond.fieldLink "ExpenseClubs$Bill" (18 : Nat) "ExpenseClubs$Bill" "drifts" "[J") ∈ lw_tbl := List.mem_of_getElem? (i := 319) rfl
set_option maxRecDepth 100000 in
theorem wd_296 : (Jvm.Cond.fieldLink "ExpenseClubs$Club" (47 : Nat) "ExpenseClubs$Bill" "drifts" "[J") ∈ lw_tbl := List.mem_of_getElem? (i := 320) rfl
set_option maxRecDepth 100000 in
theorem wd_297 : (Jvm.Cond.fieldLink "ExpenseClubs$Draft" (91 : Nat) "ExpenseClubs$Bill" "drifts" "[J") ∈ lw_tbl := List.mem_of_getElem? (i := 321) rfl
set_option maxRecDepth 100000 in
theorem wd_298 : (Jvm.Cond.fieldLink "ExpenseClubs" (135 : Nat) "ExpenseClubs$Bill" "drifts" "[J") ∈ lw_tbl := List.mem_of_getElem? (i := 322) rfl
set_option maxRecDepth 100000 in
theorem wd_299 : (Jvm.Cond.fieldLink "ExpenseClubs" (121 : Nat) "ExpenseClubs$Bill" "struck" "Z") ∈ lw_tbl := List.mem_of_getElem? (i := 323) rfl
set_option maxRecDepth 100000 in
theorem wd_300 : (Jvm.Cond.laysFinal "ExpenseClubs$Bill" "ExpenseClubs$Bill" "owner" "LExpenseClubs$Club;") ∈ lw_tbl := List.mem_of_getElem? (i := 324) rfl
set_option maxRecDepth 100000 in
theorem wd_301 : (Jvm.Cond.soleField "ExpenseClubs$Bill" "owner") ∈ lw_tbl := List.mem_of_getElem? (i := 325) rfl
set_option maxRecDepth 100000 in
theorem wd_302 : (Jvm.Cond.laysFinal "ExpenseClubs$Bill" "ExpenseClubs$Bill" "clubCents" "J") ∈ lw_tbl := List.mem_of_getElem? (i := 326) rfl
set_option maxRecDepth 100000 in
theorem wd_303 : (Jvm.Cond.soleField "ExpenseClubs$Bill" "clubCents") ∈ lw_tbl := List.mem_of_getElem? (i := 327) rfl
set_option maxRecDepth 100000 in
theorem wd_304 : (Jvm.Cond.laysFinal "ExpenseClubs$Bill" "ExpenseClubs$Bill" "paid" "[J") ∈ lw_tbl := List.mem_of_getElem? (i := 328) rfl
set_option maxRecDepth 100000 in
theorem wd_305 : (Jvm.Cond.soleField "ExpenseClubs$Bill" "paid") ∈ lw_tbl := List.mem_of_getElem? (i := 329) rfl
set_option maxRecDepth 100000 in
theorem wd_306 : (Jvm.Cond.laysFinal "ExpenseClubs$Bill" "ExpenseClubs$Bill" "shares" "[J") ∈ lw_tbl := List.mem_of_getElem? (i := 330) rfl
set_option maxRecDepth 100000 in
theorem wd_307 : (Jvm.Cond.soleField "ExpenseClubs$Bill" "shares") ∈ lw_tbl := List.mem_of_getElem? (i := 331) rfl
set_option maxRecDepth 100000 in
theorem wd_308 : (Jvm.Cond.laysFinal "ExpenseClubs$Bill" "ExpenseClubs$Bill" "drifts" "[J") ∈ lw_tbl := List.mem_of_getElem? (i := 332) rfl
set_option maxRecDepth 100000 in
theorem wd_309 : (Jvm.Cond.soleField "ExpenseClubs$Bill" "drifts") ∈ lw_tbl := List.mem_of_getElem? (i := 333) rfl
set_option maxRecDepth 100000 in
theorem wd_310 : (Jvm.Cond.lays "ExpenseClubs$Bill" "ExpenseClubs$Bill" "struck" "Z") ∈ lw_tbl := List.mem_of_getElem? (i := 334) rfl
set_option maxRecDepth 100000 in
theorem wd_311 : (Jvm.Cond.soleField "ExpenseClubs$Bill" "struck") ∈ lw_tbl := List.mem_of_getElem? (i := 335) rfl
set_option maxRecDepth 100000 in
theorem wd_312 : (Jvm.Cond.superclass "ExpenseClubs$Bill" "java/lang/Object") ∈ lw_tbl := List.mem_of_getElem? (i := 336) rfl
set_option maxRecDepth 100000 in
theorem wd_313 : (Jvm.Cond.methodLinkNest "ExpenseClubs$Draft" (75 : Nat) ({ cls := "ExpenseClubs", name := "cut", desc := "(J[JI[J)I" } : Jvm.MethodName) "ExpenseClubs") ∈ lw_tbl := List.mem_of_getElem? (i := 337) rfl
set_option maxRecDepth 100000 in
theorem wd_314 : (Jvm.Cond.static ({ cls := "ExpenseClubs", name := "cut", desc := "(J[JI[J)I" } : Jvm.MethodName)) ∈ lw_tbl := List.mem_of_getElem? (i := 338) rfl
set_option maxRecDepth 100000 in
theorem wd_315 : (Jvm.Cond.code ({ cls := "ExpenseClubs", name := "cut", desc := "(J[JI[J)I" } : Jvm.MethodName) prog_1_method_28_code (12 : Nat) (Option.some Jvm.ClassFile.FieldType.int)) ∈ lw_tbl := List.mem_of_getElem? (i := 339) rfl
set_option maxRecDepth 100000 in
theorem wd_316 : (Jvm.Cond.methodLink "ExpenseClubs" (203 : Nat) ({ cls := "ExpenseClubs", name := "sumOf", desc := "([J)J" } : Jvm.MethodName)) ∈ lw_tbl := List.mem_of_getElem? (i := 340) rfl
set_option maxRecDepth 100000 in
theorem wd_317 : (Jvm.Cond.methodLink "ExpenseClubs" (207 : Nat) ({ cls := "ExpenseClubs", name := "portion", desc := "(JJJ)J" } : Jvm.MethodName)) ∈ lw_tbl := List.mem_of_getElem? (i := 341) rfl
set_option maxRecDepth 100000 in
theorem wd_318 : (Jvm.Cond.static ({ cls := "ExpenseClubs", name := "portion", desc := "(JJJ)J" } : Jvm.MethodName)) ∈ lw_tbl := List.mem_of_getElem? (i := 342) rfl
set_option maxRecDepth 100000 in
theorem wd_319 : (Jvm.Cond.code ({ cls := "ExpenseClubs", name := "portion", desc := "(JJJ)J" } : Jvm.MethodName) prog_1_method_27_code (15 : Nat) (Option.some Jvm.ClassFile.FieldType.long)) ∈ lw_tbl := List.mem_of_getElem? (i := 343) rfl
set_option maxRecDepth 100000 in
theorem wd_320 : (Jvm.Cond.constantLong "ExpenseClubs" (201 : Nat) (1048575 : Int64)) ∈ lw_tbl := List.mem_of_getElem? (i := 344) rfl
set_option maxRecDepth 100000 in
theorem wd_321 : (Jvm.Cond.constantLong "ExpenseClubs$Draft" (85 : Nat) (1000 : Int64)) ∈ lw_tbl := List.mem_of_getElem? (i := 345) rfl
set_option maxRecDepth 100000 in
theorem wd_322 : (Jvm.Cond.methodLinkNest "ExpenseClubs$Draft" (87 : Nat) ({ cls := "ExpenseClubs", name := "portion", desc := "(JJJ)J" } : Jvm.MethodName) "ExpenseClubs") ∈ lw_tbl := List.mem_of_getElem? (i := 346) rfl
set_option maxRecDepth 100000 in
theorem wd_323 : (Jvm.Cond.methodLink "ExpenseClubs" (110 : Nat) ({ cls := "ExpenseClubs$Club", name := "book", desc := "(LExpenseClubs$Bill;I)V" } : Jvm.MethodName)) ∈ lw_tbl := List.mem_of_getElem? (i := 347) rfl
set_option maxRecDepth 100000 in
theorem wd_324 : (Jvm.Cond.instanceMethod ({ cls := "ExpenseClubs$Club", name := "book", desc := "(LExpenseClubs$Bill;I)V" } : Jvm.MethodName)) ∈ lw_tbl := List.mem_of_getElem? (i := 348) rfl
set_option maxRecDepth 100000 in
theorem wd_325 : (Jvm.Cond.selects "ExpenseClubs$Club" ({ cls := "ExpenseClubs$Club", name := "book", desc := "(LExpenseClubs$Bill;I)V" } : Jvm.MethodName) ({ cls := "ExpenseClubs$Club", name := "book", desc := "(LExpenseClubs$Bill;I)V" } : Jvm.MethodName)) ∈ lw_tbl := List.mem_of_getElem? (i := 349) rfl
set_option maxRecDepth 100000 in
theorem wd_326 : (Jvm.Cond.code ({ cls := "ExpenseClubs$Club", name := "book", desc := "(LExpenseClubs$Bill;I)V" } : Jvm.MethodName) prog_3_method_6_code (4 : Nat) (Option.none : Option Jvm.ClassFile.FieldType)) ∈ lw_tbl := List.mem_of_getElem? (i := 350) rfl
set_option maxRecDepth 100000 in
theorem wd_327 : (Jvm.Cond.methodLink "ExpenseClubsLaw" (57 : Nat) ({ cls := "ExpenseClubs", name := "strike", desc := "(I)Z" } : Jvm.MethodName)) ∈ lw_tbl := List.mem_of_getElem? (i := 351) rfl
set_option maxRecDepth 100000 in
theorem wd_328 : (Jvm.Cond.instanceMethod ({ cls := "ExpenseClubs", name := "strike", desc := "(I)Z" } : Jvm.MethodName)) ∈ lw_tbl := List.mem_of_getElem? (i := 352) rfl
set_option maxRecDepth 100000 in
theorem wd_329 : (Jvm.Cond.selects "ExpenseClubs" ({ cls := "ExpenseClubs", name := "strike", desc := "(I)Z" } : Jvm.MethodName) ({ cls := "ExpenseClubs", name := "strike", desc := "(I)Z" } : Jvm.MethodName)) ∈ lw_tbl := List.mem_of_getElem? (i := 353) rfl
set_option maxRecDepth 100000 in
theorem wd_330 : (Jvm.Cond.code ({ cls := "ExpenseClubs", name := "strike", desc := "(I)Z" } : Jvm.MethodName) prog_1_method_10_code (3 : Nat) (Option.some Jvm.ClassFile.FieldType.boolean)) ∈ lw_tbl := List.mem_of_getElem? (i := 354) rfl
set_option maxRecDepth 100000 in
theorem wd_331 : (Jvm.Cond.methodLink "ExpenseClubs" (117 : Nat) ({ cls := "ExpenseClubs", name := "billAt", desc := "(I)LExpenseClubs$Bill;" } : Jvm.MethodName)) ∈ lw_tbl := List.mem_of_getElem? (i := 355) rfl
set_option maxRecDepth 100000 in
theorem wd_332 : (Jvm.Cond.privateMethod ({ cls := "ExpenseClubs", name := "billAt", desc := "(I)LExpenseClubs$Bill;" } : Jvm.MethodName)) ∈ lw_tbl := List.mem_of_getElem? (i := 356) rfl
set_option maxRecDepth 100000 in
theorem wd_333 : (Jvm.Cond.instanceMethod ({ cls := "ExpenseClubs", name := "billAt", desc := "(I)LExpenseClubs$Bill;" } : Jvm.MethodName)) ∈ lw_tbl := List.mem_of_getElem? (i := 357) rfl
set_option maxRecDepth 100000 in
theorem wd_334 : (Jvm.Cond.code ({ cls := "ExpenseClubs", name := "billAt", desc := "(I)LExpenseClubs$Bill;" } : Jvm.MethodName) prog_1_method_23_code (2 : Nat) (Option.some (Jvm.ClassFile.FieldType.object "ExpenseClubs$Bill"))) ∈ lw_tbl := List.mem_of_getElem? (i := 358) rfl
set_option maxRecDepth 100000 in
theorem wd_335 : (Jvm.Cond.methodLink "ExpenseClubsLaw" (62 : Nat) ({ cls := "ExpenseClubs", name := "about", desc := "(III)J" } : Jvm.MethodName)) ∈ lw_tbl := List.mem_of_getElem? (i := 359) rfl
set_option maxRecDepth 100000 in
theorem wd_336 : (Jvm.Cond.instanceMethod ({ cls := "ExpenseClubs", name := "about", desc := "(III)J" } : Jvm.MethodName)) ∈ lw_tbl := List.mem_of_getElem? (i := 360) rfl
set_option maxRecDepth 100000 in
theorem wd_337 : (Jvm.Cond.selects "ExpenseClubs" ({ cls := "ExpenseClubs", name := "about", desc := "(III)J" } : Jvm.MethodName) ({ cls := "ExpenseClubs", name := "about", desc := "(III)J" } : Jvm.MethodName)) ∈ lw_tbl := List.mem_of_getElem? (i := 361) rfl
set_option maxRecDepth 100000 in
theorem wd_338 : (Jvm.Cond.code ({ cls := "ExpenseClubs", name := "about", desc := "(III)J" } : Jvm.MethodName) prog_1_method_11_code (5 : Nat) (Option.some Jvm.ClassFile.FieldType.long)) ∈ lw_tbl := List.mem_of_getElem? (i := 362) rfl
set_option maxRecDepth 100000 in
theorem wd_339 : (Jvm.Cond.constantLong "ExpenseClubs" (127 : Nat) (-1 : Int64)) ∈ lw_tbl := List.mem_of_getElem? (i := 363) rfl
set_option maxRecDepth 100000 in
theorem wd_340 : (Jvm.Cond.methodLink "ExpenseClubsLaw" (66 : Nat) ({ cls := "ExpenseClubs", name := "total", desc := "(I)J" } : Jvm.MethodName)) ∈ lw_tbl := List.mem_of_getElem? (i := 364) rfl
set_option maxRecDepth 100000 in
theorem wd_341 : (Jvm.Cond.instanceMethod ({ cls := "ExpenseClubs", name := "total", desc := "(I)J" } : Jvm.MethodName)) ∈ lw_tbl := List.mem_of_getElem? (i := 365) rfl
set_option maxRecDepth 100000 in
theorem wd_342 : (Jvm.Cond.selects "ExpenseClubs" ({ cls := "ExpenseClubs", name := "total", desc := "(I)J" } : Jvm.MethodName) ({ cls := "ExpenseClubs", name := "total", desc := "(I)J" } : Jvm.MethodName)) ∈ lw_tbl := List.mem_of_getElem? (i := 366) rfl
set_option maxRecDepth 100000 in
theorem wd_343 : (Jvm.Cond.code ({ cls := "ExpenseClubs", name := "total", desc := "(I)J" } : Jvm.MethodName) prog_1_method_12_code (3 : Nat) (Option.some Jvm.ClassFile.FieldType.long)) ∈ lw_tbl := List.mem_of_getElem? (i := 367) rfl
set_option maxRecDepth 100000 in
theorem wd_344 : (Jvm.Cond.methodLink "ExpenseClubsLaw" (71 : Nat) ({ cls := "ExpenseClubs", name := "balance", desc := "(II)J" } : Jvm.MethodName)) ∈ lw_tbl := List.mem_of_getElem? (i := 368) rfl
set_option maxRecDepth 100000 in
theorem wd_345 : (Jvm.Cond.instanceMethod ({ cls := "ExpenseClubs", name := "balance", desc := "(II)J" } : Jvm.MethodName)) ∈ lw_tbl := List.mem_of_getElem? (i := 369) rfl
set_option maxRecDepth 100000 in
theorem wd_346 : (Jvm.Cond.selects "ExpenseClubs" ({ cls := "ExpenseClubs", name := "balance", desc := "(II)J" } : Jvm.MethodName) ({ cls := "ExpenseClubs", name := "balance", desc := "(II)J" } : Jvm.MethodName)) ∈ lw_tbl := List.mem_of_getElem? (i := 370) rfl
set_option maxRecDepth 100000 in
theorem wd_347 : (Jvm.Cond.code ({ cls := "ExpenseClubs", name := "balance", desc := "(II)J" } : Jvm.MethodName) prog_1_method_13_code (4 : Nat) (Option.some Jvm.ClassFile.FieldType.long)) ∈ lw_tbl := List.mem_of_getElem? (i := 371) rfl
set_option maxRecDepth 100000 in
theorem wd_348 : (Jvm.Cond.methodLink "ExpenseClubs" (142 : Nat) ({ cls := "ExpenseClubs$Club", name := "isMember", desc := "(I)Z" } : Jvm.MethodName)) ∈ lw_tbl := List.mem_of_getElem? (i := 372) rfl
set_option maxRecDepth 100000 in
theorem wd_349 : (Jvm.Cond.methodLink "ExpenseClubsLaw" (76 : Nat) ({ cls := "ExpenseClubs", name := "drift", desc := "(II)J" } : Jvm.MethodName)) ∈ lw_tbl := List.mem_of_getElem? (i := 373) rfl
set_option maxRecDepth 100000 in
theorem wd_350 : (Jvm.Cond.instanceMethod ({ cls := "ExpenseClubs", name := "drift", desc := "(II)J" } : Jvm.MethodName)) ∈ lw_tbl := List.mem_of_getElem? (i := 374) rfl
set_option maxRecDepth 100000 in
theorem wd_351 : (Jvm.Cond.selects "ExpenseClubs" ({ cls := "ExpenseClubs", name := "drift", desc := "(II)J" } : Jvm.MethodName) ({ cls := "ExpenseClubs", name := "drift", desc := "(II)J" } : Jvm.MethodName)) ∈ lw_tbl := List.mem_of_getElem? (i := 375) rfl
set_option maxRecDepth 100000 in
theorem wd_352 : (Jvm.Cond.code ({ cls := "ExpenseClubs", name := "drift", desc := "(II)J" } : Jvm.MethodName) prog_1_method_14_code (4 : Nat) (Option.some Jvm.ClassFile.FieldType.long)) ∈ lw_tbl := List.mem_of_getElem? (i := 376) rfl
set_option maxRecDepth 100000 in
theorem wd_353 : (Jvm.Cond.methodLink "ExpenseClubsLaw" (80 : Nat) ({ cls := "ExpenseClubs", name := "settle", desc := "(I)I" } : Jvm.MethodName)) ∈ lw_tbl := List.mem_of_getElem? (i := 377) rfl
set_option maxRecDepth 100000 in
theorem wd_354 : (Jvm.Cond.instanceMethod ({ cls := "ExpenseClubs", name := "settle", desc := "(I)I" } : Jvm.MethodName)) ∈ lw_tbl := List.mem_of_getElem? (i := 378) rfl
set_option maxRecDepth 100000 in
theorem wd_355 : (Jvm.Cond.selects "ExpenseClubs" ({ cls := "ExpenseClubs", name := "settle", desc := "(I)I" } : Jvm.MethodName) ({ cls := "ExpenseClubs", name := "settle", desc := "(I)I" } : Jvm.MethodName)) ∈ lw_tbl := List.mem_of_getElem? (i := 379) rfl
set_option maxRecDepth 100000 in
theorem wd_356 : (Jvm.Cond.code ({ cls := "ExpenseClubs", name := "settle", desc := "(I)I" } : Jvm.MethodName) prog_1_method_15_code (3 : Nat) (Option.some Jvm.ClassFile.FieldType.int)) ∈ lw_tbl := List.mem_of_getElem? (i := 380) rfl
set_option maxRecDepth 100000 in
theorem wd_357 : (Jvm.Cond.methodLink "ExpenseClubs" (146 : Nat) ({ cls := "ExpenseClubs$Grouping", name := "fill", desc := "(LExpenseClubs$Settlement;[J)V" } : Jvm.MethodName)) ∈ lw_tbl := List.mem_of_getElem? (i := 381) rfl
set_option maxRecDepth 100000 in
theorem wd_358 : (Jvm.Cond.instanceMethod ({ cls := "ExpenseClubs$Grouping", name := "fill", desc := "(LExpenseClubs$Settlement;[J)V" } : Jvm.MethodName)) ∈ lw_tbl := List.mem_of_getElem? (i := 382) rfl
set_option maxRecDepth 100000 in
theorem wd_359 : (Jvm.Cond.selects "ExpenseClubs$Grouping" ({ cls := "ExpenseClubs$Grouping", name := "fill", desc := "(LExpenseClubs$Settlement;[J)V" } : Jvm.MethodName) ({ cls := "ExpenseClubs$Grouping", name := "fill", desc := "(LExpenseClubs$Settlement;[J)V" } : Jvm.MethodName)) ∈ lw_tbl := List.mem_of_getElem? (i := 383) rfl
set_option maxRecDepth 100000 in
theorem wd_360 : (Jvm.Cond.code ({ cls := "ExpenseClubs$Grouping", name := "fill", desc := "(LExpenseClubs$Settlement;[J)V" } : Jvm.MethodName) prog_5_method_2_code (6 : Nat) (Option.none : Option Jvm.ClassFile.FieldType)) ∈ lw_tbl := List.mem_of_getElem? (i := 384) rfl
set_option maxRecDepth 100000 in
theorem wd_361 : (Jvm.Cond.methodLink "ExpenseClubs$Grouping" (22 : Nat) ({ cls := "ExpenseClubs$Grouping", name := "gather", desc := "([J)V" } : Jvm.MethodName)) ∈ lw_tbl := List.mem_of_getElem? (i := 385) rfl
set_option maxRecDepth 100000 in
theorem wd_362 : (Jvm.Cond.privateMethod ({ cls := "ExpenseClubs$Grouping", name := "gather", desc := "([J)V" } : Jvm.MethodName)) ∈ lw_tbl := List.mem_of_getElem? (i := 386) rfl
set_option maxRecDepth 100000 in
theorem wd_363 : (Jvm.Cond.instanceMethod ({ cls := "ExpenseClubs$Grouping", name := "gather", desc := "([J)V" } : Jvm.MethodName)) ∈ lw_tbl := List.mem_of_getElem? (i := 387) rfl
set_option maxRecDepth 100000 in
theorem wd_364 : (Jvm.Cond.code ({ cls := "ExpenseClubs$Grouping", name := "gather", desc := "([J)V" } : Jvm.MethodName) prog_5_method_3_code (3 : Nat) (Option.none : Option Jvm.ClassFile.FieldType)) ∈ lw_tbl := List.mem_of_getElem? (i := 388) rfl
set_option maxRecDepth 100000 in
theorem wd_365 : (Jvm.Cond.methodLink "ExpenseClubs$Grouping" (26 : Nat) ({ cls := "ExpenseClubs$Grouping", name := "countMost", desc := "()V" } : Jvm.MethodName)) ∈ lw_tbl := List.mem_of_getElem? (i := 389) rfl
set_option maxRecDepth 100000 in
theorem wd_366 : (Jvm.Cond.privateMethod ({ cls := "ExpenseClubs$Grouping", name := "countMost", desc := "()V" } : Jvm.MethodName)) ∈ lw_tbl := List.mem_of_getElem? (i := 390) rfl
set_option maxRecDepth 100000 in
theorem wd_367 : (Jvm.Cond.instanceMethod ({ cls := "ExpenseClubs$Grouping", name := "countMost", desc := "()V" } : Jvm.MethodName)) ∈ lw_tbl := List.mem_of_getElem? (i := 391) rfl
set_option maxRecDepth 100000 in
theorem wd_368 : (Jvm.Cond.code ({ cls := "ExpenseClubs$Grouping", name := "countMost", desc := "()V" } : Jvm.MethodName) prog_5_method_4_code (6 : Nat) (Option.none : Option Jvm.ClassFile.FieldType)) ∈ lw_tbl := List.mem_of_getElem? (i := 392) rfl
set_option maxRecDepth 100000 in
theorem wd_369 : (Jvm.Cond.methodLink "ExpenseClubs$Grouping" (46 : Nat) ({ cls := "java/lang/Math", name := "max", desc := "(II)I" } : Jvm.MethodName)) ∈ lw_tbl := List.mem_of_getElem? (i := 393) rfl
set_option maxRecDepth 100000 in
theorem wd_370 : (Jvm.Cond.static ({ cls := "java/lang/Math", name := "max", desc := "(II)I" } : Jvm.MethodName)) ∈ lw_tbl := List.mem_of_getElem? (i := 394) rfl
set_option maxRecDepth 100000 in
theorem wd_371 : (Jvm.Cond.code ({ cls := "java/lang/Math", name := "max", desc := "(II)I" } : Jvm.MethodName) prog_13_method_65_code (2 : Nat) (Option.some Jvm.ClassFile.FieldType.int)) ∈ lw_tbl := List.mem_of_getElem? (i := 395) rfl
set_option maxRecDepth 100000 in
theorem wd_372 : (Jvm.Cond.methodLink "ExpenseClubs$Grouping" (29 : Nat) ({ cls := "ExpenseClubs$Settlement", name := "begin", desc := "()V" } : Jvm.MethodName)) ∈ lw_tbl := List.mem_of_getElem? (i := 396) rfl
set_option maxRecDepth 100000 in
theorem wd_373 : (Jvm.Cond.instanceMethod ({ cls := "ExpenseClubs$Settlement", name := "begin", desc := "()V" } : Jvm.MethodName)) ∈ lw_tbl := List.mem_of_getElem? (i := 397) rfl
set_option maxRecDepth 100000 in
theorem wd_374 : (Jvm.Cond.selects "ExpenseClubs$Settlement" ({ cls := "ExpenseClubs$Settlement", name := "begin", desc := "()V" } : Jvm.MethodName) ({ cls := "ExpenseClubs$Settlement", name := "begin", desc := "()V" } : Jvm.MethodName)) ∈ lw_tbl := List.mem_of_getElem? (i := 398) rfl
set_option maxRecDepth 100000 in
theorem wd_375 : (Jvm.Cond.code ({ cls := "ExpenseClubs$Settlement", name := "begin", desc := "()V" } : Jvm.MethodName) prog_6_method_2_code (2 : Nat) (Option.none : Option Jvm.ClassFile.FieldType)) ∈ lw_tbl := List.mem_of_getElem? (i := 399) rfl
set_option maxRecDepth 100000 in
theorem wd_376 : (Jvm.Cond.methodLink "ExpenseClubs$Grouping" (38 : Nat) ({ cls := "ExpenseClubs$Grouping", name := "firstGroup", desc := "(I)I" } : Jvm.MethodName)) ∈ lw_tbl := List.mem_of_getElem? (i := 400) rfl
set_option maxRecDepth 100000 in
theorem wd_377 : (Jvm.Cond.privateMethod ({ cls := "ExpenseClubs$Grouping", name := "firstGroup", desc := "(I)I" } : Jvm.MethodName)) ∈ lw_tbl := List.mem_of_getElem? (i := 401) rfl
set_option maxRecDepth 100000 in
theorem wd_378 : (Jvm.Cond.instanceMethod ({ cls := "ExpenseClubs$Grouping", name := "firstGroup", desc := "(I)I" } : Jvm.MethodName)) ∈ lw_tbl := List.mem_of_getElem? (i := 402) rfl
set_option maxRecDepth 100000 in
theorem wd_379 : (Jvm.Cond.code ({ cls := "ExpenseClubs$Grouping", name := "firstGroup", desc := "(I)I" } : Jvm.MethodName) prog_5_method_5_code (4 : Nat) (Option.some Jvm.ClassFile.FieldType.int)) ∈ lw_tbl := List.mem_of_getElem? (i := 403) rfl
set_option maxRecDepth 100000 in
theorem wd_380 : (Jvm.Cond.methodLink "ExpenseClubs$Grouping" (52 : Nat) ({ cls := "ExpenseClubs$Grouping", name := "sumOfSet", desc := "(I)J" } : Jvm.MethodName)) ∈ lw_tbl := List.mem_of_getElem? (i := 404) rfl
set_option maxRecDepth 100000 in
theorem wd_381 : (Jvm.Cond.privateMethod ({ cls := "ExpenseClubs$Grouping", name := "sumOfSet", desc := "(I)J" } : Jvm.MethodName)) ∈ lw_tbl := List.mem_of_getElem? (i := 405) rfl
set_option maxRecDepth 100000 in
theorem wd_382 : (Jvm.Cond.instanceMethod ({ cls := "ExpenseClubs$Grouping", name := "sumOfSet", desc := "(I)J" } : Jvm.MethodName)) ∈ lw_tbl := List.mem_of_getElem? (i := 406) rfl
set_option maxRecDepth 100000 in
theorem wd_383 : (Jvm.Cond.code ({ cls := "ExpenseClubs$Grouping", name := "sumOfSet", desc := "(I)J" } : Jvm.MethodName) prog_5_method_6_code (5 : Nat) (Option.some Jvm.ClassFile.FieldType.long)) ∈ lw_tbl := List.mem_of_getElem? (i := 407) rfl
set_option maxRecDepth 100000 in
theorem wd_384 : (Jvm.Cond.methodLink "ExpenseClubs$Grouping" (42 : Nat) ({ cls := "ExpenseClubs$Grouping", name := "addGroup", desc := "(LExpenseClubs$Settlement;I)V" } : Jvm.MethodName)) ∈ lw_tbl := List.mem_of_getElem? (i := 408) rfl
set_option maxRecDepth 100000 in
theorem wd_385 : (Jvm.Cond.privateMethod ({ cls := "ExpenseClubs$Grouping", name := "addGroup", desc := "(LExpenseClubs$Settlement;I)V" } : Jvm.MethodName)) ∈ lw_tbl := List.mem_of_getElem? (i := 409) rfl
set_option maxRecDepth 100000 in
theorem wd_386 : (Jvm.Cond.instanceMethod ({ cls := "ExpenseClubs$Grouping", name := "addGroup", desc := "(LExpenseClubs$Settlement;I)V" } : Jvm.MethodName)) ∈ lw_tbl := List.mem_of_getElem? (i := 410) rfl
set_option maxRecDepth 100000 in
theorem wd_387 : (Jvm.Cond.code ({ cls := "ExpenseClubs$Grouping", name := "addGroup", desc := "(LExpenseClubs$Settlement;I)V" } : Jvm.MethodName) prog_5_method_7_code (7 : Nat) (Option.none : Option Jvm.ClassFile.FieldType)) ∈ lw_tbl := List.mem_of_getElem? (i := 411) rfl
set_option maxRecDepth 100000 in
theorem wd_388 : (Jvm.Cond.methodLink "ExpenseClubs$Grouping" (56 : Nat) ({ cls := "ExpenseClubs$Settlement", name := "addTransfer", desc := "(IIJ)V" } : Jvm.MethodName)) ∈ lw_tbl := List.mem_of_getElem? (i := 412) rfl
set_option maxRecDepth 100000 in
theorem wd_389 : (Jvm.Cond.instanceMethod ({ cls := "ExpenseClubs$Settlement", name := "addTransfer", desc := "(IIJ)V" } : Jvm.MethodName)) ∈ lw_tbl := List.mem_of_getElem? (i := 413) rfl
set_option maxRecDepth 100000 in
theorem wd_390 : (Jvm.Cond.selects "ExpenseClubs$Settlement" ({ cls := "ExpenseClubs$Settlement", name := "addTransfer", desc := "(IIJ)V" } : Jvm.MethodName) ({ cls := "ExpenseClubs$Settlement", name := "addTransfer", desc := "(IIJ)V" } : Jvm.MethodName)) ∈ lw_tbl := List.mem_of_getElem? (i := 414) rfl
set_option maxRecDepth 100000 in
theorem wd_391 : (Jvm.Cond.code ({ cls := "ExpenseClubs$Settlement", name := "addTransfer", desc := "(IIJ)V" } : Jvm.MethodName) prog_6_method_4_code (5 : Nat) (Option.none : Option Jvm.ClassFile.FieldType)) ∈ lw_tbl := List.mem_of_getElem? (i := 415) rfl
set_option maxRecDepth 100000 in
theorem wd_392 : (Jvm.Cond.methodLink "ExpenseClubsLaw" (93 : Nat) ({ cls := "ExpenseClubs", name := "tick", desc := "(II)Z" } : Jvm.MethodName)) ∈ lw_tbl := List.mem_of_getElem? (i := 416) rfl
set_option maxRecDepth 100000 in
theorem wd_393 : (Jvm.Cond.instanceMethod ({ cls := "ExpenseClubs", name := "tick", desc := "(II)Z" } : Jvm.MethodName)) ∈ lw_tbl := List.mem_of_getElem? (i := 417) rfl
set_option maxRecDepth 100000 in
theorem wd_394 : (Jvm.Cond.selects "ExpenseClubs" ({ cls := "ExpenseClubs", name := "tick", desc := "(II)Z" } : Jvm.MethodName) ({ cls := "ExpenseClubs", name := "tick", desc := "(II)Z" } : Jvm.MethodName)) ∈ lw_tbl := List.mem_of_getElem? (i := 418) rfl
set_option maxRecDepth 100000 in
theorem wd_395 : (Jvm.Cond.code ({ cls := "ExpenseClubs", name := "tick", desc := "(II)Z" } : Jvm.MethodName) prog_1_method_17_code (4 : Nat) (Option.some Jvm.ClassFile.FieldType.boolean)) ∈ lw_tbl := List.mem_of_getElem? (i := 419) rfl
set_option maxRecDepth 100000 in
theorem wd_396 : (Jvm.Cond.methodLink "ExpenseClubs" (153 : Nat) ({ cls := "ExpenseClubs$Settlement", name := "hasTransfer", desc := "(I)Z" } : Jvm.MethodName)) ∈ lw_tbl := List.mem_of_getElem? (i := 420) rfl
set_option maxRecDepth 100000 in
theorem wd_397 : (Jvm.Cond.instanceMethod ({ cls := "ExpenseClubs$Settlement", name := "hasTransfer", desc := "(I)Z" } : Jvm.MethodName)) ∈ lw_tbl := List.mem_of_getElem? (i := 421) rfl
set_option maxRecDepth 100000 in
theorem wd_398 : (Jvm.Cond.selects "ExpenseClubs$Settlement" ({ cls := "ExpenseClubs$Settlement", name := "hasTransfer", desc := "(I)Z" } : Jvm.MethodName) ({ cls := "ExpenseClubs$Settlement", name := "hasTransfer", desc := "(I)Z" } : Jvm.MethodName)) ∈ lw_tbl := List.mem_of_getElem? (i := 422) rfl
set_option maxRecDepth 100000 in
theorem wd_399 : (Jvm.Cond.code ({ cls := "ExpenseClubs$Settlement", name := "hasTransfer", desc := "(I)Z" } : Jvm.MethodName) prog_6_method_3_code (2 : Nat) (Option.some Jvm.ClassFile.FieldType.boolean)) ∈ lw_tbl := List.mem_of_getElem? (i := 423) rfl
set_option maxRecDepth 100000 in
theorem wd_400 : (Jvm.Cond.methodLink "ExpenseClubs" (182 : Nat) ({ cls := "ExpenseClubs$Club", name := "makeTransfer", desc := "(I)V" } : Jvm.MethodName)) ∈ lw_tbl := List.mem_of_getElem? (i := 424) rfl
set_option maxRecDepth 100000 in
theorem wd_401 : (Jvm.Cond.instanceMethod ({ cls := "ExpenseClubs$Club", name := "makeTransfer", desc := "(I)V" } : Jvm.MethodName)) ∈ lw_tbl := List.mem_of_getElem? (i := 425) rfl
set_option maxRecDepth 100000 in
theorem wd_402 : (Jvm.Cond.selects "ExpenseClubs$Club" ({ cls := "ExpenseClubs$Club", name := "makeTransfer", desc := "(I)V" } : Jvm.MethodName) ({ cls := "ExpenseClubs$Club", name := "makeTransfer", desc := "(I)V" } : Jvm.MethodName)) ∈ lw_tbl := List.mem_of_getElem? (i := 426) rfl
set_option maxRecDepth 100000 in
theorem wd_403 : (Jvm.Cond.code ({ cls := "ExpenseClubs$Club", name := "makeTransfer", desc := "(I)V" } : Jvm.MethodName) prog_3_method_7_code (2 : Nat) (Option.none : Option Jvm.ClassFile.FieldType)) ∈ lw_tbl := List.mem_of_getElem? (i := 427) rfl
set_option maxRecDepth 100000 in
theorem wd_404 : (Jvm.Cond.methodLink "ExpenseClubsLaw" (97 : Nat) ({ cls := "ExpenseClubs", name := "giveUp", desc := "(I)I" } : Jvm.MethodName)) ∈ lw_tbl := List.mem_of_getElem? (i := 428) rfl
set_option maxRecDepth 100000 in
theorem wd_405 : (Jvm.Cond.instanceMethod ({ cls := "ExpenseClubs", name := "giveUp", desc := "(I)I" } : Jvm.MethodName)) ∈ lw_tbl := List.mem_of_getElem? (i := 429) rfl
set_option maxRecDepth 100000 in
theorem wd_406 : (Jvm.Cond.selects "ExpenseClubs" ({ cls := "ExpenseClubs", name := "giveUp", desc := "(I)I" } : Jvm.MethodName) ({ cls := "ExpenseClubs", name := "giveUp", desc := "(I)I" } : Jvm.MethodName)) ∈ lw_tbl := List.mem_of_getElem? (i := 430) rfl
set_option maxRecDepth 100000 in
theorem wd_407 : (Jvm.Cond.code ({ cls := "ExpenseClubs", name := "giveUp", desc := "(I)I" } : Jvm.MethodName) prog_1_method_18_code (3 : Nat) (Option.some Jvm.ClassFile.FieldType.int)) ∈ lw_tbl := List.mem_of_getElem? (i := 431) rfl
set_option maxRecDepth 100000 in
theorem wd_408 : (Jvm.Cond.methodLink "ExpenseClubsLaw" (101 : Nat) ({ cls := "ExpenseClubs", name := "close", desc := "(I)Z" } : Jvm.MethodName)) ∈ lw_tbl := List.mem_of_getElem? (i := 432) rfl
set_option maxRecDepth 100000 in
theorem wd_409 : (Jvm.Cond.instanceMethod ({ cls := "ExpenseClubs", name := "close", desc := "(I)Z" } : Jvm.MethodName)) ∈ lw_tbl := List.mem_of_getElem? (i := 433) rfl
set_option maxRecDepth 100000 in
theorem wd_410 : (Jvm.Cond.selects "ExpenseClubs" ({ cls := "ExpenseClubs", name := "close", desc := "(I)Z" } : Jvm.MethodName) ({ cls := "ExpenseClubs", name := "close", desc := "(I)Z" } : Jvm.MethodName)) ∈ lw_tbl := List.mem_of_getElem? (i := 434) rfl
set_option maxRecDepth 100000 in
theorem wd_411 : (Jvm.Cond.code ({ cls := "ExpenseClubs", name := "close", desc := "(I)Z" } : Jvm.MethodName) prog_1_method_19_code (3 : Nat) (Option.some Jvm.ClassFile.FieldType.boolean)) ∈ lw_tbl := List.mem_of_getElem? (i := 435) rfl
set_option maxRecDepth 100000 in
theorem wd_412 : (Jvm.Cond.methodLink "ExpenseClubsLaw" (105 : Nat) ({ cls := "ExpenseClubs", name := "count", desc := "(II)I" } : Jvm.MethodName)) ∈ lw_tbl := List.mem_of_getElem? (i := 436) rfl
set_option maxRecDepth 100000 in
theorem wd_413 : (Jvm.Cond.instanceMethod ({ cls := "ExpenseClubs", name := "count", desc := "(II)I" } : Jvm.MethodName)) ∈ lw_tbl := List.mem_of_getElem? (i := 437) rfl
set_option maxRecDepth 100000 in
theorem wd_414 : (Jvm.Cond.selects "ExpenseClubs" ({ cls := "ExpenseClubs", name := "count", desc := "(II)I" } : Jvm.MethodName) ({ cls := "ExpenseClubs", name := "count", desc := "(II)I" } : Jvm.MethodName)) ∈ lw_tbl := List.mem_of_getElem? (i := 438) rfl
set_option maxRecDepth 100000 in
theorem wd_415 : (Jvm.Cond.code ({ cls := "ExpenseClubs", name := "count", desc := "(II)I" } : Jvm.MethodName) prog_1_method_20_code (4 : Nat) (Option.some Jvm.ClassFile.FieldType.int)) ∈ lw_tbl := List.mem_of_getElem? (i := 439) rfl
set_option maxRecDepth 100000 in
theorem wd_416 : (Jvm.Cond.methodLink "ExpenseClubsLaw" (110 : Nat) ({ cls := "ExpenseClubs", name := "groupOf", desc := "(II)I" } : Jvm.MethodName)) ∈ lw_tbl := List.mem_of_getElem? (i := 440) rfl
set_option maxRecDepth 100000 in
theorem wd_417 : (Jvm.Cond.instanceMethod ({ cls := "ExpenseClubs", name := "groupOf", desc := "(II)I" } : Jvm.MethodName)) ∈ lw_tbl := List.mem_of_getElem? (i := 441) rfl
set_option maxRecDepth 100000 in
theorem wd_418 : (Jvm.Cond.selects "ExpenseClubs" ({ cls := "ExpenseClubs", name := "groupOf", desc := "(II)I" } : Jvm.MethodName) ({ cls := "ExpenseClubs", name := "groupOf", desc := "(II)I" } : Jvm.MethodName)) ∈ lw_tbl := List.mem_of_getElem? (i := 442) rfl
set_option maxRecDepth 100000 in
theorem wd_419 : (Jvm.Cond.code ({ cls := "ExpenseClubs", name := "groupOf", desc := "(II)I" } : Jvm.MethodName) prog_1_method_21_code (4 : Nat) (Option.some Jvm.ClassFile.FieldType.int)) ∈ lw_tbl := List.mem_of_getElem? (i := 443) rfl
set_option maxRecDepth 100000 in
theorem wd_420 : (Jvm.Cond.methodLink "ExpenseClubsLaw" (84 : Nat) ({ cls := "ExpenseClubsLaw", name := "transfer", desc := "(LExpenseClubs;III[J)I" } : Jvm.MethodName)) ∈ lw_tbl := List.mem_of_getElem? (i := 444) rfl
set_option maxRecDepth 100000 in
theorem wd_421 : (Jvm.Cond.static ({ cls := "ExpenseClubsLaw", name := "transfer", desc := "(LExpenseClubs;III[J)I" } : Jvm.MethodName)) ∈ lw_tbl := List.mem_of_getElem? (i := 445) rfl
set_option maxRecDepth 100000 in
theorem wd_422 : (Jvm.Cond.codeWith ({ cls := "ExpenseClubsLaw", name := "transfer", desc := "(LExpenseClubs;III[J)I" } : Jvm.MethodName) method_3_code (6 : Nat) (Option.some Jvm.ClassFile.FieldType.int) [((0 : Nat), (11 : Nat), (14 : Nat), (13 : Nat)), ((0 : Nat), (11 : Nat), (18 : Nat), (15 : Nat))]) ∈ lw_tbl := List.mem_of_getElem? (i := 446) rfl
set_option maxRecDepth 100000 in
theorem wd_423 : (Jvm.Cond.classLink "ExpenseClubsLaw" (13 : Nat) "java/lang/IndexOutOfBoundsException") ∈ lw_tbl := List.mem_of_getElem? (i := 447) rfl
set_option maxRecDepth 100000 in
theorem wd_424 : (Jvm.Cond.classLink "ExpenseClubsLaw" (15 : Nat) "java/lang/IllegalArgumentException") ∈ lw_tbl := List.mem_of_getElem? (i := 448) rfl
set_option maxRecDepth 100000 in
theorem wd_425 : (Jvm.Cond.methodLink "ExpenseClubsLaw" (7 : Nat) ({ cls := "ExpenseClubs", name := "transfer", desc := "(III)J" } : Jvm.MethodName)) ∈ lw_tbl := List.mem_of_getElem? (i := 449) rfl
set_option maxRecDepth 100000 in
theorem wd_426 : (Jvm.Cond.instanceMethod ({ cls := "ExpenseClubs", name := "transfer", desc := "(III)J" } : Jvm.MethodName)) ∈ lw_tbl := List.mem_of_getElem? (i := 450) rfl
set_option maxRecDepth 100000 in
theorem wd_427 : (Jvm.Cond.selects "ExpenseClubs" ({ cls := "ExpenseClubs", name := "transfer", desc := "(III)J" } : Jvm.MethodName) ({ cls := "ExpenseClubs", name := "transfer", desc := "(III)J" } : Jvm.MethodName)) ∈ lw_tbl := List.mem_of_getElem? (i := 451) rfl
set_option maxRecDepth 100000 in
theorem wd_428 : (Jvm.Cond.code ({ cls := "ExpenseClubs", name := "transfer", desc := "(III)J" } : Jvm.MethodName) prog_1_method_16_code (5 : Nat) (Option.some Jvm.ClassFile.FieldType.long)) ∈ lw_tbl := List.mem_of_getElem? (i := 452) rfl
set_option maxRecDepth 100000 in
theorem wd_429 : (Jvm.Cond.classLink "ExpenseClubs" (156 : Nat) "java/lang/IndexOutOfBoundsException") ∈ lw_tbl := List.mem_of_getElem? (i := 453) rfl
set_option maxRecDepth 100000 in
theorem wd_430 : (Jvm.Cond.instantiable "java/lang/IndexOutOfBoundsException" (6 : Nat)) ∈ lw_tbl := List.mem_of_getElem? (i := 454) rfl
set_option maxRecDepth 100000 in
theorem wd_431 : (Jvm.Cond.castable "java/lang/IndexOutOfBoundsException" "java/lang/IndexOutOfBoundsException") ∈ lw_tbl := List.mem_of_getElem? (i := 455) rfl
set_option maxRecDepth 100000 in
theorem wd_432 : (Jvm.Cond.declares ({ cls := "java/lang/RuntimeException", name := "<init>", desc := "()V" } : Jvm.MethodName)) ∈ lw_tbl := List.mem_of_getElem? (i := 456) rfl
set_option maxRecDepth 100000 in
theorem wd_433 : (Jvm.Cond.declares ({ cls := "java/lang/RuntimeException", name := "<init>", desc := "(Ljava/lang/String;)V" } : Jvm.MethodName)) ∈ lw_tbl := List.mem_of_getElem? (i := 457) rfl
set_option maxRecDepth 100000 in
theorem wd_434 : (Jvm.Cond.declares ({ cls := "java/lang/Exception", name := "<init>", desc := "()V" } : Jvm.MethodName)) ∈ lw_tbl := List.mem_of_getElem? (i := 458) rfl
set_option maxRecDepth 100000 in
theorem wd_435 : (Jvm.Cond.declares ({ cls := "java/lang/Exception", name := "<init>", desc := "(Ljava/lang/String;)V" } : Jvm.MethodName)) ∈ lw_tbl := List.mem_of_getElem? (i := 459) rfl
set_option maxRecDepth 100000 in
theorem wd_436 : (Jvm.Cond.declares ({ cls := "java/lang/Throwable", name := "<init>", desc := "()V" } : Jvm.MethodName)) ∈ lw_tbl := List.mem_of_getElem? (i := 460) rfl
set_option maxRecDepth 100000 in
theorem wd_437 : (Jvm.Cond.declares ({ cls := "java/lang/Throwable", name := "<init>", desc := "(Ljava/lang/String;)V" } : Jvm.MethodName)) ∈ lw_tbl := List.mem_of_getElem? (i := 461) rfl
set_option maxRecDepth 100000 in
theorem wd_438 : (Jvm.Cond.selects "java/lang/IndexOutOfBoundsException" ({ cls := "java/lang/Throwable", name := "fillInStackTrace", desc := "(I)Ljava/lang/Throwable;" } : Jvm.MethodName) ({ cls := "java/lang/Throwable", name := "fillInStackTrace", desc := "(I)Ljava/lang/Throwable;" } : Jvm.MethodName)) ∈ lw_tbl := List.mem_of_getElem? (i := 462) rfl
set_option maxRecDepth 100000 in
theorem wd_439 : (Jvm.Cond.selects "java/lang/IndexOutOfBoundsException" ({ cls := "java/lang/Throwable", name := "fillInStackTrace", desc := "()Ljava/lang/Throwable;" } : Jvm.MethodName) ({ cls := "java/lang/Throwable", name := "fillInStackTrace", desc := "()Ljava/lang/Throwable;" } : Jvm.MethodName)) ∈ lw_tbl := List.mem_of_getElem? (i := 463) rfl
set_option maxRecDepth 100000 in
theorem wd_440 : (Jvm.Cond.lays "java/lang/IndexOutOfBoundsException" "java/lang/Throwable" "cause" "Ljava/lang/Throwable;") ∈ lw_tbl := List.mem_of_getElem? (i := 464) rfl
set_option maxRecDepth 100000 in
theorem wd_441 : (Jvm.Cond.lays "java/lang/Throwable" "java/lang/Throwable" "cause" "Ljava/lang/Throwable;") ∈ lw_tbl := List.mem_of_getElem? (i := 465) rfl
set_option maxRecDepth 100000 in
theorem wd_442 : (Jvm.Cond.lays "java/lang/IndexOutOfBoundsException" "java/lang/Throwable" "stackTrace" "[Ljava/lang/StackTraceElement;") ∈ lw_tbl := List.mem_of_getElem? (i := 466) rfl
set_option maxRecDepth 100000 in
theorem wd_443 : (Jvm.Cond.lays "java/lang/Throwable" "java/lang/Throwable" "stackTrace" "[Ljava/lang/StackTraceElement;") ∈ lw_tbl := List.mem_of_getElem? (i := 467) rfl
set_option maxRecDepth 100000 in
theorem wd_444 : (Jvm.Cond.lays "java/lang/IndexOutOfBoundsException" "java/lang/Throwable" "suppressedExceptions" "Ljava/util/List;") ∈ lw_tbl := List.mem_of_getElem? (i := 468) rfl
set_option maxRecDepth 100000 in
theorem wd_445 : (Jvm.Cond.lays "java/lang/Throwable" "java/lang/Throwable" "suppressedExceptions" "Ljava/util/List;") ∈ lw_tbl := List.mem_of_getElem? (i := 469) rfl
set_option maxRecDepth 100000 in
theorem wd_446 : (Jvm.Cond.lays "java/lang/IndexOutOfBoundsException" "java/lang/Throwable" "detailMessage" "Ljava/lang/String;") ∈ lw_tbl := List.mem_of_getElem? (i := 470) rfl
set_option maxRecDepth 100000 in
theorem wd_447 : (Jvm.Cond.lays "java/lang/Throwable" "java/lang/Throwable" "detailMessage" "Ljava/lang/String;") ∈ lw_tbl := List.mem_of_getElem? (i := 471) rfl
set_option maxRecDepth 100000 in
theorem wd_448 : (Jvm.Cond.lays "java/lang/IndexOutOfBoundsException" "java/lang/Throwable" "backtrace" "Ljava/lang/Object;") ∈ lw_tbl := List.mem_of_getElem? (i := 472) rfl
set_option maxRecDepth 100000 in
theorem wd_449 : (Jvm.Cond.lays "java/lang/Throwable" "java/lang/Throwable" "backtrace" "Ljava/lang/Object;") ∈ lw_tbl := List.mem_of_getElem? (i := 473) rfl
set_option maxRecDepth 100000 in
theorem wd_450 : (Jvm.Cond.fieldLink "java/lang/Throwable" (198 : Nat) "java/lang/Throwable" "backtrace" "Ljava/lang/Object;") ∈ lw_tbl := List.mem_of_getElem? (i := 474) rfl
set_option maxRecDepth 100000 in
theorem wd_451 : (Jvm.Cond.superclass "java/lang/Throwable" "java/lang/Object") ∈ lw_tbl := List.mem_of_getElem? (i := 475) rfl
set_option maxRecDepth 100000 in
theorem wd_452 : (Jvm.Cond.instanceMethod ({ cls := "java/lang/Throwable", name := "<init>", desc := "()V" } : Jvm.MethodName)) ∈ lw_tbl := List.mem_of_getElem? (i := 476) rfl
set_option maxRecDepth 100000 in
theorem wd_453 : (Jvm.Cond.code ({ cls := "java/lang/Throwable", name := "<init>", desc := "()V" } : Jvm.MethodName) prog_16_method_1_code (1 : Nat) (Option.none : Option Jvm.ClassFile.FieldType)) ∈ lw_tbl := List.mem_of_getElem? (i := 477) rfl
set_option maxRecDepth 100000 in
theorem wd_454 : (Jvm.Cond.methodLink "java/lang/Throwable" (1 : Nat) ({ cls := "java/lang/Object", name := "<init>", desc := "()V" } : Jvm.MethodName)) ∈ lw_tbl := List.mem_of_getElem? (i := 478) rfl
set_option maxRecDepth 100000 in
theorem wd_455 : (Jvm.Cond.fieldLink "java/lang/Throwable" (13 : Nat) "java/lang/Throwable" "UNASSIGNED_STACK" "[Ljava/lang/StackTraceElement;") ∈ lw_tbl := List.mem_of_getElem? (i := 479) rfl
set_option maxRecDepth 100000 in
theorem wd_456 : (Jvm.Cond.laysStatic "java/lang/Throwable" "UNASSIGNED_STACK" "[Ljava/lang/StackTraceElement;") ∈ lw_tbl := List.mem_of_getElem? (i := 480) rfl
set_option maxRecDepth 100000 in
theorem wd_457 : (Jvm.Cond.fieldLink "java/lang/Throwable" (20 : Nat) "java/lang/Throwable" "SUPPRESSED_SENTINEL" "Ljava/util/List;") ∈ lw_tbl := List.mem_of_getElem? (i := 481) rfl
set_option maxRecDepth 100000 in
theorem wd_458 : (Jvm.Cond.laysStatic "java/lang/Throwable" "SUPPRESSED_SENTINEL" "Ljava/util/List;") ∈ lw_tbl := List.mem_of_getElem? (i := 482) rfl
set_option maxRecDepth 100000 in
theorem wd_459 : (Jvm.Cond.methodLink "java/lang/Throwable" (27 : Nat) ({ cls := "java/lang/Throwable", name := "fillInStackTrace", desc := "()Ljava/lang/Throwable;" } : Jvm.MethodName)) ∈ lw_tbl := List.mem_of_getElem? (i := 483) rfl
set_option maxRecDepth 100000 in
theorem wd_460 : (Jvm.Cond.instanceMethod ({ cls := "java/lang/Throwable", name := "fillInStackTrace", desc := "()Ljava/lang/Throwable;" } : Jvm.MethodName)) ∈ lw_tbl := List.mem_of_getElem? (i := 484) rfl
set_option maxRecDepth 100000 in
theorem wd_461 : (Jvm.Cond.sameMethod "java/lang/Throwable" "java/lang/Throwable" "fillInStackTrace" "()Ljava/lang/Throwable;") ∈ lw_tbl := List.mem_of_getElem? (i := 485) rfl
set_option maxRecDepth 100000 in
theorem wd_462 : (Jvm.Cond.selects "java/lang/IllegalArgumentException" ({ cls := "java/lang/Throwable", name := "fillInStackTrace", desc := "()Ljava/lang/Throwable;" } : Jvm.MethodName) ({ cls := "java/lang/Throwable", name := "fillInStackTrace", desc := "()Ljava/lang/Throwable;" } : Jvm.MethodName)) ∈ lw_tbl := List.mem_of_getElem? (i := 486) rfl
set_option maxRecDepth 100000 in
theorem wd_463 : (Jvm.Cond.codeSync ({ cls := "java/lang/Throwable", name := "fillInStackTrace", desc := "()Ljava/lang/Throwable;" } : Jvm.MethodName) prog_16_method_18_code (1 : Nat) (Option.some (Jvm.ClassFile.FieldType.object "java/lang/Throwable"))) ∈ lw_tbl := List.mem_of_getElem? (i := 487) rfl
set_option maxRecDepth 100000 in
theorem wd_464 : (Jvm.Cond.methodLink "java/lang/Throwable" (202 : Nat) ({ cls := "java/lang/Throwable", name := "fillInStackTrace", desc := "(I)Ljava/lang/Throwable;" } : Jvm.MethodName)) ∈ lw_tbl := List.mem_of_getElem? (i := 488) rfl
set_option maxRecDepth 100000 in
theorem wd_465 : (Jvm.Cond.privateMethod ({ cls := "java/lang/Throwable", name := "fillInStackTrace", desc := "(I)Ljava/lang/Throwable;" } : Jvm.MethodName)) ∈ lw_tbl := List.mem_of_getElem? (i := 489) rfl
set_option maxRecDepth 100000 in
theorem wd_466 : (Jvm.Cond.instanceMethod ({ cls := "java/lang/Throwable", name := "fillInStackTrace", desc := "(I)Ljava/lang/Throwable;" } : Jvm.MethodName)) ∈ lw_tbl := List.mem_of_getElem? (i := 490) rfl
set_option maxRecDepth 100000 in
theorem wd_467 : (Jvm.Cond.instantiable "java/lang/Throwable" (6 : Nat)) ∈ lw_tbl := List.mem_of_getElem? (i := 491) rfl
set_option maxRecDepth 100000 in
theorem wd_468 : (Jvm.Cond.native ({ cls := "java/lang/Throwable", name := "fillInStackTrace", desc := "(I)Ljava/lang/Throwable;" } : Jvm.MethodName)) ∈ lw_tbl := List.mem_of_getElem? (i := 492) rfl
set_option maxRecDepth 100000 in
theorem wd_469 : (Jvm.Cond.stringRef "ExpenseClubs" (158 : Nat) "no such club, settlement or transfer") ∈ lw_tbl := List.mem_of_getElem? (i := 493) rfl
set_option maxRecDepth 100000 in
theorem wd_470 : (Jvm.Cond.methodLink "ExpenseClubs" (160 : Nat) ({ cls := "java/lang/IndexOutOfBoundsException", name := "<init>", desc := "(Ljava/lang/String;)V" } : Jvm.MethodName)) ∈ lw_tbl := List.mem_of_getElem? (i := 494) rfl
set_option maxRecDepth 100000 in
theorem wd_471 : (Jvm.Cond.instanceMethod ({ cls := "java/lang/IndexOutOfBoundsException", name := "<init>", desc := "(Ljava/lang/String;)V" } : Jvm.MethodName)) ∈ lw_tbl := List.mem_of_getElem? (i := 495) rfl
set_option maxRecDepth 100000 in
theorem wd_472 : (Jvm.Cond.code ({ cls := "java/lang/IndexOutOfBoundsException", name := "<init>", desc := "(Ljava/lang/String;)V" } : Jvm.MethodName) prog_11_method_2_code (2 : Nat) (Option.none : Option Jvm.ClassFile.FieldType)) ∈ lw_tbl := List.mem_of_getElem? (i := 496) rfl
set_option maxRecDepth 100000 in
theorem wd_473 : (Jvm.Cond.methodLink "java/lang/IndexOutOfBoundsException" (7 : Nat) ({ cls := "java/lang/RuntimeException", name := "<init>", desc := "(Ljava/lang/String;)V" } : Jvm.MethodName)) ∈ lw_tbl := List.mem_of_getElem? (i := 497) rfl
set_option maxRecDepth 100000 in
theorem wd_474 : (Jvm.Cond.instanceMethod ({ cls := "java/lang/RuntimeException", name := "<init>", desc := "(Ljava/lang/String;)V" } : Jvm.MethodName)) ∈ lw_tbl := List.mem_of_getElem? (i := 498) rfl
set_option maxRecDepth 100000 in
theorem wd_475 : (Jvm.Cond.code ({ cls := "java/lang/RuntimeException", name := "<init>", desc := "(Ljava/lang/String;)V" } : Jvm.MethodName) prog_14_method_2_code (2 : Nat) (Option.none : Option Jvm.ClassFile.FieldType)) ∈ lw_tbl := List.mem_of_getElem? (i := 499) rfl
set_option maxRecDepth 100000 in
theorem wd_476 : (Jvm.Cond.methodLink "java/lang/RuntimeException" (7 : Nat) ({ cls := "java/lang/Exception", name := "<init>", desc := "(Ljava/lang/String;)V" } : Jvm.MethodName)) ∈ lw_tbl := List.mem_of_getElem? (i := 500) rfl
set_option maxRecDepth 100000 in
theorem wd_477 : (Jvm.Cond.instanceMethod ({ cls := "java/lang/Exception", name := "<init>", desc := "(Ljava/lang/String;)V" } : Jvm.MethodName)) ∈ lw_tbl := List.mem_of_getElem? (i := 501) rfl
set_option maxRecDepth 100000 in
theorem wd_478 : (Jvm.Cond.code ({ cls := "java/lang/Exception", name := "<init>", desc := "(Ljava/lang/String;)V" } : Jvm.MethodName) prog_9_method_2_code (2 : Nat) (Option.none : Option Jvm.ClassFile.FieldType)) ∈ lw_tbl := List.mem_of_getElem? (i := 502) rfl
set_option maxRecDepth 100000 in
theorem wd_479 : (Jvm.Cond.methodLink "java/lang/Exception" (7 : Nat) ({ cls := "java/lang/Throwable", name := "<init>", desc := "(Ljava/lang/String;)V" } : Jvm.MethodName)) ∈ lw_tbl := List.mem_of_getElem? (i := 503) rfl
set_option maxRecDepth 100000 in
theorem wd_480 : (Jvm.Cond.instanceMethod ({ cls := "java/lang/Throwable", name := "<init>", desc := "(Ljava/lang/String;)V" } : Jvm.MethodName)) ∈ lw_tbl := List.mem_of_getElem? (i := 504) rfl
set_option maxRecDepth 100000 in
theorem wd_481 : (Jvm.Cond.code ({ cls := "java/lang/Throwable", name := "<init>", desc := "(Ljava/lang/String;)V" } : Jvm.MethodName) prog_16_method_2_code (2 : Nat) (Option.none : Option Jvm.ClassFile.FieldType)) ∈ lw_tbl := List.mem_of_getElem? (i := 505) rfl
set_option maxRecDepth 100000 in
theorem wd_482 : (Jvm.Cond.fieldLink "java/lang/Throwable" (198 : Nat) "java/lang/Throwable" "backtrace" "Ljava/lang/Object;") ∈ lw_tbl := List.mem_of_getElem? (i := 506) rfl
set_option maxRecDepth 100000 in
theorem wd_483 : (Jvm.Cond.fieldLink "java/lang/Throwable" (31 : Nat) "java/lang/Throwable" "detailMessage" "Ljava/lang/String;") ∈ lw_tbl := List.mem_of_getElem? (i := 507) rfl
set_option maxRecDepth 100000 in
theorem wd_484 : (Jvm.Cond.fieldLink "java/lang/Throwable" (7 : Nat) "java/lang/Throwable" "cause" "Ljava/lang/Throwable;") ∈ lw_tbl := List.mem_of_getElem? (i := 508) rfl
set_option maxRecDepth 100000 in
theorem wd_485 : (Jvm.Cond.fieldLink "java/lang/Throwable" (17 : Nat) "java/lang/Throwable" "stackTrace" "[Ljava/lang/StackTraceElement;") ∈ lw_tbl := List.mem_of_getElem? (i := 509) rfl
set_option maxRecDepth 100000 in
theorem wd_486 : (Jvm.Cond.fieldLink "java/lang/Throwable" (24 : Nat) "java/lang/Throwable" "suppressedExceptions" "Ljava/util/List;") ∈ lw_tbl := List.mem_of_getElem? (i := 510) rfl
set_option maxRecDepth 100000 in
theorem wd_487 : (Jvm.Cond.soleField "java/lang/Throwable" "backtrace") ∈ lw_tbl := List.mem_of_getElem? (i := 511) rfl
set_option maxRecDepth 100000 in
theorem wd_488 : (Jvm.Cond.soleField "java/lang/Throwable" "detailMessage") ∈ lw_tbl := List.mem_of_getElem? (i := 512) rfl
set_option maxRecDepth 100000 in
theorem wd_489 : (Jvm.Cond.soleField "java/lang/Throwable" "cause") ∈ lw_tbl := List.mem_of_getElem? (i := 513) rfl
set_option maxRecDepth 100000 in
theorem wd_490 : (Jvm.Cond.soleField "java/lang/Throwable" "stackTrace") ∈ lw_tbl := List.mem_of_getElem? (i := 514) rfl
set_option maxRecDepth 100000 in
theorem wd_491 : (Jvm.Cond.lays "java/lang/IndexOutOfBoundsException" "java/lang/Throwable" "depth" "I") ∈ lw_tbl := List.mem_of_getElem? (i := 515) rfl
set_option maxRecDepth 100000 in
theorem wd_492 : (Jvm.Cond.soleField "java/lang/Throwable" "depth") ∈ lw_tbl := List.mem_of_getElem? (i := 516) rfl
set_option maxRecDepth 100000 in
theorem wd_493 : (Jvm.Cond.soleField "java/lang/Throwable" "suppressedExceptions") ∈ lw_tbl := List.mem_of_getElem? (i := 517) rfl
set_option maxRecDepth 100000 in
theorem wd_494 : (Jvm.Cond.superclass "java/lang/IndexOutOfBoundsException" "java/lang/RuntimeException") ∈ lw_tbl := List.mem_of_getElem? (i := 518) rfl
set_option maxRecDepth 100000 in
theorem wd_495 : (Jvm.Cond.arrayClass Jvm.ClassFile.FieldType.byte) ∈ lw_tbl := List.mem_of_getElem? (i := 519) rfl
set_option maxRecDepth 100000 in
theorem wd_496 : (Jvm.Cond.classLink "ExpenseClubs" (177 : Nat) "java/lang/IllegalArgumentException") ∈ lw_tbl := List.mem_of_getElem? (i := 520) rfl
set_option maxRecDepth 100000 in
theorem wd_497 : (Jvm.Cond.instantiable "java/lang/IllegalArgumentException" (6 : Nat)) ∈ lw_tbl := List.mem_of_getElem? (i := 521) rfl
set_option maxRecDepth 100000 in
theorem wd_498 : (Jvm.Cond.castable "java/lang/IllegalArgumentException" "java/lang/IllegalArgumentException") ∈ lw_tbl := List.mem_of_getElem? (i := 522) rfl
set_option maxRecDepth 100000 in
theorem wd_499 : (Jvm.Cond.selects "java/lang/IllegalArgumentException" ({ cls := "java/lang/Throwable", name := "fillInStackTrace", desc := "(I)Ljava/lang/Throwable;" } : Jvm.MethodName) ({ cls := "java/lang/Throwable", name := "fillInStackTrace", desc := "(I)Ljava/lang/Throwable;" } : Jvm.MethodName)) ∈ lw_tbl := List.mem_of_getElem? (i := 523) rfl
set_option maxRecDepth 100000 in
theorem wd_500 : (Jvm.Cond.lays "java/lang/IllegalArgumentException" "java/lang/Throwable" "cause" "Ljava/lang/Throwable;") ∈ lw_tbl := List.mem_of_getElem? (i := 524) rfl
set_option maxRecDepth 100000 in
theorem wd_501 : (Jvm.Cond.lays "java/lang/IllegalArgumentException" "java/lang/Throwable" "stackTrace" "[Ljava/lang/StackTraceElement;") ∈ lw_tbl := List.mem_of_getElem? (i := 525) rfl
set_option maxRecDepth 100000 in
theorem wd_502 : (Jvm.Cond.lays "java/lang/IllegalArgumentException" "java/lang/Throwable" "suppressedExceptions" "Ljava/util/List;") ∈ lw_tbl := List.mem_of_getElem? (i := 526) rfl
set_option maxRecDepth 100000 in
theorem wd_503 : (Jvm.Cond.lays "java/lang/IllegalArgumentException" "java/lang/Throwable" "detailMessage" "Ljava/lang/String;") ∈ lw_tbl := List.mem_of_getElem? (i := 527) rfl
set_option maxRecDepth 100000 in
theorem wd_504 : (Jvm.Cond.lays "java/lang/IllegalArgumentException" "java/lang/Throwable" "backtrace" "Ljava/lang/Object;") ∈ lw_tbl := List.mem_of_getElem? (i := 528) rfl
set_option maxRecDepth 100000 in
theorem wd_505 : (Jvm.Cond.stringRef "ExpenseClubs" (179 : Nat) "what is not 0 .. 3") ∈ lw_tbl := List.mem_of_getElem? (i := 529) rfl
set_option maxRecDepth 100000 in
theorem wd_506 : (Jvm.Cond.methodLink "ExpenseClubs" (181 : Nat) ({ cls := "java/lang/IllegalArgumentException", name := "<init>", desc := "(Ljava/lang/String;)V" } : Jvm.MethodName)) ∈ lw_tbl := List.mem_of_getElem? (i := 530) rfl
set_option maxRecDepth 100000 in
theorem wd_507 : (Jvm.Cond.instanceMethod ({ cls := "java/lang/IllegalArgumentException", name := "<init>", desc := "(Ljava/lang/String;)V" } : Jvm.MethodName)) ∈ lw_tbl := List.mem_of_getElem? (i := 531) rfl
set_option maxRecDepth 100000 in
theorem wd_508 : (Jvm.Cond.code ({ cls := "java/lang/IllegalArgumentException", name := "<init>", desc := "(Ljava/lang/String;)V" } : Jvm.MethodName) prog_10_method_2_code (2 : Nat) (Option.none : Option Jvm.ClassFile.FieldType)) ∈ lw_tbl := List.mem_of_getElem? (i := 532) rfl
set_option maxRecDepth 100000 in
theorem wd_509 : (Jvm.Cond.methodLink "java/lang/IllegalArgumentException" (7 : Nat) ({ cls := "java/lang/RuntimeException", name := "<init>", desc := "(Ljava/lang/String;)V" } : Jvm.MethodName)) ∈ lw_tbl := List.mem_of_getElem? (i := 533) rfl
set_option maxRecDepth 100000 in
theorem wd_510 : (Jvm.Cond.lays "java/lang/IllegalArgumentException" "java/lang/Throwable" "depth" "I") ∈ lw_tbl := List.mem_of_getElem? (i := 534) rfl
set_option maxRecDepth 100000 in
theorem wd_511 : (Jvm.Cond.superclass "java/lang/IllegalArgumentException" "java/lang/RuntimeException") ∈ lw_tbl := List.mem_of_getElem? (i := 535) rfl
set_option maxRecDepth 100000 in
theorem wd_512 : (Jvm.Cond.classLink "ExpenseClubsLaw" (18 : Nat) "ExpenseClubsModel") ∈ lw_tbl := List.mem_of_getElem? (i := 536) rfl
set_option maxRecDepth 100000 in
theorem wd_513 : (Jvm.Cond.instantiable "ExpenseClubsModel" (33 : Nat)) ∈ lw_tbl := List.mem_of_getElem? (i := 537) rfl
set_option maxRecDepth 100000 in
theorem wd_514 : (Jvm.Cond.methodLink "ExpenseClubsLaw" (20 : Nat) ({ cls := "ExpenseClubsModel", name := "<init>", desc := "()V" } : Jvm.MethodName)) ∈ lw_tbl := List.mem_of_getElem? (i := 538) rfl
set_option maxRecDepth 100000 in
theorem wd_515 : (Jvm.Cond.instanceMethod ({ cls := "ExpenseClubsModel", name := "<init>", desc := "()V" } : Jvm.MethodName)) ∈ lw_tbl := List.mem_of_getElem? (i := 539) rfl
set_option maxRecDepth 100000 in
theorem wd_516 : (Jvm.Cond.code ({ cls := "ExpenseClubsModel", name := "<init>", desc := "()V" } : Jvm.MethodName) prog_8_method_1_code (1 : Nat) (Option.none : Option Jvm.ClassFile.FieldType)) ∈ lw_tbl := List.mem_of_getElem? (i := 540) rfl
set_option maxRecDepth 100000 in
theorem wd_517 : (Jvm.Cond.methodLink "ExpenseClubsModel" (1 : Nat) ({ cls := "java/lang/Object", name := "<init>", desc := "()V" } : Jvm.MethodName)) ∈ lw_tbl := List.mem_of_getElem? (i := 541) rfl
set_option maxRecDepth 100000 in
theorem wd_518 : (Jvm.Cond.fieldLink "ExpenseClubsModel" (91 : Nat) "ExpenseClubsModel" "thrown" "I") ∈ lw_tbl := List.mem_of_getElem? (i := 542) rfl
set_option maxRecDepth 100000 in
theorem wd_519 : (Jvm.Cond.fieldLink "ExpenseClubsModel" (94 : Nat) "ExpenseClubsModel" "clubs" "I") ∈ lw_tbl := List.mem_of_getElem? (i := 543) rfl
set_option maxRecDepth 100000 in
theorem wd_520 : (Jvm.Cond.fieldLink "ExpenseClubsModel" (7 : Nat) "ExpenseClubsModel" "members" "[I") ∈ lw_tbl := List.mem_of_getElem? (i := 544) rfl
set_option maxRecDepth 100000 in
theorem wd_521 : (Jvm.Cond.fieldLink "ExpenseClubsModel" (13 : Nat) "ExpenseClubsModel" "marks" "[I") ∈ lw_tbl := List.mem_of_getElem? (i := 545) rfl
set_option maxRecDepth 100000 in
theorem wd_522 : (Jvm.Cond.fieldLink "ExpenseClubsModel" (16 : Nat) "ExpenseClubsModel" "left" "[Z") ∈ lw_tbl := List.mem_of_getElem? (i := 546) rfl
set_option maxRecDepth 100000 in
theorem wd_523 : (Jvm.Cond.fieldLink "ExpenseClubsModel" (20 : Nat) "ExpenseClubsModel" "draft" "I") ∈ lw_tbl := List.mem_of_getElem? (i := 547) rfl
set_option maxRecDepth 100000 in
theorem wd_524 : (Jvm.Cond.fieldLink "ExpenseClubsModel" (117 : Nat) "ExpenseClubsModel" "way" "I") ∈ lw_tbl := List.mem_of_getElem? (i := 548) rfl
set_option maxRecDepth 100000 in
theorem wd_525 : (Jvm.Cond.fieldLink "ExpenseClubsModel" (120 : Nat) "ExpenseClubsModel" "cents" "I") ∈ lw_tbl := List.mem_of_getElem? (i := 549) rfl
set_option maxRecDepth 100000 in
theorem wd_526 : (Jvm.Cond.fieldLink "ExpenseClubsModel" (123 : Nat) "ExpenseClubsModel" "rate" "I") ∈ lw_tbl := List.mem_of_getElem? (i := 550) rfl
set_option maxRecDepth 100000 in
theorem wd_527 : (Jvm.Cond.fieldLink "ExpenseClubsModel" (24 : Nat) "ExpenseClubsModel" "pays" "[I") ∈ lw_tbl := List.mem_of_getElem? (i := 551) rfl
set_option maxRecDepth 100000 in
theorem wd_528 : (Jvm.Cond.fieldLink "ExpenseClubsModel" (27 : Nat) "ExpenseClubsModel" "weights" "[I") ∈ lw_tbl := List.mem_of_getElem? (i := 552) rfl
set_option maxRecDepth 100000 in
theorem wd_529 : (Jvm.Cond.fieldLink "ExpenseClubsModel" (126 : Nat) "ExpenseClubsModel" "lines" "I") ∈ lw_tbl := List.mem_of_getElem? (i := 553) rfl
set_option maxRecDepth 100000 in
theorem wd_530 : (Jvm.Cond.fieldLink "ExpenseClubsModel" (30 : Nat) "ExpenseClubsModel" "lineCents" "[I") ∈ lw_tbl := List.mem_of_getElem? (i := 554) rfl
set_option maxRecDepth 100000 in
theorem wd_531 : (Jvm.Cond.fieldLink "ExpenseClubsModel" (33 : Nat) "ExpenseClubsModel" "lineSets" "[I") ∈ lw_tbl := List.mem_of_getElem? (i := 555) rfl
set_option maxRecDepth 100000 in
theorem wd_532 : (Jvm.Cond.fieldLink "ExpenseClubsModel" (36 : Nat) "ExpenseClubsModel" "heavy" "[J") ∈ lw_tbl := List.mem_of_getElem? (i := 556) rfl
set_option maxRecDepth 100000 in
theorem wd_533 : (Jvm.Cond.fieldLink "ExpenseClubsModel" (138 : Nat) "ExpenseClubsModel" "bills" "I") ∈ lw_tbl := List.mem_of_getElem? (i := 557) rfl
set_option maxRecDepth 100000 in
theorem wd_534 : (Jvm.Cond.fieldLink "ExpenseClubsModel" (40 : Nat) "ExpenseClubsModel" "clubOf" "[I") ∈ lw_tbl := List.mem_of_getElem? (i := 558) rfl
set_option maxRecDepth 100000 in
theorem wd_535 : (Jvm.Cond.fieldLink "ExpenseClubsModel" (43 : Nat) "ExpenseClubsModel" "totals" "[J") ∈ lw_tbl := List.mem_of_getElem? (i := 559) rfl
set_option maxRecDepth 100000 in
theorem wd_536 : (Jvm.Cond.fieldLink "ExpenseClubsModel" (46 : Nat) "ExpenseClubsModel" "struck" "[Z") ∈ lw_tbl := List.mem_of_getElem? (i := 560) rfl
set_option maxRecDepth 100000 in
theorem wd_537 : (Jvm.Cond.fieldLink "ExpenseClubsModel" (49 : Nat) "ExpenseClubsModel" "shares" "[J") ∈ lw_tbl := List.mem_of_getElem? (i := 561) rfl
set_option maxRecDepth 100000 in
theorem wd_538 : (Jvm.Cond.fieldLink "ExpenseClubsModel" (52 : Nat) "ExpenseClubsModel" "paid" "[J") ∈ lw_tbl := List.mem_of_getElem? (i := 562) rfl
set_option maxRecDepth 100000 in
theorem wd_539 : (Jvm.Cond.fieldLink "ExpenseClubsModel" (55 : Nat) "ExpenseClubsModel" "drifts" "[J") ∈ lw_tbl := List.mem_of_getElem? (i := 563) rfl
set_option maxRecDepth 100000 in
theorem wd_540 : (Jvm.Cond.fieldLink "ExpenseClubsModel" (58 : Nat) "ExpenseClubsModel" "sent" "[J") ∈ lw_tbl := List.mem_of_getElem? (i := 564) rfl
set_option maxRecDepth 100000 in
theorem wd_541 : (Jvm.Cond.fieldLink "ExpenseClubsModel" (61 : Nat) "ExpenseClubsModel" "open" "[Z") ∈ lw_tbl := List.mem_of_getElem? (i := 565) rfl
set_option maxRecDepth 100000 in
theorem wd_542 : (Jvm.Cond.fieldLink "ExpenseClubsModel" (64 : Nat) "ExpenseClubsModel" "groups" "[I") ∈ lw_tbl := List.mem_of_getElem? (i := 566) rfl
set_option maxRecDepth 100000 in
theorem wd_543 : (Jvm.Cond.fieldLink "ExpenseClubsModel" (67 : Nat) "ExpenseClubsModel" "group" "[I") ∈ lw_tbl := List.mem_of_getElem? (i := 567) rfl
set_option maxRecDepth 100000 in
theorem wd_544 : (Jvm.Cond.fieldLink "ExpenseClubsModel" (70 : Nat) "ExpenseClubsModel" "many" "[I") ∈ lw_tbl := List.mem_of_getElem? (i := 568) rfl
set_option maxRecDepth 100000 in
theorem wd_545 : (Jvm.Cond.fieldLink "ExpenseClubsModel" (73 : Nat) "ExpenseClubsModel" "sends" "[I") ∈ lw_tbl := List.mem_of_getElem? (i := 569) rfl
set_option maxRecDepth 100000 in
theorem wd_546 : (Jvm.Cond.fieldLink "ExpenseClubsModel" (76 : Nat) "ExpenseClubsModel" "gets" "[I") ∈ lw_tbl := List.mem_of_getElem? (i := 570) rfl
set_option maxRecDepth 100000 in
theorem wd_547 : (Jvm.Cond.fieldLink "ExpenseClubsModel" (79 : Nat) "ExpenseClubsModel" "sums" "[J") ∈ lw_tbl := List.mem_of_getElem? (i := 571) rfl
set_option maxRecDepth 100000 in
theorem wd_548 : (Jvm.Cond.fieldLink "ExpenseClubsModel" (82 : Nat) "ExpenseClubsModel" "ticked" "[Z") ∈ lw_tbl := List.mem_of_getElem? (i := 572) rfl
set_option maxRecDepth 100000 in
theorem wd_549 : (Jvm.Cond.fieldLink "ExpenseClubsModel" (85 : Nat) "ExpenseClubsModel" "weigh" "[J") ∈ lw_tbl := List.mem_of_getElem? (i := 573) rfl
set_option maxRecDepth 100000 in
theorem wd_550 : (Jvm.Cond.fieldLink "ExpenseClubsModel" (88 : Nat) "ExpenseClubsModel" "most" "[I") ∈ lw_tbl := List.mem_of_getElem? (i := 574) rfl
set_option maxRecDepth 100000 in
theorem wd_551 : (Jvm.Cond.lays "ExpenseClubsModel" "ExpenseClubsModel" "thrown" "I") ∈ lw_tbl := List.mem_of_getElem? (i := 575) rfl
set_option maxRecDepth 100000 in
theorem wd_552 : (Jvm.Cond.soleField "ExpenseClubsModel" "thrown") ∈ lw_tbl := List.mem_of_getElem? (i := 576) rfl
set_option maxRecDepth 100000 in
theorem wd_553 : (Jvm.Cond.lays "ExpenseClubsModel" "ExpenseClubsModel" "clubs" "I") ∈ lw_tbl := List.mem_of_getElem? (i := 577) rfl
set_option maxRecDepth 100000 in
theorem wd_554 : (Jvm.Cond.soleField "ExpenseClubsModel" "clubs") ∈ lw_tbl := List.mem_of_getElem? (i := 578) rfl
set_option maxRecDepth 100000 in
theorem wd_555 : (Jvm.Cond.laysFinal "ExpenseClubsModel" "ExpenseClubsModel" "members" "[I") ∈ lw_tbl := List.mem_of_getElem? (i := 579) rfl
set_option maxRecDepth 100000 in
theorem wd_556 : (Jvm.Cond.soleField "ExpenseClubsModel" "members") ∈ lw_tbl := List.mem_of_getElem? (i := 580) rfl
set_option maxRecDepth 100000 in
theorem wd_557 : (Jvm.Cond.laysFinal "ExpenseClubsModel" "ExpenseClubsModel" "marks" "[I") ∈ lw_tbl := List.mem_of_getElem? (i := 581) rfl
set_option maxRecDepth 100000 in
theorem wd_558 : (Jvm.Cond.soleField "ExpenseClubsModel" "marks") ∈ lw_tbl := List.mem_of_getElem? (i := 582) rfl
set_option maxRecDepth 100000 in
theorem wd_559 : (Jvm.Cond.laysFinal "ExpenseClubsModel" "ExpenseClubsModel" "left" "[Z") ∈ lw_tbl := List.mem_of_getElem? (i := 583) rfl
set_option maxRecDepth 100000 in
theorem wd_560 : (Jvm.Cond.soleField "ExpenseClubsModel" "left") ∈ lw_tbl := List.mem_of_getElem? (i := 584) rfl
set_option maxRecDepth 100000 in
theorem wd_561 : (Jvm.Cond.lays "ExpenseClubsModel" "ExpenseClubsModel" "draft" "I") ∈ lw_tbl := List.mem_of_getElem? (i := 585) rfl
set_option maxRecDepth 100000 in
theorem wd_562 : (Jvm.Cond.soleField "ExpenseClubsModel" "draft") ∈ lw_tbl := List.mem_of_getElem? (i := 586) rfl
set_option maxRecDepth 100000 in
theorem wd_563 : (Jvm.Cond.lays "ExpenseClubsModel" "ExpenseClubsModel" "way" "I") ∈ lw_tbl := List.mem_of_getElem? (i := 587) rfl
set_option maxRecDepth 100000 in
theorem wd_564 : (Jvm.Cond.soleField "ExpenseClubsModel" "way") ∈ lw_tbl := List.mem_of_getElem? (i := 588) rfl
set_option maxRecDepth 100000 in
theorem wd_565 : (Jvm.Cond.lays "ExpenseClubsModel" "ExpenseClubsModel" "cents" "I") ∈ lw_tbl := List.mem_of_getElem? (i := 589) rfl
set_option maxRecDepth 100000 in
theorem wd_566 : (Jvm.Cond.soleField "ExpenseClubsModel" "cents") ∈ lw_tbl := List.mem_of_getElem? (i := 590) rfl
set_option maxRecDepth 100000 in
theorem wd_567 : (Jvm.Cond.lays "ExpenseClubsModel" "ExpenseClubsModel" "rate" "I") ∈ lw_tbl := List.mem_of_getElem? (i := 591) rfl
set_option maxRecDepth 100000 in
theorem wd_568 : (Jvm.Cond.soleField "ExpenseClubsModel" "rate") ∈ lw_tbl := List.mem_of_getElem? (i := 592) rfl
set_option maxRecDepth 100000 in
theorem wd_569 : (Jvm.Cond.laysFinal "ExpenseClubsModel" "ExpenseClubsModel" "pays" "[I") ∈ lw_tbl := List.mem_of_getElem? (i := 593) rfl
set_option maxRecDepth 100000 in
theorem wd_570 : (Jvm.Cond.soleField "ExpenseClubsModel" "pays") ∈ lw_tbl := List.mem_of_getElem? (i := 594) rfl
set_option maxRecDepth 100000 in
theorem wd_571 : (Jvm.Cond.laysFinal "ExpenseClubsModel" "ExpenseClubsModel" "weights" "[I") ∈ lw_tbl := List.mem_of_getElem? (i := 595) rfl
set_option maxRecDepth 100000 in
theorem wd_572 : (Jvm.Cond.soleField "ExpenseClubsModel" "weights") ∈ lw_tbl := List.mem_of_getElem? (i := 596) rfl
set_option maxRecDepth 100000 in
theorem wd_573 : (Jvm.Cond.lays "ExpenseClubsModel" "ExpenseClubsModel" "lines" "I") ∈ lw_tbl := List.mem_of_getElem? (i := 597) rfl
set_option maxRecDepth 100000 in
theorem wd_574 : (Jvm.Cond.soleField "ExpenseClubsModel" "lines") ∈ lw_tbl := List.mem_of_getElem? (i := 598) rfl
set_option maxRecDepth 100000 in
theorem wd_575 : (Jvm.Cond.laysFinal "ExpenseClubsModel" "ExpenseClubsModel" "lineCents" "[I") ∈ lw_tbl := List.mem_of_getElem? (i := 599) rfl
set_option maxRecDepth 100000 in
theorem wd_576 : (Jvm.Cond.soleField "ExpenseClubsModel" "lineCents") ∈ lw_tbl := List.mem_of_getElem? (i := 600) rfl
set_option maxRecDepth 100000 in
theorem wd_577 : (Jvm.Cond.laysFinal "ExpenseClubsModel" "ExpenseClubsModel" "lineSets" "[I") ∈ lw_tbl := List.mem_of_getElem? (i := 601) rfl
set_option maxRecDepth 100000 in
theorem wd_578 : (Jvm.Cond.soleField "ExpenseClubsModel" "lineSets") ∈ lw_tbl := List.mem_of_getElem? (i := 602) rfl
set_option maxRecDepth 100000 in
theorem wd_579 : (Jvm.Cond.laysFinal "ExpenseClubsModel" "ExpenseClubsModel" "heavy" "[J") ∈ lw_tbl := List.mem_of_getElem? (i := 603) rfl
set_option maxRecDepth 100000 in
theorem wd_580 : (Jvm.Cond.soleField "ExpenseClubsModel" "heavy") ∈ lw_tbl := List.mem_of_getElem? (i := 604) rfl
set_option maxRecDepth 100000 in
theorem wd_581 : (Jvm.Cond.lays "ExpenseClubsModel" "ExpenseClubsModel" "bills" "I") ∈ lw_tbl := List.mem_of_getElem? (i := 605) rfl
set_option maxRecDepth 100000 in
theorem wd_582 : (Jvm.Cond.soleField "ExpenseClubsModel" "bills") ∈ lw_tbl := List.mem_of_getElem? (i := 606) rfl
set_option maxRecDepth 100000 in
theorem wd_583 : (Jvm.Cond.laysFinal "ExpenseClubsModel" "ExpenseClubsModel" "clubOf" "[I") ∈ lw_tbl := List.mem_of_getElem? (i := 607) rfl
set_option maxRecDepth 100000 in
theorem wd_584 : (Jvm.Cond.soleField "ExpenseClubsModel" "clubOf") ∈ lw_tbl := List.mem_of_getElem? (i := 608) rfl
set_option maxRecDepth 100000 in
theorem wd_585 : (Jvm.Cond.laysFinal "ExpenseClubsModel" "ExpenseClubsModel" "totals" "[J") ∈ lw_tbl := List.mem_of_getElem? (i := 609) rfl
set_option maxRecDepth 100000 in
theorem wd_586 : (Jvm.Cond.soleField "ExpenseClubsModel" "totals") ∈ lw_tbl := List.mem_of_getElem? (i := 610) rfl
set_option maxRecDepth 100000 in
theorem wd_587 : (Jvm.Cond.laysFinal "ExpenseClubsModel" "ExpenseClubsModel" "struck" "[Z") ∈ lw_tbl := List.mem_of_getElem? (i := 611) rfl
set_option maxRecDepth 100000 in
theorem wd_588 : (Jvm.Cond.soleField "ExpenseClubsModel" "struck") ∈ lw_tbl := List.mem_of_getElem? (i := 612) rfl
set_option maxRecDepth 100000 in
theorem wd_589 : (Jvm.Cond.laysFinal "ExpenseClubsModel" "ExpenseClubsModel" "shares" "[J") ∈ lw_tbl := List.mem_of_getElem? (i := 613) rfl
set_option maxRecDepth 100000 in
theorem wd_590 : (Jvm.Cond.soleField "ExpenseClubsModel" "shares") ∈ lw_tbl := List.mem_of_getElem? (i := 614) rfl
set_option maxRecDepth 100000 in
theorem wd_591 : (Jvm.Cond.laysFinal "ExpenseClubsModel" "ExpenseClubsModel" "paid" "[J") ∈ lw_tbl := List.mem_of_getElem? (i := 615) rfl
set_option maxRecDepth 100000 in
theorem wd_592 : (Jvm.Cond.soleField "ExpenseClubsModel" "paid") ∈ lw_tbl := List.mem_of_getElem? (i := 616) rfl
set_option maxRecDepth 100000 in
theorem wd_593 : (Jvm.Cond.laysFinal "ExpenseClubsModel" "ExpenseClubsModel" "drifts" "[J") ∈ lw_tbl := List.mem_of_getElem? (i := 617) rfl
set_option maxRecDepth 100000 in
theorem wd_594 : (Jvm.Cond.soleField "ExpenseClubsModel" "drifts") ∈ lw_tbl := List.mem_of_getElem? (i := 618) rfl
set_option maxRecDepth 100000 in
theorem wd_595 : (Jvm.Cond.laysFinal "ExpenseClubsModel" "ExpenseClubsModel" "sent" "[J") ∈ lw_tbl := List.mem_of_getElem? (i := 619) rfl
set_option maxRecDepth 100000 in
theorem wd_596 : (Jvm.Cond.soleField "ExpenseClubsModel" "sent") ∈ lw_tbl := List.mem_of_getElem? (i := 620) rfl
set_option maxRecDepth 100000 in
theorem wd_597 : (Jvm.Cond.laysFinal "ExpenseClubsModel" "ExpenseClubsModel" "open" "[Z") ∈ lw_tbl := List.mem_of_getElem? (i := 621) rfl
set_option maxRecDepth 100000 in
theorem wd_598 : (Jvm.Cond.soleField "ExpenseClubsModel" "open") ∈ lw_tbl := List.mem_of_getElem? (i := 622) rfl
set_option maxRecDepth 100000 in
theorem wd_599 : (Jvm.Cond.laysFinal "ExpenseClubsModel" "ExpenseClubsModel" "groups" "[I") ∈ lw_tbl := List.mem_of_getElem? (i := 623) rfl
set_option maxRecDepth 100000 in
theorem wd_600 : (Jvm.Cond.soleField "ExpenseClubsModel" "groups") ∈ lw_tbl := List.mem_of_getElem? (i := 624) rfl
set_option maxRecDepth 100000 in
theorem wd_601 : (Jvm.Cond.laysFinal "ExpenseClubsModel" "ExpenseClubsModel" "group" "[I") ∈ lw_tbl := List.mem_of_getElem? (i := 625) rfl
set_option maxRecDepth 100000 in
theorem wd_602 : (Jvm.Cond.soleField "ExpenseClubsModel" "group") ∈ lw_tbl := List.mem_of_getElem? (i := 626) rfl
set_option maxRecDepth 100000 in
theorem wd_603 : (Jvm.Cond.laysFinal "ExpenseClubsModel" "ExpenseClubsModel" "many" "[I") ∈ lw_tbl := List.mem_of_getElem? (i := 627) rfl
set_option maxRecDepth 100000 in
theorem wd_604 : (Jvm.Cond.soleField "ExpenseClubsModel" "many") ∈ lw_tbl := List.mem_of_getElem? (i := 628) rfl
set_option maxRecDepth 100000 in
theorem wd_605 : (Jvm.Cond.laysFinal "ExpenseClubsModel" "ExpenseClubsModel" "sends" "[I") ∈ lw_tbl := List.mem_of_getElem? (i := 629) rfl
set_option maxRecDepth 100000 in
theorem wd_606 : (Jvm.Cond.soleField "ExpenseClubsModel" "sends") ∈ lw_tbl := List.mem_of_getElem? (i := 630) rfl
set_option maxRecDepth 100000 in
theorem wd_607 : (Jvm.Cond.laysFinal "ExpenseClubsModel" "ExpenseClubsModel" "gets" "[I") ∈ lw_tbl := List.mem_of_getElem? (i := 631) rfl
set_option maxRecDepth 100000 in
theorem wd_608 : (Jvm.Cond.soleField "ExpenseClubsModel" "gets") ∈ lw_tbl := List.mem_of_getElem? (i := 632) rfl
set_option maxRecDepth 100000 in
theorem wd_609 : (Jvm.Cond.laysFinal "ExpenseClubsModel" "ExpenseClubsModel" "sums" "[J") ∈ lw_tbl := List.mem_of_getElem? (i := 633) rfl
set_option maxRecDepth 100000 in
theorem wd_610 : (Jvm.Cond.soleField "ExpenseClubsModel" "sums") ∈ lw_tbl := List.mem_of_getElem? (i := 634) rfl
set_option maxRecDepth 100000 in
theorem wd_611 : (Jvm.Cond.laysFinal "ExpenseClubsModel" "ExpenseClubsModel" "ticked" "[Z") ∈ lw_tbl := List.mem_of_getElem? (i := 635) rfl
set_option maxRecDepth 100000 in
theorem wd_612 : (Jvm.Cond.soleField "ExpenseClubsModel" "ticked") ∈ lw_tbl := List.mem_of_getElem? (i := 636) rfl
set_option maxRecDepth 100000 in
theorem wd_613 : (Jvm.Cond.laysFinal "ExpenseClubsModel" "ExpenseClubsModel" "weigh" "[J") ∈ lw_tbl := List.mem_of_getElem? (i := 637) rfl
set_option maxRecDepth 100000 in
theorem wd_614 : (Jvm.Cond.soleField "ExpenseClubsModel" "weigh") ∈ lw_tbl := List.mem_of_getElem? (i := 638) rfl
set_option maxRecDepth 100000 in
theorem wd_615 : (Jvm.Cond.laysFinal "ExpenseClubsModel" "ExpenseClubsModel" "most" "[I") ∈ lw_tbl := List.mem_of_getElem? (i := 639) rfl
set_option maxRecDepth 100000 in
theorem wd_616 : (Jvm.Cond.soleField "ExpenseClubsModel" "most") ∈ lw_tbl := List.mem_of_getElem? (i := 640) rfl
set_option maxRecDepth 100000 in
theorem wd_617 : (Jvm.Cond.superclass "ExpenseClubsModel" "java/lang/Object") ∈ lw_tbl := List.mem_of_getElem? (i := 641) rfl
set_option maxRecDepth 100000 in
theorem wd_618 : (Jvm.Cond.methodLink "ExpenseClubsLaw" (90 : Nat) ({ cls := "ExpenseClubsModel", name := "thrown", desc := "()I" } : Jvm.MethodName)) ∈ lw_tbl := List.mem_of_getElem? (i := 642) rfl
set_option maxRecDepth 100000 in
theorem wd_619 : (Jvm.Cond.instanceMethod ({ cls := "ExpenseClubsModel", name := "thrown", desc := "()I" } : Jvm.MethodName)) ∈ lw_tbl := List.mem_of_getElem? (i := 643) rfl
set_option maxRecDepth 100000 in
theorem wd_620 : (Jvm.Cond.selects "ExpenseClubsModel" ({ cls := "ExpenseClubsModel", name := "thrown", desc := "()I" } : Jvm.MethodName) ({ cls := "ExpenseClubsModel", name := "thrown", desc := "()I" } : Jvm.MethodName)) ∈ lw_tbl := List.mem_of_getElem? (i := 644) rfl
set_option maxRecDepth 100000 in
theorem wd_621 : (Jvm.Cond.code ({ cls := "ExpenseClubsModel", name := "thrown", desc := "()I" } : Jvm.MethodName) prog_8_method_2_code (1 : Nat) (Option.some Jvm.ClassFile.FieldType.int)) ∈ lw_tbl := List.mem_of_getElem? (i := 645) rfl
set_option maxRecDepth 100000 in
theorem wd_622 : (Jvm.Cond.methodLink "ExpenseClubsLaw" (25 : Nat) ({ cls := "ExpenseClubsModel", name := "club", desc := "()I" } : Jvm.MethodName)) ∈ lw_tbl := List.mem_of_getElem? (i := 646) rfl
set_option maxRecDepth 100000 in
theorem wd_623 : (Jvm.Cond.instanceMethod ({ cls := "ExpenseClubsModel", name := "club", desc := "()I" } : Jvm.MethodName)) ∈ lw_tbl := List.mem_of_getElem? (i := 647) rfl
set_option maxRecDepth 100000 in
theorem wd_624 : (Jvm.Cond.selects "ExpenseClubsModel" ({ cls := "ExpenseClubsModel", name := "club", desc := "()I" } : Jvm.MethodName) ({ cls := "ExpenseClubsModel", name := "club", desc := "()I" } : Jvm.MethodName)) ∈ lw_tbl := List.mem_of_getElem? (i := 648) rfl
set_option maxRecDepth 100000 in
theorem wd_625 : (Jvm.Cond.code ({ cls := "ExpenseClubsModel", name := "club", desc := "()I" } : Jvm.MethodName) prog_8_method_6_code (1 : Nat) (Option.some Jvm.ClassFile.FieldType.int)) ∈ lw_tbl := List.mem_of_getElem? (i := 649) rfl
set_option maxRecDepth 100000 in
theorem wd_626 : (Jvm.Cond.methodLink "ExpenseClubsLaw" (30 : Nat) ({ cls := "ExpenseClubsModel", name := "member", desc := "(I)I" } : Jvm.MethodName)) ∈ lw_tbl := List.mem_of_getElem? (i := 650) rfl
set_option maxRecDepth 100000 in
theorem wd_627 : (Jvm.Cond.instanceMethod ({ cls := "ExpenseClubsModel", name := "member", desc := "(I)I" } : Jvm.MethodName)) ∈ lw_tbl := List.mem_of_getElem? (i := 651) rfl
set_option maxRecDepth 100000 in
theorem wd_628 : (Jvm.Cond.selects "ExpenseClubsModel" ({ cls := "ExpenseClubsModel", name := "member", desc := "(I)I" } : Jvm.MethodName) ({ cls := "ExpenseClubsModel", name := "member", desc := "(I)I" } : Jvm.MethodName)) ∈ lw_tbl := List.mem_of_getElem? (i := 652) rfl
set_option maxRecDepth 100000 in
theorem wd_629 : (Jvm.Cond.code ({ cls := "ExpenseClubsModel", name := "member", desc := "(I)I" } : Jvm.MethodName) prog_8_method_7_code (2 : Nat) (Option.some Jvm.ClassFile.FieldType.int)) ∈ lw_tbl := List.mem_of_getElem? (i := 653) rfl
set_option maxRecDepth 100000 in
theorem wd_630 : (Jvm.Cond.methodLink "ExpenseClubsModel" (97 : Nat) ({ cls := "ExpenseClubsModel", name := "isClub", desc := "(I)Z" } : Jvm.MethodName)) ∈ lw_tbl := List.mem_of_getElem? (i := 654) rfl
set_option maxRecDepth 100000 in
theorem wd_631 : (Jvm.Cond.privateMethod ({ cls := "ExpenseClubsModel", name := "isClub", desc := "(I)Z" } : Jvm.MethodName)) ∈ lw_tbl := List.mem_of_getElem? (i := 655) rfl
set_option maxRecDepth 100000 in
theorem wd_632 : (Jvm.Cond.instanceMethod ({ cls := "ExpenseClubsModel", name := "isClub", desc := "(I)Z" } : Jvm.MethodName)) ∈ lw_tbl := List.mem_of_getElem? (i := 656) rfl
set_option maxRecDepth 100000 in
theorem wd_633 : (Jvm.Cond.code ({ cls := "ExpenseClubsModel", name := "isClub", desc := "(I)Z" } : Jvm.MethodName) prog_8_method_3_code (2 : Nat) (Option.some Jvm.ClassFile.FieldType.boolean)) ∈ lw_tbl := List.mem_of_getElem? (i := 657) rfl
set_option maxRecDepth 100000 in
theorem wd_634 : (Jvm.Cond.methodLink "ExpenseClubsLaw" (35 : Nat) ({ cls := "ExpenseClubsModel", name := "leave", desc := "(II)Z" } : Jvm.MethodName)) ∈ lw_tbl := List.mem_of_getElem? (i := 658) rfl
set_option maxRecDepth 100000 in
theorem wd_635 : (Jvm.Cond.instanceMethod ({ cls := "ExpenseClubsModel", name := "leave", desc := "(II)Z" } : Jvm.MethodName)) ∈ lw_tbl := List.mem_of_getElem? (i := 659) rfl
set_option maxRecDepth 100000 in
theorem wd_636 : (Jvm.Cond.selects "ExpenseClubsModel" ({ cls := "ExpenseClubsModel", name := "leave", desc := "(II)Z" } : Jvm.MethodName) ({ cls := "ExpenseClubsModel", name := "leave", desc := "(II)Z" } : Jvm.MethodName)) ∈ lw_tbl := List.mem_of_getElem? (i := 660) rfl
set_option maxRecDepth 100000 in
theorem wd_637 : (Jvm.Cond.code ({ cls := "ExpenseClubsModel", name := "leave", desc := "(II)Z" } : Jvm.MethodName) prog_8_method_8_code (3 : Nat) (Option.some Jvm.ClassFile.FieldType.boolean)) ∈ lw_tbl := List.mem_of_getElem? (i := 661) rfl
set_option maxRecDepth 100000 in
theorem wd_638 : (Jvm.Cond.methodLink "ExpenseClubsModel" (103 : Nat) ({ cls := "ExpenseClubsModel", name := "isMember", desc := "(II)Z" } : Jvm.MethodName)) ∈ lw_tbl := List.mem_of_getElem? (i := 662) rfl
set_option maxRecDepth 100000 in
theorem wd_639 : (Jvm.Cond.privateMethod ({ cls := "ExpenseClubsModel", name := "isMember", desc := "(II)Z" } : Jvm.MethodName)) ∈ lw_tbl := List.mem_of_getElem? (i := 663) rfl
set_option maxRecDepth 100000 in
theorem wd_640 : (Jvm.Cond.instanceMethod ({ cls := "ExpenseClubsModel", name := "isMember", desc := "(II)Z" } : Jvm.MethodName)) ∈ lw_tbl := List.mem_of_getElem? (i := 664) rfl
set_option maxRecDepth 100000 in
theorem wd_641 : (Jvm.Cond.code ({ cls := "ExpenseClubsModel", name := "isMember", desc := "(II)Z" } : Jvm.MethodName) prog_8_method_4_code (3 : Nat) (Option.some Jvm.ClassFile.FieldType.boolean)) ∈ lw_tbl := List.mem_of_getElem? (i := 665) rfl
set_option maxRecDepth 100000 in
theorem wd_642 : (Jvm.Cond.methodLink "ExpenseClubsModel" (107 : Nat) ({ cls := "ExpenseClubsModel", name := "balance", desc := "(II)J" } : Jvm.MethodName)) ∈ lw_tbl := List.mem_of_getElem? (i := 666) rfl
set_option maxRecDepth 100000 in
theorem wd_643 : (Jvm.Cond.instanceMethod ({ cls := "ExpenseClubsModel", name := "balance", desc := "(II)J" } : Jvm.MethodName)) ∈ lw_tbl := List.mem_of_getElem? (i := 667) rfl
set_option maxRecDepth 100000 in
theorem wd_644 : (Jvm.Cond.selects "ExpenseClubsModel" ({ cls := "ExpenseClubsModel", name := "balance", desc := "(II)J" } : Jvm.MethodName) ({ cls := "ExpenseClubsModel", name := "balance", desc := "(II)J" } : Jvm.MethodName)) ∈ lw_tbl := List.mem_of_getElem? (i := 668) rfl
set_option maxRecDepth 100000 in
theorem wd_645 : (Jvm.Cond.code ({ cls := "ExpenseClubsModel", name := "balance", desc := "(II)J" } : Jvm.MethodName) prog_8_method_25_code (6 : Nat) (Option.some Jvm.ClassFile.FieldType.long)) ∈ lw_tbl := List.mem_of_getElem? (i := 669) rfl
set_option maxRecDepth 100000 in
theorem wd_646 : (Jvm.Cond.methodLink "ExpenseClubsLaw" (40 : Nat) ({ cls := "ExpenseClubsModel", name := "bill", desc := "(IIII)Z" } : Jvm.MethodName)) ∈ lw_tbl := List.mem_of_getElem? (i := 670) rfl
set_option maxRecDepth 100000 in
theorem wd_647 : (Jvm.Cond.instanceMethod ({ cls := "ExpenseClubsModel", name := "bill", desc := "(IIII)Z" } : Jvm.MethodName)) ∈ lw_tbl := List.mem_of_getElem? (i := 671) rfl
set_option maxRecDepth 100000 in
theorem wd_648 : (Jvm.Cond.selects "ExpenseClubsModel" ({ cls := "ExpenseClubsModel", name := "bill", desc := "(IIII)Z" } : Jvm.MethodName) ({ cls := "ExpenseClubsModel", name := "bill", desc := "(IIII)Z" } : Jvm.MethodName)) ∈ lw_tbl := List.mem_of_getElem? (i := 672) rfl
set_option maxRecDepth 100000 in
theorem wd_649 : (Jvm.Cond.code ({ cls := "ExpenseClubsModel", name := "bill", desc := "(IIII)Z" } : Jvm.MethodName) prog_8_method_10_code (6 : Nat) (Option.some Jvm.ClassFile.FieldType.boolean)) ∈ lw_tbl := List.mem_of_getElem? (i := 673) rfl
set_option maxRecDepth 100000 in
theorem wd_650 : (Jvm.Cond.methodLink "ExpenseClubsModel" (111 : Nat) ({ cls := "ExpenseClubsModel", name := "within", desc := "(III)Z" } : Jvm.MethodName)) ∈ lw_tbl := List.mem_of_getElem? (i := 674) rfl
set_option maxRecDepth 100000 in
theorem wd_651 : (Jvm.Cond.static ({ cls := "ExpenseClubsModel", name := "within", desc := "(III)Z" } : Jvm.MethodName)) ∈ lw_tbl := List.mem_of_getElem? (i := 675) rfl
set_option maxRecDepth 100000 in
theorem wd_652 : (Jvm.Cond.code ({ cls := "ExpenseClubsModel", name := "within", desc := "(III)Z" } : Jvm.MethodName) prog_8_method_9_code (3 : Nat) (Option.some Jvm.ClassFile.FieldType.boolean)) ∈ lw_tbl := List.mem_of_getElem? (i := 676) rfl
set_option maxRecDepth 100000 in
theorem wd_653 : (Jvm.Cond.constant "ExpenseClubsModel" (115 : Nat) (100000000 : Int32)) ∈ lw_tbl := List.mem_of_getElem? (i := 677) rfl
set_option maxRecDepth 100000 in
theorem wd_654 : (Jvm.Cond.constant "ExpenseClubsModel" (116 : Nat) (1000000000 : Int32)) ∈ lw_tbl := List.mem_of_getElem? (i := 678) rfl
set_option maxRecDepth 100000 in
theorem wd_655 : (Jvm.Cond.methodLink "ExpenseClubsLaw" (44 : Nat) ({ cls := "ExpenseClubsModel", name := "payer", desc := "(II)Z" } : Jvm.MethodName)) ∈ lw_tbl := List.mem_of_getElem? (i := 679) rfl
set_option maxRecDepth 100000 in
theorem wd_656 : (Jvm.Cond.instanceMethod ({ cls := "ExpenseClubsModel", name := "payer", desc := "(II)Z" } : Jvm.MethodName)) ∈ lw_tbl := List.mem_of_getElem? (i := 680) rfl
set_option maxRecDepth 100000 in
theorem wd_657 : (Jvm.Cond.selects "ExpenseClubsModel" ({ cls := "ExpenseClubsModel", name := "payer", desc := "(II)Z" } : Jvm.MethodName) ({ cls := "ExpenseClubsModel", name := "payer", desc := "(II)Z" } : Jvm.MethodName)) ∈ lw_tbl := List.mem_of_getElem? (i := 681) rfl
set_option maxRecDepth 100000 in
theorem wd_658 : (Jvm.Cond.code ({ cls := "ExpenseClubsModel", name := "payer", desc := "(II)Z" } : Jvm.MethodName) prog_8_method_12_code (3 : Nat) (Option.some Jvm.ClassFile.FieldType.boolean)) ∈ lw_tbl := List.mem_of_getElem? (i := 682) rfl
set_option maxRecDepth 100000 in
theorem wd_659 : (Jvm.Cond.methodLink "ExpenseClubsModel" (129 : Nat) ({ cls := "ExpenseClubsModel", name := "stays", desc := "(I)Z" } : Jvm.MethodName)) ∈ lw_tbl := List.mem_of_getElem? (i := 683) rfl
set_option maxRecDepth 100000 in
theorem wd_660 : (Jvm.Cond.privateMethod ({ cls := "ExpenseClubsModel", name := "stays", desc := "(I)Z" } : Jvm.MethodName)) ∈ lw_tbl := List.mem_of_getElem? (i := 684) rfl
set_option maxRecDepth 100000 in
theorem wd_661 : (Jvm.Cond.instanceMethod ({ cls := "ExpenseClubsModel", name := "stays", desc := "(I)Z" } : Jvm.MethodName)) ∈ lw_tbl := List.mem_of_getElem? (i := 685) rfl
set_option maxRecDepth 100000 in
theorem wd_662 : (Jvm.Cond.code ({ cls := "ExpenseClubsModel", name := "stays", desc := "(I)Z" } : Jvm.MethodName) prog_8_method_11_code (2 : Nat) (Option.some Jvm.ClassFile.FieldType.boolean)) ∈ lw_tbl := List.mem_of_getElem? (i := 686) rfl
set_option maxRecDepth 100000 in
theorem wd_663 : (Jvm.Cond.methodLink "ExpenseClubsLaw" (48 : Nat) ({ cls := "ExpenseClubsModel", name := "weight", desc := "(II)Z" } : Jvm.MethodName)) ∈ lw_tbl := List.mem_of_getElem? (i := 687) rfl
set_option maxRecDepth 100000 in
theorem wd_664 : (Jvm.Cond.instanceMethod ({ cls := "ExpenseClubsModel", name := "weight", desc := "(II)Z" } : Jvm.MethodName)) ∈ lw_tbl := List.mem_of_getElem? (i := 688) rfl
set_option maxRecDepth 100000 in
theorem wd_665 : (Jvm.Cond.selects "ExpenseClubsModel" ({ cls := "ExpenseClubsModel", name := "weight", desc := "(II)Z" } : Jvm.MethodName) ({ cls := "ExpenseClubsModel", name := "weight", desc := "(II)Z" } : Jvm.MethodName)) ∈ lw_tbl := List.mem_of_getElem? (i := 689) rfl
set_option maxRecDepth 100000 in
theorem wd_666 : (Jvm.Cond.code ({ cls := "ExpenseClubsModel", name := "weight", desc := "(II)Z" } : Jvm.MethodName) prog_8_method_13_code (4 : Nat) (Option.some Jvm.ClassFile.FieldType.boolean)) ∈ lw_tbl := List.mem_of_getElem? (i := 690) rfl
set_option maxRecDepth 100000 in
theorem wd_667 : (Jvm.Cond.methodLink "ExpenseClubsLaw" (52 : Nat) ({ cls := "ExpenseClubsModel", name := "line", desc := "(II)Z" } : Jvm.MethodName)) ∈ lw_tbl := List.mem_of_getElem? (i := 691) rfl
set_option maxRecDepth 100000 in
theorem wd_668 : (Jvm.Cond.instanceMethod ({ cls := "ExpenseClubsModel", name := "line", desc := "(II)Z" } : Jvm.MethodName)) ∈ lw_tbl := List.mem_of_getElem? (i := 692) rfl
set_option maxRecDepth 100000 in
theorem wd_669 : (Jvm.Cond.selects "ExpenseClubsModel" ({ cls := "ExpenseClubsModel", name := "line", desc := "(II)Z" } : Jvm.MethodName) ({ cls := "ExpenseClubsModel", name := "line", desc := "(II)Z" } : Jvm.MethodName)) ∈ lw_tbl := List.mem_of_getElem? (i := 693) rfl
set_option maxRecDepth 100000 in
theorem wd_670 : (Jvm.Cond.code ({ cls := "ExpenseClubsModel", name := "line", desc := "(II)Z" } : Jvm.MethodName) prog_8_method_14_code (4 : Nat) (Option.some Jvm.ClassFile.FieldType.boolean)) ∈ lw_tbl := List.mem_of_getElem? (i := 694) rfl
set_option maxRecDepth 100000 in
theorem wd_671 : (Jvm.Cond.methodLink "ExpenseClubsLaw" (56 : Nat) ({ cls := "ExpenseClubsModel", name := "post", desc := "()I" } : Jvm.MethodName)) ∈ lw_tbl := List.mem_of_getElem? (i := 695) rfl
set_option maxRecDepth 100000 in
theorem wd_672 : (Jvm.Cond.instanceMethod ({ cls := "ExpenseClubsModel", name := "post", desc := "()I" } : Jvm.MethodName)) ∈ lw_tbl := List.mem_of_getElem? (i := 696) rfl
set_option maxRecDepth 100000 in
theorem wd_673 : (Jvm.Cond.selects "ExpenseClubsModel" ({ cls := "ExpenseClubsModel", name := "post", desc := "()I" } : Jvm.MethodName) ({ cls := "ExpenseClubsModel", name := "post", desc := "()I" } : Jvm.MethodName)) ∈ lw_tbl := List.mem_of_getElem? (i := 697) rfl
set_option maxRecDepth 100000 in
theorem wd_674 : (Jvm.Cond.code ({ cls := "ExpenseClubsModel", name := "post", desc := "()I" } : Jvm.MethodName) prog_8_method_19_code (8 : Nat) (Option.some Jvm.ClassFile.FieldType.int)) ∈ lw_tbl := List.mem_of_getElem? (i := 698) rfl
set_option maxRecDepth 100000 in
theorem wd_675 : (Jvm.Cond.methodLink "ExpenseClubsModel" (149 : Nat) ({ cls := "ExpenseClubsModel", name := "wrong", desc := "()I" } : Jvm.MethodName)) ∈ lw_tbl := List.mem_of_getElem? (i := 699) rfl
set_option maxRecDepth 100000 in
theorem wd_676 : (Jvm.Cond.privateMethod ({ cls := "ExpenseClubsModel", name := "wrong", desc := "()I" } : Jvm.MethodName)) ∈ lw_tbl := List.mem_of_getElem? (i := 700) rfl
set_option maxRecDepth 100000 in
theorem wd_677 : (Jvm.Cond.instanceMethod ({ cls := "ExpenseClubsModel", name := "wrong", desc := "()I" } : Jvm.MethodName)) ∈ lw_tbl := List.mem_of_getElem? (i := 701) rfl
set_option maxRecDepth 100000 in
theorem wd_678 : (Jvm.Cond.code ({ cls := "ExpenseClubsModel", name := "wrong", desc := "()I" } : Jvm.MethodName) prog_8_method_18_code (6 : Nat) (Option.some Jvm.ClassFile.FieldType.int)) ∈ lw_tbl := List.mem_of_getElem? (i := 702) rfl
set_option maxRecDepth 100000 in
theorem wd_679 : (Jvm.Cond.methodLink "ExpenseClubsModel" (141 : Nat) ({ cls := "ExpenseClubsModel", name := "weighs", desc := "()J" } : Jvm.MethodName)) ∈ lw_tbl := List.mem_of_getElem? (i := 703) rfl
set_option maxRecDepth 100000 in
theorem wd_680 : (Jvm.Cond.privateMethod ({ cls := "ExpenseClubsModel", name := "weighs", desc := "()J" } : Jvm.MethodName)) ∈ lw_tbl := List.mem_of_getElem? (i := 704) rfl
set_option maxRecDepth 100000 in
theorem wd_681 : (Jvm.Cond.instanceMethod ({ cls := "ExpenseClubsModel", name := "weighs", desc := "()J" } : Jvm.MethodName)) ∈ lw_tbl := List.mem_of_getElem? (i := 705) rfl
set_option maxRecDepth 100000 in
theorem wd_682 : (Jvm.Cond.code ({ cls := "ExpenseClubsModel", name := "weighs", desc := "()J" } : Jvm.MethodName) prog_8_method_16_code (5 : Nat) (Option.some Jvm.ClassFile.FieldType.long)) ∈ lw_tbl := List.mem_of_getElem? (i := 706) rfl
set_option maxRecDepth 100000 in
theorem wd_683 : (Jvm.Cond.methodLink "ExpenseClubsModel" (132 : Nat) ({ cls := "ExpenseClubsModel", name := "size", desc := "(I)I" } : Jvm.MethodName)) ∈ lw_tbl := List.mem_of_getElem? (i := 707) rfl
set_option maxRecDepth 100000 in
theorem wd_684 : (Jvm.Cond.static ({ cls := "ExpenseClubsModel", name := "size", desc := "(I)I" } : Jvm.MethodName)) ∈ lw_tbl := List.mem_of_getElem? (i := 708) rfl
set_option maxRecDepth 100000 in
theorem wd_685 : (Jvm.Cond.code ({ cls := "ExpenseClubsModel", name := "size", desc := "(I)I" } : Jvm.MethodName) prog_8_method_15_code (3 : Nat) (Option.some Jvm.ClassFile.FieldType.int)) ∈ lw_tbl := List.mem_of_getElem? (i := 709) rfl
set_option maxRecDepth 100000 in
theorem wd_686 : (Jvm.Cond.methodLink "ExpenseClubsModel" (145 : Nat) ({ cls := "ExpenseClubsModel", name := "fits", desc := "(J)Z" } : Jvm.MethodName)) ∈ lw_tbl := List.mem_of_getElem? (i := 710) rfl
set_option maxRecDepth 100000 in
theorem wd_687 : (Jvm.Cond.privateMethod ({ cls := "ExpenseClubsModel", name := "fits", desc := "(J)Z" } : Jvm.MethodName)) ∈ lw_tbl := List.mem_of_getElem? (i := 711) rfl
set_option maxRecDepth 100000 in
theorem wd_688 : (Jvm.Cond.instanceMethod ({ cls := "ExpenseClubsModel", name := "fits", desc := "(J)Z" } : Jvm.MethodName)) ∈ lw_tbl := List.mem_of_getElem? (i := 712) rfl
set_option maxRecDepth 100000 in
theorem wd_689 : (Jvm.Cond.code ({ cls := "ExpenseClubsModel", name := "fits", desc := "(J)Z" } : Jvm.MethodName) prog_8_method_17_code (6 : Nat) (Option.some Jvm.ClassFile.FieldType.boolean)) ∈ lw_tbl := List.mem_of_getElem? (i := 713) rfl
set_option maxRecDepth 100000 in
theorem wd_690 : (Jvm.Cond.constantLong "ExpenseClubsModel" (136 : Nat) (10000 : Int64)) ∈ lw_tbl := List.mem_of_getElem? (i := 714) rfl
set_option maxRecDepth 100000 in
theorem wd_691 : (Jvm.Cond.constantLong "ExpenseClubsModel" (153 : Nat) (500000 : Int64)) ∈ lw_tbl := List.mem_of_getElem? (i := 715) rfl
set_option maxRecDepth 100000 in
theorem wd_692 : (Jvm.Cond.constantLong "ExpenseClubsModel" (155 : Nat) (1000000 : Int64)) ∈ lw_tbl := List.mem_of_getElem? (i := 716) rfl
set_option maxRecDepth 100000 in
theorem wd_693 : (Jvm.Cond.methodLink "ExpenseClubsModel" (157 : Nat) ({ cls := "ExpenseClubsModel", name := "pay", desc := "(IJ)V" } : Jvm.MethodName)) ∈ lw_tbl := List.mem_of_getElem? (i := 717) rfl
set_option maxRecDepth 100000 in
theorem wd_694 : (Jvm.Cond.privateMethod ({ cls := "ExpenseClubsModel", name := "pay", desc := "(IJ)V" } : Jvm.MethodName)) ∈ lw_tbl := List.mem_of_getElem? (i := 718) rfl
set_option maxRecDepth 100000 in
theorem wd_695 : (Jvm.Cond.instanceMethod ({ cls := "ExpenseClubsModel", name := "pay", desc := "(IJ)V" } : Jvm.MethodName)) ∈ lw_tbl := List.mem_of_getElem? (i := 719) rfl
set_option maxRecDepth 100000 in
theorem wd_696 : (Jvm.Cond.code ({ cls := "ExpenseClubsModel", name := "pay", desc := "(IJ)V" } : Jvm.MethodName) prog_8_method_20_code (7 : Nat) (Option.none : Option Jvm.ClassFile.FieldType)) ∈ lw_tbl := List.mem_of_getElem? (i := 720) rfl
set_option maxRecDepth 100000 in
theorem wd_697 : (Jvm.Cond.methodLink "ExpenseClubsModel" (167 : Nat) ({ cls := "ExpenseClubsModel", name := "part", desc := "(JJJ)J" } : Jvm.MethodName)) ∈ lw_tbl := List.mem_of_getElem? (i := 721) rfl
set_option maxRecDepth 100000 in
theorem wd_698 : (Jvm.Cond.static ({ cls := "ExpenseClubsModel", name := "part", desc := "(JJJ)J" } : Jvm.MethodName)) ∈ lw_tbl := List.mem_of_getElem? (i := 722) rfl
set_option maxRecDepth 100000 in
theorem wd_699 : (Jvm.Cond.code ({ cls := "ExpenseClubsModel", name := "part", desc := "(JJJ)J" } : Jvm.MethodName) prog_8_method_5_code (11 : Nat) (Option.some Jvm.ClassFile.FieldType.long)) ∈ lw_tbl := List.mem_of_getElem? (i := 723) rfl
set_option maxRecDepth 100000 in
theorem wd_700 : (Jvm.Cond.constantLong "ExpenseClubsModel" (101 : Nat) (2 : Int64)) ∈ lw_tbl := List.mem_of_getElem? (i := 724) rfl
set_option maxRecDepth 100000 in
theorem wd_701 : (Jvm.Cond.methodLink "ExpenseClubsModel" (161 : Nat) ({ cls := "ExpenseClubsModel", name := "share", desc := "(IJJ)V" } : Jvm.MethodName)) ∈ lw_tbl := List.mem_of_getElem? (i := 725) rfl
set_option maxRecDepth 100000 in
theorem wd_702 : (Jvm.Cond.privateMethod ({ cls := "ExpenseClubsModel", name := "share", desc := "(IJJ)V" } : Jvm.MethodName)) ∈ lw_tbl := List.mem_of_getElem? (i := 726) rfl
set_option maxRecDepth 100000 in
theorem wd_703 : (Jvm.Cond.instanceMethod ({ cls := "ExpenseClubsModel", name := "share", desc := "(IJJ)V" } : Jvm.MethodName)) ∈ lw_tbl := List.mem_of_getElem? (i := 727) rfl
set_option maxRecDepth 100000 in
theorem wd_704 : (Jvm.Cond.code ({ cls := "ExpenseClubsModel", name := "share", desc := "(IJJ)V" } : Jvm.MethodName) prog_8_method_21_code (9 : Nat) (Option.none : Option Jvm.ClassFile.FieldType)) ∈ lw_tbl := List.mem_of_getElem? (i := 728) rfl
set_option maxRecDepth 100000 in
theorem wd_705 : (Jvm.Cond.constantLong "ExpenseClubsModel" (165 : Nat) (1000 : Int64)) ∈ lw_tbl := List.mem_of_getElem? (i := 729) rfl
set_option maxRecDepth 100000 in
theorem wd_706 : (Jvm.Cond.methodLink "ExpenseClubsLaw" (61 : Nat) ({ cls := "ExpenseClubsModel", name := "strike", desc := "(I)Z" } : Jvm.MethodName)) ∈ lw_tbl := List.mem_of_getElem? (i := 730) rfl
set_option maxRecDepth 100000 in
theorem wd_707 : (Jvm.Cond.instanceMethod ({ cls := "ExpenseClubsModel", name := "strike", desc := "(I)Z" } : Jvm.MethodName)) ∈ lw_tbl := List.mem_of_getElem? (i := 731) rfl
set_option maxRecDepth 100000 in
theorem wd_708 : (Jvm.Cond.selects "ExpenseClubsModel" ({ cls := "ExpenseClubsModel", name := "strike", desc := "(I)Z" } : Jvm.MethodName) ({ cls := "ExpenseClubsModel", name := "strike", desc := "(I)Z" } : Jvm.MethodName)) ∈ lw_tbl := List.mem_of_getElem? (i := 732) rfl
set_option maxRecDepth 100000 in
theorem wd_709 : (Jvm.Cond.code ({ cls := "ExpenseClubsModel", name := "strike", desc := "(I)Z" } : Jvm.MethodName) prog_8_method_22_code (2 : Nat) (Option.some Jvm.ClassFile.FieldType.boolean)) ∈ lw_tbl := List.mem_of_getElem? (i := 733) rfl
set_option maxRecDepth 100000 in
theorem wd_710 : (Jvm.Cond.methodLink "ExpenseClubsLaw" (65 : Nat) ({ cls := "ExpenseClubsModel", name := "about", desc := "(III)J" } : Jvm.MethodName)) ∈ lw_tbl := List.mem_of_getElem? (i := 734) rfl
set_option maxRecDepth 100000 in
theorem wd_711 : (Jvm.Cond.instanceMethod ({ cls := "ExpenseClubsModel", name := "about", desc := "(III)J" } : Jvm.MethodName)) ∈ lw_tbl := List.mem_of_getElem? (i := 735) rfl
set_option maxRecDepth 100000 in
theorem wd_712 : (Jvm.Cond.selects "ExpenseClubsModel" ({ cls := "ExpenseClubsModel", name := "about", desc := "(III)J" } : Jvm.MethodName) ({ cls := "ExpenseClubsModel", name := "about", desc := "(III)J" } : Jvm.MethodName)) ∈ lw_tbl := List.mem_of_getElem? (i := 736) rfl
set_option maxRecDepth 100000 in
theorem wd_713 : (Jvm.Cond.code ({ cls := "ExpenseClubsModel", name := "about", desc := "(III)J" } : Jvm.MethodName) prog_8_method_23_code (4 : Nat) (Option.some Jvm.ClassFile.FieldType.long)) ∈ lw_tbl := List.mem_of_getElem? (i := 737) rfl
set_option maxRecDepth 100000 in
theorem wd_714 : (Jvm.Cond.constantLong "ExpenseClubsModel" (171 : Nat) (-1 : Int64)) ∈ lw_tbl := List.mem_of_getElem? (i := 738) rfl
set_option maxRecDepth 100000 in
theorem wd_715 : (Jvm.Cond.methodLink "ExpenseClubsLaw" (70 : Nat) ({ cls := "ExpenseClubsModel", name := "total", desc := "(I)J" } : Jvm.MethodName)) ∈ lw_tbl := List.mem_of_getElem? (i := 739) rfl
set_option maxRecDepth 100000 in
theorem wd_716 : (Jvm.Cond.instanceMethod ({ cls := "ExpenseClubsModel", name := "total", desc := "(I)J" } : Jvm.MethodName)) ∈ lw_tbl := List.mem_of_getElem? (i := 740) rfl
set_option maxRecDepth 100000 in
theorem wd_717 : (Jvm.Cond.selects "ExpenseClubsModel" ({ cls := "ExpenseClubsModel", name := "total", desc := "(I)J" } : Jvm.MethodName) ({ cls := "ExpenseClubsModel", name := "total", desc := "(I)J" } : Jvm.MethodName)) ∈ lw_tbl := List.mem_of_getElem? (i := 741) rfl
set_option maxRecDepth 100000 in
theorem wd_718 : (Jvm.Cond.code ({ cls := "ExpenseClubsModel", name := "total", desc := "(I)J" } : Jvm.MethodName) prog_8_method_24_code (2 : Nat) (Option.some Jvm.ClassFile.FieldType.long)) ∈ lw_tbl := List.mem_of_getElem? (i := 742) rfl
set_option maxRecDepth 100000 in
theorem wd_719 : (Jvm.Cond.methodLink "ExpenseClubsLaw" (75 : Nat) ({ cls := "ExpenseClubsModel", name := "balance", desc := "(II)J" } : Jvm.MethodName)) ∈ lw_tbl := List.mem_of_getElem? (i := 743) rfl
set_option maxRecDepth 100000 in
theorem wd_720 : (Jvm.Cond.methodLink "ExpenseClubsLaw" (79 : Nat) ({ cls := "ExpenseClubsModel", name := "drift", desc := "(II)J" } : Jvm.MethodName)) ∈ lw_tbl := List.mem_of_getElem? (i := 744) rfl
set_option maxRecDepth 100000 in
theorem wd_721 : (Jvm.Cond.instanceMethod ({ cls := "ExpenseClubsModel", name := "drift", desc := "(II)J" } : Jvm.MethodName)) ∈ lw_tbl := List.mem_of_getElem? (i := 745) rfl
set_option maxRecDepth 100000 in
theorem wd_722 : (Jvm.Cond.selects "ExpenseClubsModel" ({ cls := "ExpenseClubsModel", name := "drift", desc := "(II)J" } : Jvm.MethodName) ({ cls := "ExpenseClubsModel", name := "drift", desc := "(II)J" } : Jvm.MethodName)) ∈ lw_tbl := List.mem_of_getElem? (i := 746) rfl
set_option maxRecDepth 100000 in
theorem wd_723 : (Jvm.Cond.code ({ cls := "ExpenseClubsModel", name := "drift", desc := "(II)J" } : Jvm.MethodName) prog_8_method_26_code (6 : Nat) (Option.some Jvm.ClassFile.FieldType.long)) ∈ lw_tbl := List.mem_of_getElem? (i := 747) rfl
set_option maxRecDepth 100000 in
theorem wd_724 : (Jvm.Cond.methodLink "ExpenseClubsLaw" (83 : Nat) ({ cls := "ExpenseClubsModel", name := "settle", desc := "(I)I" } : Jvm.MethodName)) ∈ lw_tbl := List.mem_of_getElem? (i := 748) rfl
set_option maxRecDepth 100000 in
theorem wd_725 : (Jvm.Cond.instanceMethod ({ cls := "ExpenseClubsModel", name := "settle", desc := "(I)I" } : Jvm.MethodName)) ∈ lw_tbl := List.mem_of_getElem? (i := 749) rfl
set_option maxRecDepth 100000 in
theorem wd_726 : (Jvm.Cond.selects "ExpenseClubsModel" ({ cls := "ExpenseClubsModel", name := "settle", desc := "(I)I" } : Jvm.MethodName) ({ cls := "ExpenseClubsModel", name := "settle", desc := "(I)I" } : Jvm.MethodName)) ∈ lw_tbl := List.mem_of_getElem? (i := 750) rfl
set_option maxRecDepth 100000 in
theorem wd_727 : (Jvm.Cond.code ({ cls := "ExpenseClubsModel", name := "settle", desc := "(I)I" } : Jvm.MethodName) prog_8_method_32_code (4 : Nat) (Option.some Jvm.ClassFile.FieldType.int)) ∈ lw_tbl := List.mem_of_getElem? (i := 751) rfl
set_option maxRecDepth 100000 in
theorem wd_728 : (Jvm.Cond.methodLink "ExpenseClubsModel" (176 : Nat) ({ cls := "ExpenseClubsModel", name := "weighAll", desc := "(I)V" } : Jvm.MethodName)) ∈ lw_tbl := List.mem_of_getElem? (i := 752) rfl
set_option maxRecDepth 100000 in
theorem wd_729 : (Jvm.Cond.privateMethod ({ cls := "ExpenseClubsModel", name := "weighAll", desc := "(I)V" } : Jvm.MethodName)) ∈ lw_tbl := List.mem_of_getElem? (i := 753) rfl
set_option maxRecDepth 100000 in
theorem wd_730 : (Jvm.Cond.instanceMethod ({ cls := "ExpenseClubsModel", name := "weighAll", desc := "(I)V" } : Jvm.MethodName)) ∈ lw_tbl := List.mem_of_getElem? (i := 754) rfl
set_option maxRecDepth 100000 in
theorem wd_731 : (Jvm.Cond.code ({ cls := "ExpenseClubsModel", name := "weighAll", desc := "(I)V" } : Jvm.MethodName) prog_8_method_29_code (4 : Nat) (Option.none : Option Jvm.ClassFile.FieldType)) ∈ lw_tbl := List.mem_of_getElem? (i := 755) rfl
set_option maxRecDepth 100000 in
theorem wd_732 : (Jvm.Cond.methodLink "ExpenseClubsModel" (173 : Nat) ({ cls := "ExpenseClubsModel", name := "lowest", desc := "(I)I" } : Jvm.MethodName)) ∈ lw_tbl := List.mem_of_getElem? (i := 756) rfl
set_option maxRecDepth 100000 in
theorem wd_733 : (Jvm.Cond.static ({ cls := "ExpenseClubsModel", name := "lowest", desc := "(I)I" } : Jvm.MethodName)) ∈ lw_tbl := List.mem_of_getElem? (i := 757) rfl
set_option maxRecDepth 100000 in
theorem wd_734 : (Jvm.Cond.code ({ cls := "ExpenseClubsModel", name := "lowest", desc := "(I)I" } : Jvm.MethodName) prog_8_method_27_code (2 : Nat) (Option.some Jvm.ClassFile.FieldType.int)) ∈ lw_tbl := List.mem_of_getElem? (i := 758) rfl
set_option maxRecDepth 100000 in
theorem wd_735 : (Jvm.Cond.methodLink "ExpenseClubsModel" (180 : Nat) ({ cls := "ExpenseClubsModel", name := "divides", desc := "()V" } : Jvm.MethodName)) ∈ lw_tbl := List.mem_of_getElem? (i := 759) rfl
set_option maxRecDepth 100000 in
theorem wd_736 : (Jvm.Cond.privateMethod ({ cls := "ExpenseClubsModel", name := "divides", desc := "()V" } : Jvm.MethodName)) ∈ lw_tbl := List.mem_of_getElem? (i := 760) rfl
set_option maxRecDepth 100000 in
theorem wd_737 : (Jvm.Cond.instanceMethod ({ cls := "ExpenseClubsModel", name := "divides", desc := "()V" } : Jvm.MethodName)) ∈ lw_tbl := List.mem_of_getElem? (i := 761) rfl
set_option maxRecDepth 100000 in
theorem wd_738 : (Jvm.Cond.code ({ cls := "ExpenseClubsModel", name := "divides", desc := "()V" } : Jvm.MethodName) prog_8_method_28_code (8 : Nat) (Option.none : Option Jvm.ClassFile.FieldType)) ∈ lw_tbl := List.mem_of_getElem? (i := 762) rfl
set_option maxRecDepth 100000 in
theorem wd_739 : (Jvm.Cond.methodLink "ExpenseClubsModel" (183 : Nat) ({ cls := "ExpenseClubsModel", name := "least", desc := "(I)I" } : Jvm.MethodName)) ∈ lw_tbl := List.mem_of_getElem? (i := 763) rfl
set_option maxRecDepth 100000 in
theorem wd_740 : (Jvm.Cond.privateMethod ({ cls := "ExpenseClubsModel", name := "least", desc := "(I)I" } : Jvm.MethodName)) ∈ lw_tbl := List.mem_of_getElem? (i := 764) rfl
set_option maxRecDepth 100000 in
theorem wd_741 : (Jvm.Cond.instanceMethod ({ cls := "ExpenseClubsModel", name := "least", desc := "(I)I" } : Jvm.MethodName)) ∈ lw_tbl := List.mem_of_getElem? (i := 765) rfl
set_option maxRecDepth 100000 in
theorem wd_742 : (Jvm.Cond.code ({ cls := "ExpenseClubsModel", name := "least", desc := "(I)I" } : Jvm.MethodName) prog_8_method_30_code (4 : Nat) (Option.some Jvm.ClassFile.FieldType.int)) ∈ lw_tbl := List.mem_of_getElem? (i := 766) rfl
set_option maxRecDepth 100000 in
theorem wd_743 : (Jvm.Cond.methodLink "ExpenseClubsModel" (186 : Nat) ({ cls := "ExpenseClubsModel", name := "moves", desc := "(II)V" } : Jvm.MethodName)) ∈ lw_tbl := List.mem_of_getElem? (i := 767) rfl
set_option maxRecDepth 100000 in
theorem wd_744 : (Jvm.Cond.privateMethod ({ cls := "ExpenseClubsModel", name := "moves", desc := "(II)V" } : Jvm.MethodName)) ∈ lw_tbl := List.mem_of_getElem? (i := 768) rfl
set_option maxRecDepth 100000 in
theorem wd_745 : (Jvm.Cond.instanceMethod ({ cls := "ExpenseClubsModel", name := "moves", desc := "(II)V" } : Jvm.MethodName)) ∈ lw_tbl := List.mem_of_getElem? (i := 769) rfl
set_option maxRecDepth 100000 in
theorem wd_746 : (Jvm.Cond.code ({ cls := "ExpenseClubsModel", name := "moves", desc := "(II)V" } : Jvm.MethodName) prog_8_method_31_code (8 : Nat) (Option.none : Option Jvm.ClassFile.FieldType)) ∈ lw_tbl := List.mem_of_getElem? (i := 770) rfl
set_option maxRecDepth 100000 in
theorem wd_747 : (Jvm.Cond.methodLink "ExpenseClubsLaw" (89 : Nat) ({ cls := "ExpenseClubsModel", name := "transfer", desc := "(III)J" } : Jvm.MethodName)) ∈ lw_tbl := List.mem_of_getElem? (i := 771) rfl
set_option maxRecDepth 100000 in
theorem wd_748 : (Jvm.Cond.instanceMethod ({ cls := "ExpenseClubsModel", name := "transfer", desc := "(III)J" } : Jvm.MethodName)) ∈ lw_tbl := List.mem_of_getElem? (i := 772) rfl
set_option maxRecDepth 100000 in
theorem wd_749 : (Jvm.Cond.selects "ExpenseClubsModel" ({ cls := "ExpenseClubsModel", name := "transfer", desc := "(III)J" } : Jvm.MethodName) ({ cls := "ExpenseClubsModel", name := "transfer", desc := "(III)J" } : Jvm.MethodName)) ∈ lw_tbl := List.mem_of_getElem? (i := 773) rfl
set_option maxRecDepth 100000 in
theorem wd_750 : (Jvm.Cond.code ({ cls := "ExpenseClubsModel", name := "transfer", desc := "(III)J" } : Jvm.MethodName) prog_8_method_34_code (5 : Nat) (Option.some Jvm.ClassFile.FieldType.long)) ∈ lw_tbl := List.mem_of_getElem? (i := 774) rfl
set_option maxRecDepth 100000 in
theorem wd_751 : (Jvm.Cond.methodLink "ExpenseClubsModel" (190 : Nat) ({ cls := "ExpenseClubsModel", name := "isTransfer", desc := "(II)Z" } : Jvm.MethodName)) ∈ lw_tbl := List.mem_of_getElem? (i := 775) rfl
set_option maxRecDepth 100000 in
theorem wd_752 : (Jvm.Cond.privateMethod ({ cls := "ExpenseClubsModel", name := "isTransfer", desc := "(II)Z" } : Jvm.MethodName)) ∈ lw_tbl := List.mem_of_getElem? (i := 776) rfl
set_option maxRecDepth 100000 in
theorem wd_753 : (Jvm.Cond.instanceMethod ({ cls := "ExpenseClubsModel", name := "isTransfer", desc := "(II)Z" } : Jvm.MethodName)) ∈ lw_tbl := List.mem_of_getElem? (i := 777) rfl
set_option maxRecDepth 100000 in
theorem wd_754 : (Jvm.Cond.code ({ cls := "ExpenseClubsModel", name := "isTransfer", desc := "(II)Z" } : Jvm.MethodName) prog_8_method_33_code (3 : Nat) (Option.some Jvm.ClassFile.FieldType.boolean)) ∈ lw_tbl := List.mem_of_getElem? (i := 778) rfl
set_option maxRecDepth 100000 in
theorem wd_755 : (Jvm.Cond.methodLink "ExpenseClubsLaw" (96 : Nat) ({ cls := "ExpenseClubsModel", name := "tick", desc := "(II)Z" } : Jvm.MethodName)) ∈ lw_tbl := List.mem_of_getElem? (i := 779) rfl
set_option maxRecDepth 100000 in
theorem wd_756 : (Jvm.Cond.instanceMethod ({ cls := "ExpenseClubsModel", name := "tick", desc := "(II)Z" } : Jvm.MethodName)) ∈ lw_tbl := List.mem_of_getElem? (i := 780) rfl
set_option maxRecDepth 100000 in
theorem wd_757 : (Jvm.Cond.selects "ExpenseClubsModel" ({ cls := "ExpenseClubsModel", name := "tick", desc := "(II)Z" } : Jvm.MethodName) ({ cls := "ExpenseClubsModel", name := "tick", desc := "(II)Z" } : Jvm.MethodName)) ∈ lw_tbl := List.mem_of_getElem? (i := 781) rfl
set_option maxRecDepth 100000 in
theorem wd_758 : (Jvm.Cond.code ({ cls := "ExpenseClubsModel", name := "tick", desc := "(II)Z" } : Jvm.MethodName) prog_8_method_35_code (4 : Nat) (Option.some Jvm.ClassFile.FieldType.boolean)) ∈ lw_tbl := List.mem_of_getElem? (i := 782) rfl
set_option maxRecDepth 100000 in
theorem wd_759 : (Jvm.Cond.methodLink "ExpenseClubsLaw" (100 : Nat) ({ cls := "ExpenseClubsModel", name := "giveUp", desc := "(I)I" } : Jvm.MethodName)) ∈ lw_tbl := List.mem_of_getElem? (i := 783) rfl
set_option maxRecDepth 100000 in
theorem wd_760 : (Jvm.Cond.instanceMethod ({ cls := "ExpenseClubsModel", name := "giveUp", desc := "(I)I" } : Jvm.MethodName)) ∈ lw_tbl := List.mem_of_getElem? (i := 784) rfl
set_option maxRecDepth 100000 in
theorem wd_761 : (Jvm.Cond.selects "ExpenseClubsModel" ({ cls := "ExpenseClubsModel", name := "giveUp", desc := "(I)I" } : Jvm.MethodName) ({ cls := "ExpenseClubsModel", name := "giveUp", desc := "(I)I" } : Jvm.MethodName)) ∈ lw_tbl := List.mem_of_getElem? (i := 785) rfl
set_option maxRecDepth 100000 in
theorem wd_762 : (Jvm.Cond.code ({ cls := "ExpenseClubsModel", name := "giveUp", desc := "(I)I" } : Jvm.MethodName) prog_8_method_37_code (2 : Nat) (Option.some Jvm.ClassFile.FieldType.int)) ∈ lw_tbl := List.mem_of_getElem? (i := 786) rfl
set_option maxRecDepth 100000 in
theorem wd_763 : (Jvm.Cond.methodLink "ExpenseClubsModel" (193 : Nat) ({ cls := "ExpenseClubsModel", name := "unticked", desc := "(I)I" } : Jvm.MethodName)) ∈ lw_tbl := List.mem_of_getElem? (i := 787) rfl
set_option maxRecDepth 100000 in
theorem wd_764 : (Jvm.Cond.privateMethod ({ cls := "ExpenseClubsModel", name := "unticked", desc := "(I)I" } : Jvm.MethodName)) ∈ lw_tbl := List.mem_of_getElem? (i := 788) rfl
set_option maxRecDepth 100000 in
theorem wd_765 : (Jvm.Cond.instanceMethod ({ cls := "ExpenseClubsModel", name := "unticked", desc := "(I)I" } : Jvm.MethodName)) ∈ lw_tbl := List.mem_of_getElem? (i := 789) rfl
set_option maxRecDepth 100000 in
theorem wd_766 : (Jvm.Cond.code ({ cls := "ExpenseClubsModel", name := "unticked", desc := "(I)I" } : Jvm.MethodName) prog_8_method_36_code (4 : Nat) (Option.some Jvm.ClassFile.FieldType.int)) ∈ lw_tbl := List.mem_of_getElem? (i := 790) rfl
set_option maxRecDepth 100000 in
theorem wd_767 : (Jvm.Cond.methodLink "ExpenseClubsLaw" (104 : Nat) ({ cls := "ExpenseClubsModel", name := "close", desc := "(I)Z" } : Jvm.MethodName)) ∈ lw_tbl := List.mem_of_getElem? (i := 791) rfl
set_option maxRecDepth 100000 in
theorem wd_768 : (Jvm.Cond.instanceMethod ({ cls := "ExpenseClubsModel", name := "close", desc := "(I)Z" } : Jvm.MethodName)) ∈ lw_tbl := List.mem_of_getElem? (i := 792) rfl
set_option maxRecDepth 100000 in
theorem wd_769 : (Jvm.Cond.selects "ExpenseClubsModel" ({ cls := "ExpenseClubsModel", name := "close", desc := "(I)Z" } : Jvm.MethodName) ({ cls := "ExpenseClubsModel", name := "close", desc := "(I)Z" } : Jvm.MethodName)) ∈ lw_tbl := List.mem_of_getElem? (i := 793) rfl
set_option maxRecDepth 100000 in
theorem wd_770 : (Jvm.Cond.code ({ cls := "ExpenseClubsModel", name := "close", desc := "(I)Z" } : Jvm.MethodName) prog_8_method_38_code (2 : Nat) (Option.some Jvm.ClassFile.FieldType.boolean)) ∈ lw_tbl := List.mem_of_getElem? (i := 794) rfl
set_option maxRecDepth 100000 in
theorem wd_771 : (Jvm.Cond.methodLink "ExpenseClubsLaw" (109 : Nat) ({ cls := "ExpenseClubsModel", name := "count", desc := "(II)I" } : Jvm.MethodName)) ∈ lw_tbl := List.mem_of_getElem? (i := 795) rfl
set_option maxRecDepth 100000 in
theorem wd_772 : (Jvm.Cond.instanceMethod ({ cls := "ExpenseClubsModel", name := "count", desc := "(II)I" } : Jvm.MethodName)) ∈ lw_tbl := List.mem_of_getElem? (i := 796) rfl
set_option maxRecDepth 100000 in
theorem wd_773 : (Jvm.Cond.selects "ExpenseClubsModel" ({ cls := "ExpenseClubsModel", name := "count", desc := "(II)I" } : Jvm.MethodName) ({ cls := "ExpenseClubsModel", name := "count", desc := "(II)I" } : Jvm.MethodName)) ∈ lw_tbl := List.mem_of_getElem? (i := 797) rfl
set_option maxRecDepth 100000 in
theorem wd_774 : (Jvm.Cond.code ({ cls := "ExpenseClubsModel", name := "count", desc := "(II)I" } : Jvm.MethodName) prog_8_method_39_code (3 : Nat) (Option.some Jvm.ClassFile.FieldType.int)) ∈ lw_tbl := List.mem_of_getElem? (i := 798) rfl
set_option maxRecDepth 100000 in
theorem wd_775 : (Jvm.Cond.methodLink "ExpenseClubsLaw" (113 : Nat) ({ cls := "ExpenseClubsModel", name := "groupOf", desc := "(II)I" } : Jvm.MethodName)) ∈ lw_tbl := List.mem_of_getElem? (i := 799) rfl
set_option maxRecDepth 100000 in
theorem wd_776 : (Jvm.Cond.instanceMethod ({ cls := "ExpenseClubsModel", name := "groupOf", desc := "(II)I" } : Jvm.MethodName)) ∈ lw_tbl := List.mem_of_getElem? (i := 800) rfl
set_option maxRecDepth 100000 in
theorem wd_777 : (Jvm.Cond.selects "ExpenseClubsModel" ({ cls := "ExpenseClubsModel", name := "groupOf", desc := "(II)I" } : Jvm.MethodName) ({ cls := "ExpenseClubsModel", name := "groupOf", desc := "(II)I" } : Jvm.MethodName)) ∈ lw_tbl := List.mem_of_getElem? (i := 801) rfl
set_option maxRecDepth 100000 in
theorem wd_778 : (Jvm.Cond.code ({ cls := "ExpenseClubsModel", name := "groupOf", desc := "(II)I" } : Jvm.MethodName) prog_8_method_40_code (3 : Nat) (Option.some Jvm.ClassFile.FieldType.int)) ∈ lw_tbl := List.mem_of_getElem? (i := 802) rfl
set_option maxRecDepth 100000 in
theorem wd_779 : (Jvm.Cond.sameMethod "java/lang/Throwable" "java/lang/Throwable" "fillInStackTrace" "(I)Ljava/lang/Throwable;") ∈ lw_tbl := List.mem_of_getElem? (i := 803) rfl
set_option maxRecDepth 100000 in
theorem ws_0 : Cond.selects "ExpenseClubs" ⟨"ExpenseClubs", "clubAt", "(I)LExpenseClubs$Club;"⟩ ⟨"ExpenseClubs", "clubAt", "(I)LExpenseClubs$Club;"⟩ ∈ lw_tbl := List.mem_of_getElem? (i := 0) rfl
set_option maxRecDepth 100000 in
theorem ws_1 : Cond.selects "ExpenseClubs" ⟨"ExpenseClubs", "refusalOfPost", "(LExpenseClubs$Club;)I"⟩ ⟨"ExpenseClubs", "refusalOfPost", "(LExpenseClubs$Club;)I"⟩ ∈ lw_tbl := List.mem_of_getElem? (i := 1) rfl
set_option maxRecDepth 100000 in
theorem ws_2 : Cond.selects "ExpenseClubs$Draft" ⟨"ExpenseClubs$Draft", "dueSum", "(J)J"⟩ ⟨"ExpenseClubs$Draft", "dueSum", "(J)J"⟩ ∈ lw_tbl := List.mem_of_getElem? (i := 2) rfl
set_option maxRecDepth 100000 in
theorem ws_3 : Cond.selects "ExpenseClubs" ⟨"ExpenseClubs", "billAt", "(I)LExpenseClubs$Bill;"⟩ ⟨"ExpenseClubs", "billAt", "(I)LExpenseClubs$Bill;"⟩ ∈ lw_tbl := List.mem_of_getElem? (i := 3) rfl
set_option maxRecDepth 100000 in
theorem ws_4 : Cond.selects "ExpenseClubs$Grouping" ⟨"ExpenseClubs$Grouping", "gather", "([J)V"⟩ ⟨"ExpenseClubs$Grouping", "gather", "([J)V"⟩ ∈ lw_tbl := List.mem_of_getElem? (i := 4) rfl
set_option maxRecDepth 100000 in
theorem ws_5 : Cond.selects "ExpenseClubs$Grouping" ⟨"ExpenseClubs$Grouping", "countMost", "()V"⟩ ⟨"ExpenseClubs$Grouping", "countMost", "()V"⟩ ∈ lw_tbl := List.mem_of_getElem? (i := 5) rfl
set_option maxRecDepth 100000 in
theorem ws_6 : Cond.selects "ExpenseClubs$Grouping" ⟨"ExpenseClubs$Grouping", "firstGroup", "(I)I"⟩ ⟨"ExpenseClubs$Grouping", "firstGroup", "(I)I"⟩ ∈ lw_tbl := List.mem_of_getElem? (i := 6) rfl
set_option maxRecDepth 100000 in
theorem ws_7 : Cond.selects "ExpenseClubs$Grouping" ⟨"ExpenseClubs$Grouping", "sumOfSet", "(I)J"⟩ ⟨"ExpenseClubs$Grouping", "sumOfSet", "(I)J"⟩ ∈ lw_tbl := List.mem_of_getElem? (i := 7) rfl
set_option maxRecDepth 100000 in
theorem ws_8 : Cond.selects "ExpenseClubs$Grouping" ⟨"ExpenseClubs$Grouping", "addGroup", "(LExpenseClubs$Settlement;I)V"⟩ ⟨"ExpenseClubs$Grouping", "addGroup", "(LExpenseClubs$Settlement;I)V"⟩ ∈ lw_tbl := List.mem_of_getElem? (i := 8) rfl
set_option maxRecDepth 100000 in
theorem ws_9 : Cond.selects "java/lang/Throwable" ⟨"java/lang/Throwable", "fillInStackTrace", "(I)Ljava/lang/Throwable;"⟩ ⟨"java/lang/Throwable", "fillInStackTrace", "(I)Ljava/lang/Throwable;"⟩ ∈ lw_tbl := List.mem_of_getElem? (i := 9) rfl
set_option maxRecDepth 100000 in
theorem ws_10 : Cond.selects "ExpenseClubsModel" ⟨"ExpenseClubsModel", "isClub", "(I)Z"⟩ ⟨"ExpenseClubsModel", "isClub", "(I)Z"⟩ ∈ lw_tbl := List.mem_of_getElem? (i := 10) rfl
set_option maxRecDepth 100000 in
theorem ws_11 : Cond.selects "ExpenseClubsModel" ⟨"ExpenseClubsModel", "isMember", "(II)Z"⟩ ⟨"ExpenseClubsModel", "isMember", "(II)Z"⟩ ∈ lw_tbl := List.mem_of_getElem? (i := 11) rfl
set_option maxRecDepth 100000 in
theorem ws_12 : Cond.selects "ExpenseClubsModel" ⟨"ExpenseClubsModel", "stays", "(I)Z"⟩ ⟨"ExpenseClubsModel", "stays", "(I)Z"⟩ ∈ lw_tbl := List.mem_of_getElem? (i := 12) rfl
set_option maxRecDepth 100000 in
theorem ws_13 : Cond.selects "ExpenseClubsModel" ⟨"ExpenseClubsModel", "wrong", "()I"⟩ ⟨"ExpenseClubsModel", "wrong", "()I"⟩ ∈ lw_tbl := List.mem_of_getElem? (i := 13) rfl
set_option maxRecDepth 100000 in
theorem ws_14 : Cond.selects "ExpenseClubsModel" ⟨"ExpenseClubsModel", "weighs", "()J"⟩ ⟨"ExpenseClubsModel", "weighs", "()J"⟩ ∈ lw_tbl := List.mem_of_getElem? (i := 14) rfl
set_option maxRecDepth 100000 in
theorem ws_15 : Cond.selects "ExpenseClubsModel" ⟨"ExpenseClubsModel", "fits", "(J)Z"⟩ ⟨"ExpenseClubsModel", "fits", "(J)Z"⟩ ∈ lw_tbl := List.mem_of_getElem? (i := 15) rfl
set_option maxRecDepth 100000 in
theorem ws_16 : Cond.selects "ExpenseClubsModel" ⟨"ExpenseClubsModel", "pay", "(IJ)V"⟩ ⟨"ExpenseClubsModel", "pay", "(IJ)V"⟩ ∈ lw_tbl := List.mem_of_getElem? (i := 16) rfl
set_option maxRecDepth 100000 in
theorem ws_17 : Cond.selects "ExpenseClubsModel" ⟨"ExpenseClubsModel", "share", "(IJJ)V"⟩ ⟨"ExpenseClubsModel", "share", "(IJJ)V"⟩ ∈ lw_tbl := List.mem_of_getElem? (i := 17) rfl
set_option maxRecDepth 100000 in
theorem ws_18 : Cond.selects "ExpenseClubsModel" ⟨"ExpenseClubsModel", "weighAll", "(I)V"⟩ ⟨"ExpenseClubsModel", "weighAll", "(I)V"⟩ ∈ lw_tbl := List.mem_of_getElem? (i := 18) rfl
set_option maxRecDepth 100000 in
theorem ws_19 : Cond.selects "ExpenseClubsModel" ⟨"ExpenseClubsModel", "divides", "()V"⟩ ⟨"ExpenseClubsModel", "divides", "()V"⟩ ∈ lw_tbl := List.mem_of_getElem? (i := 19) rfl
set_option maxRecDepth 100000 in
theorem ws_20 : Cond.selects "ExpenseClubsModel" ⟨"ExpenseClubsModel", "least", "(I)I"⟩ ⟨"ExpenseClubsModel", "least", "(I)I"⟩ ∈ lw_tbl := List.mem_of_getElem? (i := 20) rfl
set_option maxRecDepth 100000 in
theorem ws_21 : Cond.selects "ExpenseClubsModel" ⟨"ExpenseClubsModel", "moves", "(II)V"⟩ ⟨"ExpenseClubsModel", "moves", "(II)V"⟩ ∈ lw_tbl := List.mem_of_getElem? (i := 21) rfl
set_option maxRecDepth 100000 in
theorem ws_22 : Cond.selects "ExpenseClubsModel" ⟨"ExpenseClubsModel", "isTransfer", "(II)Z"⟩ ⟨"ExpenseClubsModel", "isTransfer", "(II)Z"⟩ ∈ lw_tbl := List.mem_of_getElem? (i := 22) rfl
set_option maxRecDepth 100000 in
theorem ws_23 : Cond.selects "ExpenseClubsModel" ⟨"ExpenseClubsModel", "unticked", "(I)I"⟩ ⟨"ExpenseClubsModel", "unticked", "(I)I"⟩ ∈ lw_tbl := List.mem_of_getElem? (i := 23) rfl
end
section
/-! GHOST WORLDS: a world is a function from NAMES (numbers of my own) to cells; 'ad' says at which address a named cell lies. -/
abbrev gW : Type := Nat → Option va_E
def gup (u : gW) (n : Nat) (e : va_E) : gW := fun k => if k = n then some e else u k
theorem gup_self (u : gW) (n : Nat) (e : va_E) : gup u n e n = some e := if_pos rfl
theorem gup_ne {u : gW} {n k : Nat} {e : va_E} (h : k ≠ n) : gup u n e k = u k := if_neg h
def gP (E : gE) (ad : Nat → Nat) (u : gW) (H : Heap) : Prop := (∀ (n : Nat) (e : va_E), u n = some e → va_at E.1 E.2.1 (ad n, e) H) ∧ ∀ n k : Nat, u n ≠ none → u k ≠ none → ad n = ad k → n = k
def gI (A : Nat → Prop) (ad : Nat → Nat) (u : gW) : Prop := ∀ n : Nat, u n ≠ none → A (ad n)
abbrev gZ : Type := Program × Launch × Env × State × MethodId × Array Value × List Frame × Method × Code × (Nat → Prop) × Heap × (State → Prop)
def gp (Z : gZ) : Program := Z.1
def gl (Z : gZ) : Launch := Z.2.1
def ge (Z : gZ) : Env := Z.2.2.1
def gs (Z : gZ) : State := Z.2.2.2.1
def gm (Z : gZ) : MethodId := Z.2.2.2.2.1
def ga (Z : gZ) : Array Value := Z.2.2.2.2.2.1
def gb (Z : gZ) : List Frame := Z.2.2.2.2.2.2.1
def gme (Z : gZ) : Method := Z.2.2.2.2.2.2.2.1
def gc (Z : gZ) : Code := Z.2.2.2.2.2.2.2.2.1
def gA (Z : gZ) : Nat → Prop := Z.2.2.2.2.2.2.2.2.2.1
def gH (Z : gZ) : Heap := Z.2.2.2.2.2.2.2.2.2.2.1
def gQ (Z : gZ) : State → Prop := Z.2.2.2.2.2.2.2.2.2.2.2
/-- the machine at pc with locals lv, operand stack st, the world u at addresses ad in a heap of size sz, comes to gQ Z -/
def GW (Z : gZ) (R : Room) (nL : Nat) (E : gE) (ad : Nat → Nat) (u : gW) (sz : Nat) (lv : List (Nat × Value)) (cells slots pc : Nat) (st : List Value) : Prop :=
  ∀ (H : Heap) (locs : List Loc) (ls : Array Slot), H.size = sz → gP E ad u H → gI (gA Z) ad u → va_S (gA Z) (gH Z) H locs → lv_has ls nL lv →
    W (gp Z) (gl Z) (ge Z) R (gs Z) (gm Z) (ga Z) (gb Z) (gme Z) (gc Z) H locs cells slots (gQ Z) (F0 (gm Z) pc ls st)
/-- what stays the same through a method -/
def gC (Z : gZ) (cc : ByteArray) (nL : Nat) (own : String) (Ts : List Cond) (E : gE) : Prop :=
  (gp Z).tables.exec = Jvm.exec ∧ (gc Z).code = cc ∧ (gc Z).maxLocals = nL ∧ (gs Z).vm.findClass own = some (gm Z).cls ∧ (∀ w ∈ Ts, w.before (ga Z) (gs Z) = true) ∧ va_K E.1 E.2.1 E.2.2 (gs Z) ∧ (∀ q : Nat, (gH Z).size ≤ q → gA Z q) ∧ (gme Z).locks = false
/-- which addresses a method may write -/
def gAd (ad : Nat → Nat) (u : gW) (sz : Nat) : Nat → Prop := fun q => (∃ n : Nat, u n ≠ none ∧ q = ad n) ∨ sz ≤ q
def gPre (E : gE) (ad : Nat → Nat) (u : gW) (sz : Nat) (U : State) : Prop := U.heap.size = sz ∧ gP E ad u U.heap ∧ va_K E.1 E.2.1 E.2.2 U
def gPost (E : gE) (ad : Nat → Nat) (A : Nat → Prop) (Post : Option Value → gW → Nat → Prop) : Array Value → State → Outcome → State → Prop := fun _ st oc t =>
  ∃ (v : Option Value) (u : gW) (sz : Nat), oc = .returned v ∧ Post v u sz ∧ t.heap.size = sz ∧ gP E ad u t.heap ∧ gI A ad u ∧ va_K E.1 E.2.1 E.2.2 t ∧ va_F A st t
/-- a contract: called with argsV in the world u at ad, heap of size sz, it returns with Post -/
def gMet (l : Launch) (E : gE) (y : MethodName) (cc : ByteArray) (maxL : Nat) (ret : Option FieldType) (rm : Room) (argsV : List Value) (ad : Nat → Nat) (u : gW) (sz : Nat) (Post : Option Value → gW → Nat → Prop) : Prop :=
  Met l y (Cond.code y cc maxL ret :: gT) rm (va_Pc argsV (gPre E ad u sz)) (gPost E ad (gAd ad u sz) Post) rm.cells rm.slots (gAd ad u sz)
/-- the end of a method: what gQ is -/
def gR (Z : gZ) (E : gE) (ad : Nat → Nat) (cells slots : Nat) (Post : Option Value → gW → Nat → Prop) : Prop :=
  gQ Z = MQ (gb Z) (gPost E ad (gA Z) Post) (ga Z) (gs Z) cells slots (gA Z) ∧ gH Z = (gs Z).heap
theorem gI_gAd {ad : Nat → Nat} {u : gW} {sz : Nat} : gI (gAd ad u sz) ad u := fun n h => Or.inl ⟨n, h, rfl⟩
theorem gMet_of {l : Launch} {E : gE} {y : MethodName} {rm : Room} {argsV : List Value} {ad : Nat → Nat} {u : gW} {sz : Nat} {Post : Option Value → gW → Nat → Prop} {cc : ByteArray} {maxL : Nat} {ret : Option FieldType}
    (own : String) (ho : y.cls = own) (hy : plainName y.cls = true) (hn : (lg_sl argsV).length ≤ maxL) {lv : List (Nat × Value)} (hlv : lv_args 0 argsV = lv)
    (body : ∀ Z : gZ, gl Z = l → gC Z cc maxL own gT E → gR Z E ad rm.cells rm.slots Post → (gme Z).sig.returnType = ret → (gme Z).name = y.name → GW Z rm maxL E ad u sz lv 0 0 0 []) : gMet l E y cc maxL ret rm argsV ad u sz Post := by
  refine Met.ofW (cc := cc) (maxL := maxL) (ret := ret) hy rfl ?_
  intro p e s m args below meth c s₁ B hml hv
  obtain ⟨rfl, hsz, hP, hK⟩ := hv
  have hts := atoms_spec (ws := Cond.code y cc maxL ret :: gT) B.pre
  have hown : s.vm.findClass y.cls = some m.cls := findClass_of_methodNamed B.named
  rw [ho] at hown
  have hname := (name_of_methodNamed B.named B.method).1
  have hl := lv_entry argsV (n := maxL) hn
  rw [lg_entry_eq]
  have hA : ∀ q : Nat, s.heap.size ≤ q → gAd ad u sz q := fun q h => Or.inr (by rw [← hsz]; exact h)
  have K := body (p, l, e, s, m, argsV.toArray, below, meth, c, gAd ad u sz, s.heap, MQ below (gPost E ad (gAd ad u sz) Post) argsV.toArray s rm.cells rm.slots (gAd ad u sz)) rfl
    ⟨B.exec, B.bytes, hml, hown, fun w h => hts w (List.mem_cons_of_mem _ h), hK, hA, B.notSynchronized⟩ ⟨rfl, rfl⟩ B.returns hname
  exact K s.heap [] _ hsz hP gI_gAd va_S.rf (by rw [← hlv]; exact hl)
end
section
section GR
variable {Z : gZ} {R : Room} {cc : ByteArray} {nL : Nat} {own : String} {Ts : List Cond} {E : gE} {ad : Nat → Nat} {u : gW} {sz : Nat} {lv : List (Nat × Value)} {cells slots pc : Nat} {st : List Value}
theorem g_iconst {n : Int} {v : Int32} (C : gC Z cc nL own Ts E) (hd : decode cc pc = .ok (.iconst n, 1)) (hv : Int32.ofInt n = v) (k : GW Z R nL E ad u sz lv cells slots (pc + 1) (.int v :: st)) : GW Z R nL E ad u sz lv cells slots pc st := fun H locs ls h1 h2 h3 h4 h5 => lv_iconst C.1 C.2.1 hd hv (k H locs ls h1 h2 h3 h4 h5)
theorem g_bipush {n : Int} {v : Int32} (C : gC Z cc nL own Ts E) (hd : decode cc pc = .ok (.bipush n, 2)) (hv : (Int8.ofInt n).toInt32 = v) (k : GW Z R nL E ad u sz lv cells slots (pc + 2) (.int v :: st)) : GW Z R nL E ad u sz lv cells slots pc st := fun H locs ls h1 h2 h3 h4 h5 => lv_bipush C.1 C.2.1 hd hv (k H locs ls h1 h2 h3 h4 h5)
theorem g_sipush {n : Int} {v : Int32} (C : gC Z cc nL own Ts E) (hd : decode cc pc = .ok (.sipush n, 3)) (hv : (Int16.ofInt n).toInt32 = v) (k : GW Z R nL E ad u sz lv cells slots (pc + 3) (.int v :: st)) : GW Z R nL E ad u sz lv cells slots pc st := fun H locs ls h1 h2 h3 h4 h5 => lv_sipush C.1 C.2.1 hd hv (k H locs ls h1 h2 h3 h4 h5)
theorem g_lconst {n : Fin 2} {v : Int64} (C : gC Z cc nL own Ts E) (hd : decode cc pc = .ok (.lconst n, 1)) (hv : Int64.ofNat (n : Nat) = v) (k : GW Z R nL E ad u sz lv cells slots (pc + 1) (.long v :: st)) : GW Z R nL E ad u sz lv cells slots pc st := fun H locs ls h1 h2 h3 h4 h5 => lv_lconst C.1 C.2.1 hd hv (k H locs ls h1 h2 h3 h4 h5)
theorem g_null  (C : gC Z cc nL own Ts E) (hd : decode cc pc = .ok (.aconst_null, 1))  (k : GW Z R nL E ad u sz lv cells slots (pc + 1) (.null :: st)) : GW Z R nL E ad u sz lv cells slots pc st := fun H locs ls h1 h2 h3 h4 h5 => lv_null C.1 C.2.1 hd  (k H locs ls h1 h2 h3 h4 h5)
theorem g_iload_n {j : Fin 4} {i : Nat} {x : Int32} (C : gC Z cc nL own Ts E) (hd : decode cc pc = .ok (.iload_n j, 1)) (hi : (j : Nat) = i) (q : Nat) (hq : lv[q]? = some (i, .int x)) (k : GW Z R nL E ad u sz lv cells slots (pc + 1) (.int x :: st)) : GW Z R nL E ad u sz lv cells slots pc st := fun H locs ls h1 h2 h3 h4 h5 => lv_iload_n C.1 C.2.1 hd hi (lv_at h5 q hq) (k H locs ls h1 h2 h3 h4 h5)
theorem g_iload {i : Nat} {x : Int32} (C : gC Z cc nL own Ts E) (hd : decode cc pc = .ok (.iload i, 2)) (q : Nat) (hq : lv[q]? = some (i, .int x)) (k : GW Z R nL E ad u sz lv cells slots (pc + 2) (.int x :: st)) : GW Z R nL E ad u sz lv cells slots pc st := fun H locs ls h1 h2 h3 h4 h5 => lv_iload C.1 C.2.1 hd (lv_at h5 q hq) (k H locs ls h1 h2 h3 h4 h5)
theorem g_lload_n {j : Fin 4} {i : Nat} {x : Int64} (C : gC Z cc nL own Ts E) (hd : decode cc pc = .ok (.lload_n j, 1)) (hi : (j : Nat) = i) (q : Nat) (hq : lv[q]? = some (i, .long x)) (k : GW Z R nL E ad u sz lv cells slots (pc + 1) (.long x :: st)) : GW Z R nL E ad u sz lv cells slots pc st := fun H locs ls h1 h2 h3 h4 h5 => lv_lload_n C.1 C.2.1 hd hi (lv_at h5 q hq) (k H locs ls h1 h2 h3 h4 h5)
theorem g_lload {i : Nat} {x : Int64} (C : gC Z cc nL own Ts E) (hd : decode cc pc = .ok (.lload i, 2)) (q : Nat) (hq : lv[q]? = some (i, .long x)) (k : GW Z R nL E ad u sz lv cells slots (pc + 2) (.long x :: st)) : GW Z R nL E ad u sz lv cells slots pc st := fun H locs ls h1 h2 h3 h4 h5 => lv_lload C.1 C.2.1 hd (lv_at h5 q hq) (k H locs ls h1 h2 h3 h4 h5)
theorem g_aload_n {j : Fin 4} {i : Nat} {x : Nat} (C : gC Z cc nL own Ts E) (hd : decode cc pc = .ok (.aload_n j, 1)) (hi : (j : Nat) = i) (q : Nat) (hq : lv[q]? = some (i, .ref x)) (k : GW Z R nL E ad u sz lv cells slots (pc + 1) (.ref x :: st)) : GW Z R nL E ad u sz lv cells slots pc st := fun H locs ls h1 h2 h3 h4 h5 => lv_aload_n C.1 C.2.1 hd hi (lv_at h5 q hq) (k H locs ls h1 h2 h3 h4 h5)
theorem g_aload {i : Nat} {x : Nat} (C : gC Z cc nL own Ts E) (hd : decode cc pc = .ok (.aload i, 2)) (q : Nat) (hq : lv[q]? = some (i, .ref x)) (k : GW Z R nL E ad u sz lv cells slots (pc + 2) (.ref x :: st)) : GW Z R nL E ad u sz lv cells slots pc st := fun H locs ls h1 h2 h3 h4 h5 => lv_aload C.1 C.2.1 hd (lv_at h5 q hq) (k H locs ls h1 h2 h3 h4 h5)
theorem g_aload_nN {j : Fin 4} {i : Nat} (C : gC Z cc nL own Ts E) (hd : decode cc pc = .ok (.aload_n j, 1)) (hi : (j : Nat) = i) (q : Nat) (hq : lv[q]? = some (i, .null)) (k : GW Z R nL E ad u sz lv cells slots (pc + 1) (.null :: st)) : GW Z R nL E ad u sz lv cells slots pc st := fun H locs ls h1 h2 h3 h4 h5 => lv_aload_nN C.1 C.2.1 hd hi (lv_at h5 q hq) (k H locs ls h1 h2 h3 h4 h5)
theorem g_aloadN {i : Nat} (C : gC Z cc nL own Ts E) (hd : decode cc pc = .ok (.aload i, 2)) (q : Nat) (hq : lv[q]? = some (i, .null)) (k : GW Z R nL E ad u sz lv cells slots (pc + 2) (.null :: st)) : GW Z R nL E ad u sz lv cells slots pc st := fun H locs ls h1 h2 h3 h4 h5 => lv_aloadN C.1 C.2.1 hd (lv_at h5 q hq) (k H locs ls h1 h2 h3 h4 h5)
theorem g_istore_n {j : Fin 4} {i : Nat} {x : Int32} (C : gC Z cc nL own Ts E) (hd : decode cc pc = .ok (.istore_n j, 1)) (hi : (j : Nat) = i) (lv' : List (Nat × Value)) (hn : i < nL) (hl : (i, Value.int x) :: lv.filter (fun q => !(q.1 == i) && !(q.1 + 1 == i && q.2.category == 2)) = lv') (k : GW Z R nL E ad u sz lv' cells slots (pc + 1) st) : GW Z R nL E ad u sz lv cells slots pc (Value.int x :: st) := fun H locs ls h1 h2 h3 h4 h5 => lv_istore_n C.1 C.2.1 hd hi h5 hn hl (fun ls' h5' => k H locs ls' h1 h2 h3 h4 h5')
theorem g_istore {i : Nat} {x : Int32} (C : gC Z cc nL own Ts E) (hd : decode cc pc = .ok (.istore i, 2))  (lv' : List (Nat × Value)) (hn : i < nL) (hl : (i, Value.int x) :: lv.filter (fun q => !(q.1 == i) && !(q.1 + 1 == i && q.2.category == 2)) = lv') (k : GW Z R nL E ad u sz lv' cells slots (pc + 2) st) : GW Z R nL E ad u sz lv cells slots pc (Value.int x :: st) := fun H locs ls h1 h2 h3 h4 h5 => lv_istore C.1 C.2.1 hd  h5 hn hl (fun ls' h5' => k H locs ls' h1 h2 h3 h4 h5')
theorem g_lstore_n {j : Fin 4} {i : Nat} {x : Int64} (C : gC Z cc nL own Ts E) (hd : decode cc pc = .ok (.lstore_n j, 1)) (hi : (j : Nat) = i) (lv' : List (Nat × Value)) (hn : i + 1 < nL) (hl : (i, Value.long x) :: lv.filter (fun q => !(q.1 == i) && (!(q.1 == i + 1) && !(q.1 + 1 == i && q.2.category == 2))) = lv') (k : GW Z R nL E ad u sz lv' cells slots (pc + 1) st) : GW Z R nL E ad u sz lv cells slots pc (Value.long x :: st) := fun H locs ls h1 h2 h3 h4 h5 => lv_lstore_n C.1 C.2.1 hd hi h5 hn hl (fun ls' h5' => k H locs ls' h1 h2 h3 h4 h5')
theorem g_lstore {i : Nat} {x : Int64} (C : gC Z cc nL own Ts E) (hd : decode cc pc = .ok (.lstore i, 2))  (lv' : List (Nat × Value)) (hn : i + 1 < nL) (hl : (i, Value.long x) :: lv.filter (fun q => !(q.1 == i) && (!(q.1 == i + 1) && !(q.1 + 1 == i && q.2.category == 2))) = lv') (k : GW Z R nL E ad u sz lv' cells slots (pc + 2) st) : GW Z R nL E ad u sz lv cells slots pc (Value.long x :: st) := fun H locs ls h1 h2 h3 h4 h5 => lv_lstore C.1 C.2.1 hd  h5 hn hl (fun ls' h5' => k H locs ls' h1 h2 h3 h4 h5')
theorem g_astore_n {j : Fin 4} {i : Nat} {x : Nat} (C : gC Z cc nL own Ts E) (hd : decode cc pc = .ok (.astore_n j, 1)) (hi : (j : Nat) = i) (lv' : List (Nat × Value)) (hn : i < nL) (hl : (i, Value.ref x) :: lv.filter (fun q => !(q.1 == i) && !(q.1 + 1 == i && q.2.category == 2)) = lv') (k : GW Z R nL E ad u sz lv' cells slots (pc + 1) st) : GW Z R nL E ad u sz lv cells slots pc (Value.ref x :: st) := fun H locs ls h1 h2 h3 h4 h5 => lv_astore_n C.1 C.2.1 hd hi h5 hn hl (fun ls' h5' => k H locs ls' h1 h2 h3 h4 h5')
theorem g_astore {i : Nat} {x : Nat} (C : gC Z cc nL own Ts E) (hd : decode cc pc = .ok (.astore i, 2))  (lv' : List (Nat × Value)) (hn : i < nL) (hl : (i, Value.ref x) :: lv.filter (fun q => !(q.1 == i) && !(q.1 + 1 == i && q.2.category == 2)) = lv') (k : GW Z R nL E ad u sz lv' cells slots (pc + 2) st) : GW Z R nL E ad u sz lv cells slots pc (Value.ref x :: st) := fun H locs ls h1 h2 h3 h4 h5 => lv_astore C.1 C.2.1 hd  h5 hn hl (fun ls' h5' => k H locs ls' h1 h2 h3 h4 h5')
theorem g_astore_nN {j : Fin 4} {i : Nat} (C : gC Z cc nL own Ts E) (hd : decode cc pc = .ok (.astore_n j, 1)) (hi : (j : Nat) = i) (lv' : List (Nat × Value)) (hn : i < nL) (hl : (i, Value.null) :: lv.filter (fun q => !(q.1 == i) && !(q.1 + 1 == i && q.2.category == 2)) = lv') (k : GW Z R nL E ad u sz lv' cells slots (pc + 1) st) : GW Z R nL E ad u sz lv cells slots pc (Value.null :: st) := fun H locs ls h1 h2 h3 h4 h5 => lv_astore_nN C.1 C.2.1 hd hi h5 hn hl (fun ls' h5' => k H locs ls' h1 h2 h3 h4 h5')
theorem g_astoreN {i : Nat} (C : gC Z cc nL own Ts E) (hd : decode cc pc = .ok (.astore i, 2))  (lv' : List (Nat × Value)) (hn : i < nL) (hl : (i, Value.null) :: lv.filter (fun q => !(q.1 == i) && !(q.1 + 1 == i && q.2.category == 2)) = lv') (k : GW Z R nL E ad u sz lv' cells slots (pc + 2) st) : GW Z R nL E ad u sz lv cells slots pc (Value.null :: st) := fun H locs ls h1 h2 h3 h4 h5 => lv_astoreN C.1 C.2.1 hd  h5 hn hl (fun ls' h5' => k H locs ls' h1 h2 h3 h4 h5')
theorem g_iinc {i : Nat} {n : Int} {x v : Int32} (C : gC Z cc nL own Ts E) (hd : decode cc pc = .ok (.iinc i n, 3)) (q : Nat) (hq : lv[q]? = some (i, .int x)) (hv : x + Int32.ofInt n = v) (lv' : List (Nat × Value)) (hn : i < nL) (hl : (i, Value.int v) :: lv.filter (fun q => !(q.1 == i) && !(q.1 + 1 == i && q.2.category == 2)) = lv') (k : GW Z R nL E ad u sz lv' cells slots (pc + 3) st) : GW Z R nL E ad u sz lv cells slots pc st := fun H locs ls h1 h2 h3 h4 h5 => lv_iinc C.1 C.2.1 hd h5 hq hv hn hl (fun ls' h5' => k H locs ls' h1 h2 h3 h4 h5')
theorem g_iadd {x y : Int32} (C : gC Z cc nL own Ts E) (hd : decode cc pc = .ok (.iadd, 1))  (k : GW Z R nL E ad u sz lv cells slots (pc + 1) (.int (x + y) :: st)) : GW Z R nL E ad u sz lv cells slots pc (.int y :: .int x :: st) := fun H locs ls h1 h2 h3 h4 h5 => lv_iadd C.1 C.2.1 hd  (k H locs ls h1 h2 h3 h4 h5)
theorem g_isub {x y : Int32} (C : gC Z cc nL own Ts E) (hd : decode cc pc = .ok (.isub, 1))  (k : GW Z R nL E ad u sz lv cells slots (pc + 1) (.int (x - y) :: st)) : GW Z R nL E ad u sz lv cells slots pc (.int y :: .int x :: st) := fun H locs ls h1 h2 h3 h4 h5 => lv_isub C.1 C.2.1 hd  (k H locs ls h1 h2 h3 h4 h5)
theorem g_imul {x y : Int32} (C : gC Z cc nL own Ts E) (hd : decode cc pc = .ok (.imul, 1))  (k : GW Z R nL E ad u sz lv cells slots (pc + 1) (.int (x * y) :: st)) : GW Z R nL E ad u sz lv cells slots pc (.int y :: .int x :: st) := fun H locs ls h1 h2 h3 h4 h5 => lv_imul C.1 C.2.1 hd  (k H locs ls h1 h2 h3 h4 h5)
theorem g_iand {x y : Int32} (C : gC Z cc nL own Ts E) (hd : decode cc pc = .ok (.iand, 1))  (k : GW Z R nL E ad u sz lv cells slots (pc + 1) (.int (x &&& y) :: st)) : GW Z R nL E ad u sz lv cells slots pc (.int y :: .int x :: st) := fun H locs ls h1 h2 h3 h4 h5 => lv_iand C.1 C.2.1 hd  (k H locs ls h1 h2 h3 h4 h5)
theorem g_ior {x y : Int32} (C : gC Z cc nL own Ts E) (hd : decode cc pc = .ok (.ior, 1))  (k : GW Z R nL E ad u sz lv cells slots (pc + 1) (.int (x ||| y) :: st)) : GW Z R nL E ad u sz lv cells slots pc (.int y :: .int x :: st) := fun H locs ls h1 h2 h3 h4 h5 => lv_ior C.1 C.2.1 hd  (k H locs ls h1 h2 h3 h4 h5)
theorem g_ixor {x y : Int32} (C : gC Z cc nL own Ts E) (hd : decode cc pc = .ok (.ixor, 1))  (k : GW Z R nL E ad u sz lv cells slots (pc + 1) (.int (x ^^^ y) :: st)) : GW Z R nL E ad u sz lv cells slots pc (.int y :: .int x :: st) := fun H locs ls h1 h2 h3 h4 h5 => lv_ixor C.1 C.2.1 hd  (k H locs ls h1 h2 h3 h4 h5)
theorem g_ishl {x y : Int32} (C : gC Z cc nL own Ts E) (hd : decode cc pc = .ok (.ishl, 1))  (k : GW Z R nL E ad u sz lv cells slots (pc + 1) (.int (x <<< (y &&& 31)) :: st)) : GW Z R nL E ad u sz lv cells slots pc (.int y :: .int x :: st) := fun H locs ls h1 h2 h3 h4 h5 => lv_ishl C.1 C.2.1 hd  (k H locs ls h1 h2 h3 h4 h5)
theorem g_ishr {x y : Int32} (C : gC Z cc nL own Ts E) (hd : decode cc pc = .ok (.ishr, 1))  (k : GW Z R nL E ad u sz lv cells slots (pc + 1) (.int (x >>> (y &&& 31)) :: st)) : GW Z R nL E ad u sz lv cells slots pc (.int y :: .int x :: st) := fun H locs ls h1 h2 h3 h4 h5 => lv_ishr C.1 C.2.1 hd  (k H locs ls h1 h2 h3 h4 h5)
theorem g_idiv {x y : Int32} (C : gC Z cc nL own Ts E) (hd : decode cc pc = .ok (.idiv, 1)) (hne : ¬ y = 0) (k : GW Z R nL E ad u sz lv cells slots (pc + 1) (.int (x / y) :: st)) : GW Z R nL E ad u sz lv cells slots pc (.int y :: .int x :: st) := fun H locs ls h1 h2 h3 h4 h5 => lv_idiv C.1 C.2.1 hd hne (k H locs ls h1 h2 h3 h4 h5)
theorem g_irem {x y : Int32} (C : gC Z cc nL own Ts E) (hd : decode cc pc = .ok (.irem, 1)) (hne : ¬ y = 0) (k : GW Z R nL E ad u sz lv cells slots (pc + 1) (.int (x - x / y * y) :: st)) : GW Z R nL E ad u sz lv cells slots pc (.int y :: .int x :: st) := fun H locs ls h1 h2 h3 h4 h5 => lv_irem C.1 C.2.1 hd hne (k H locs ls h1 h2 h3 h4 h5)
theorem g_ineg {x : Int32} (C : gC Z cc nL own Ts E) (hd : decode cc pc = .ok (.ineg, 1))  (k : GW Z R nL E ad u sz lv cells slots (pc + 1) (.int (-x) :: st)) : GW Z R nL E ad u sz lv cells slots pc (.int x :: st) := fun H locs ls h1 h2 h3 h4 h5 => lv_ineg C.1 C.2.1 hd  (k H locs ls h1 h2 h3 h4 h5)
theorem g_ladd {x y : Int64} (C : gC Z cc nL own Ts E) (hd : decode cc pc = .ok (.ladd, 1))  (k : GW Z R nL E ad u sz lv cells slots (pc + 1) (.long (x + y) :: st)) : GW Z R nL E ad u sz lv cells slots pc (.long y :: .long x :: st) := fun H locs ls h1 h2 h3 h4 h5 => lv_ladd C.1 C.2.1 hd  (k H locs ls h1 h2 h3 h4 h5)
theorem g_lsub {x y : Int64} (C : gC Z cc nL own Ts E) (hd : decode cc pc = .ok (.lsub, 1))  (k : GW Z R nL E ad u sz lv cells slots (pc + 1) (.long (x - y) :: st)) : GW Z R nL E ad u sz lv cells slots pc (.long y :: .long x :: st) := fun H locs ls h1 h2 h3 h4 h5 => lv_lsub C.1 C.2.1 hd  (k H locs ls h1 h2 h3 h4 h5)
theorem g_lmul {x y : Int64} (C : gC Z cc nL own Ts E) (hd : decode cc pc = .ok (.lmul, 1))  (k : GW Z R nL E ad u sz lv cells slots (pc + 1) (.long (x * y) :: st)) : GW Z R nL E ad u sz lv cells slots pc (.long y :: .long x :: st) := fun H locs ls h1 h2 h3 h4 h5 => lv_lmul C.1 C.2.1 hd  (k H locs ls h1 h2 h3 h4 h5)
theorem g_land {x y : Int64} (C : gC Z cc nL own Ts E) (hd : decode cc pc = .ok (.land, 1))  (k : GW Z R nL E ad u sz lv cells slots (pc + 1) (.long (x &&& y) :: st)) : GW Z R nL E ad u sz lv cells slots pc (.long y :: .long x :: st) := fun H locs ls h1 h2 h3 h4 h5 => lv_land C.1 C.2.1 hd  (k H locs ls h1 h2 h3 h4 h5)
theorem g_lor {x y : Int64} (C : gC Z cc nL own Ts E) (hd : decode cc pc = .ok (.lor, 1))  (k : GW Z R nL E ad u sz lv cells slots (pc + 1) (.long (x ||| y) :: st)) : GW Z R nL E ad u sz lv cells slots pc (.long y :: .long x :: st) := fun H locs ls h1 h2 h3 h4 h5 => lv_lor C.1 C.2.1 hd  (k H locs ls h1 h2 h3 h4 h5)
theorem g_lxor {x y : Int64} (C : gC Z cc nL own Ts E) (hd : decode cc pc = .ok (.lxor, 1))  (k : GW Z R nL E ad u sz lv cells slots (pc + 1) (.long (x ^^^ y) :: st)) : GW Z R nL E ad u sz lv cells slots pc (.long y :: .long x :: st) := fun H locs ls h1 h2 h3 h4 h5 => lv_lxor C.1 C.2.1 hd  (k H locs ls h1 h2 h3 h4 h5)
theorem g_ldiv {x y : Int64} (C : gC Z cc nL own Ts E) (hd : decode cc pc = .ok (.ldiv, 1)) (hne : ¬ y = 0) (k : GW Z R nL E ad u sz lv cells slots (pc + 1) (.long (x / y) :: st)) : GW Z R nL E ad u sz lv cells slots pc (.long y :: .long x :: st) := fun H locs ls h1 h2 h3 h4 h5 => lv_ldiv C.1 C.2.1 hd hne (k H locs ls h1 h2 h3 h4 h5)
theorem g_lrem {x y : Int64} (C : gC Z cc nL own Ts E) (hd : decode cc pc = .ok (.lrem, 1)) (hne : ¬ y = 0) (k : GW Z R nL E ad u sz lv cells slots (pc + 1) (.long (x - x / y * y) :: st)) : GW Z R nL E ad u sz lv cells slots pc (.long y :: .long x :: st) := fun H locs ls h1 h2 h3 h4 h5 => lv_lrem C.1 C.2.1 hd hne (k H locs ls h1 h2 h3 h4 h5)
theorem g_lneg {x : Int64} (C : gC Z cc nL own Ts E) (hd : decode cc pc = .ok (.lneg, 1))  (k : GW Z R nL E ad u sz lv cells slots (pc + 1) (.long (-x) :: st)) : GW Z R nL E ad u sz lv cells slots pc (.long x :: st) := fun H locs ls h1 h2 h3 h4 h5 => lv_lneg C.1 C.2.1 hd  (k H locs ls h1 h2 h3 h4 h5)
theorem g_i2l {x : Int32} (C : gC Z cc nL own Ts E) (hd : decode cc pc = .ok (.i2l, 1))  (k : GW Z R nL E ad u sz lv cells slots (pc + 1) (.long x.toInt64 :: st)) : GW Z R nL E ad u sz lv cells slots pc (.int x :: st) := fun H locs ls h1 h2 h3 h4 h5 => lv_i2l C.1 C.2.1 hd rfl (k H locs ls h1 h2 h3 h4 h5)
theorem g_l2i {x : Int64} (C : gC Z cc nL own Ts E) (hd : decode cc pc = .ok (.l2i, 1))  (k : GW Z R nL E ad u sz lv cells slots (pc + 1) (.int x.toInt32 :: st)) : GW Z R nL E ad u sz lv cells slots pc (.long x :: st) := fun H locs ls h1 h2 h3 h4 h5 => lv_l2i C.1 C.2.1 hd rfl (k H locs ls h1 h2 h3 h4 h5)
theorem g_lshl {x : Int64} {y : Int32} (C : gC Z cc nL own Ts E) (hd : decode cc pc = .ok (.lshl, 1))  (k : GW Z R nL E ad u sz lv cells slots (pc + 1) (.long (x <<< (y.toInt64 &&& 63)) :: st)) : GW Z R nL E ad u sz lv cells slots pc (.int y :: .long x :: st) := fun H locs ls h1 h2 h3 h4 h5 => lv_lshl C.1 C.2.1 hd rfl (k H locs ls h1 h2 h3 h4 h5)
theorem g_lshr {x : Int64} {y : Int32} (C : gC Z cc nL own Ts E) (hd : decode cc pc = .ok (.lshr, 1))  (k : GW Z R nL E ad u sz lv cells slots (pc + 1) (.long (x >>> (y.toInt64 &&& 63)) :: st)) : GW Z R nL E ad u sz lv cells slots pc (.int y :: .long x :: st) := fun H locs ls h1 h2 h3 h4 h5 => lv_lshr C.1 C.2.1 hd rfl (k H locs ls h1 h2 h3 h4 h5)
theorem g_iushr {x y : Int32} (C : gC Z cc nL own Ts E) (hd : decode cc pc = .ok (.iushr, 1))  (k : GW Z R nL E ad u sz lv cells slots (pc + 1) (.int (x.toUInt32 >>> (y.toUInt32 &&& Int32.toUInt32 31)).toInt32 :: st)) : GW Z R nL E ad u sz lv cells slots pc (.int y :: .int x :: st) := fun H locs ls h1 h2 h3 h4 h5 => lv_iushr C.1 C.2.1 hd rfl (k H locs ls h1 h2 h3 h4 h5)
theorem g_lushr {x : Int64} {y : Int32} (C : gC Z cc nL own Ts E) (hd : decode cc pc = .ok (.lushr, 1))  (k : GW Z R nL E ad u sz lv cells slots (pc + 1) (.long (x.toUInt64 >>> (y.toInt64.toUInt64 &&& Int64.toUInt64 63)).toInt64 :: st)) : GW Z R nL E ad u sz lv cells slots pc (.int y :: .long x :: st) := fun H locs ls h1 h2 h3 h4 h5 => lv_lushr C.1 C.2.1 hd rfl (k H locs ls h1 h2 h3 h4 h5)
theorem g_dup {a : Value} (C : gC Z cc nL own Ts E) (hd : decode cc pc = .ok (.dup, 1)) (ha : a.category = 1) (k : GW Z R nL E ad u sz lv cells slots (pc + 1) (a :: a :: st)) : GW Z R nL E ad u sz lv cells slots pc (a :: st) := fun H locs ls h1 h2 h3 h4 h5 => lv_dup C.1 C.2.1 hd ha (k H locs ls h1 h2 h3 h4 h5)
theorem g_pop {a : Value} (C : gC Z cc nL own Ts E) (hd : decode cc pc = .ok (.pop, 1)) (ha : a.category = 1) (k : GW Z R nL E ad u sz lv cells slots (pc + 1) st) : GW Z R nL E ad u sz lv cells slots pc (a :: st) := fun H locs ls h1 h2 h3 h4 h5 => lv_pop C.1 C.2.1 hd ha (k H locs ls h1 h2 h3 h4 h5)
theorem g_pop2_2 {a : Value} (C : gC Z cc nL own Ts E) (hd : decode cc pc = .ok (.pop2, 1)) (ha : a.category = 2) (k : GW Z R nL E ad u sz lv cells slots (pc + 1) st) : GW Z R nL E ad u sz lv cells slots pc (a :: st) := fun H locs ls h1 h2 h3 h4 h5 => lv_pop2_2 C.1 C.2.1 hd ha (k H locs ls h1 h2 h3 h4 h5)
theorem g_dup_x1 {a b : Value} (C : gC Z cc nL own Ts E) (hd : decode cc pc = .ok (.dup_x1, 1)) (ha : a.category = 1) (hb : b.category = 1) (k : GW Z R nL E ad u sz lv cells slots (pc + 1) (a :: b :: a :: st)) : GW Z R nL E ad u sz lv cells slots pc (a :: b :: st) := fun H locs ls h1 h2 h3 h4 h5 => lv_dup_x1 C.1 C.2.1 hd ha hb (k H locs ls h1 h2 h3 h4 h5)
theorem g_dup_x2 {a b d : Value} (C : gC Z cc nL own Ts E) (hd : decode cc pc = .ok (.dup_x2, 1)) (ha : a.category = 1) (hb : b.category = 1) (hd' : d.category = 1) (k : GW Z R nL E ad u sz lv cells slots (pc + 1) (a :: b :: d :: a :: st)) : GW Z R nL E ad u sz lv cells slots pc (a :: b :: d :: st) := fun H locs ls h1 h2 h3 h4 h5 => lv_dup_x2 C.1 C.2.1 hd ha hb hd' (k H locs ls h1 h2 h3 h4 h5)
theorem g_dup2_11 {a b : Value} (C : gC Z cc nL own Ts E) (hd : decode cc pc = .ok (.dup2, 1)) (ha : a.category = 1) (hb : b.category = 1) (k : GW Z R nL E ad u sz lv cells slots (pc + 1) (a :: b :: a :: b :: st)) : GW Z R nL E ad u sz lv cells slots pc (a :: b :: st) := fun H locs ls h1 h2 h3 h4 h5 => lv_dup2_11 C.1 C.2.1 hd ha hb (k H locs ls h1 h2 h3 h4 h5)
theorem g_dup2_2 {a : Value} (C : gC Z cc nL own Ts E) (hd : decode cc pc = .ok (.dup2, 1)) (ha : a.category = 2) (k : GW Z R nL E ad u sz lv cells slots (pc + 1) (a :: a :: st)) : GW Z R nL E ad u sz lv cells slots pc (a :: st) := fun H locs ls h1 h2 h3 h4 h5 => lv_dup2_2 C.1 C.2.1 hd ha (k H locs ls h1 h2 h3 h4 h5)
theorem g_dup2_x1_2 {a b : Value} (C : gC Z cc nL own Ts E) (hd : decode cc pc = .ok (.dup2_x1, 1)) (ha : a.category = 2) (hb : b.category = 1) (k : GW Z R nL E ad u sz lv cells slots (pc + 1) (a :: b :: a :: st)) : GW Z R nL E ad u sz lv cells slots pc (a :: b :: st) := fun H locs ls h1 h2 h3 h4 h5 => lv_dup2_x1_2 C.1 C.2.1 hd ha hb (k H locs ls h1 h2 h3 h4 h5)
theorem g_dup2_x2_2 {a b d : Value} (C : gC Z cc nL own Ts E) (hd : decode cc pc = .ok (.dup2_x2, 1)) (ha : a.category = 2) (hb : b.category = 1) (hd' : d.category = 1) (k : GW Z R nL E ad u sz lv cells slots (pc + 1) (a :: b :: d :: a :: st)) : GW Z R nL E ad u sz lv cells slots pc (a :: b :: d :: st) := fun H locs ls h1 h2 h3 h4 h5 => lv_dup2_x2_2 C.1 C.2.1 hd ha hb hd' (k H locs ls h1 h2 h3 h4 h5)
theorem g_lcmp {x y : Int64} (C : gC Z cc nL own Ts E) (hd : decode cc pc = .ok (.lcmp, 1)) (k : GW Z R nL E ad u sz lv cells slots (pc + 1) (.int (lg_cmp x y) :: st)) : GW Z R nL E ad u sz lv cells slots pc (.long y :: .long x :: st) := fun H locs ls h1 h2 h3 h4 h5 => W.lcmp C.1 C.2.1 hd (k H locs ls h1 h2 h3 h4 h5)
theorem g_if_eq {x : Int32} {off : Int} (tgt : Nat) (C : gC Z cc nL own Ts E) (hd : decode cc pc = .ok (.ifCond .eq off, 3)) (ht : (pc : Int) + off = (tgt : Int)) (kt : x = 0 → GW Z R nL E ad u sz lv cells slots tgt st) (kf : ¬ x = 0 → GW Z R nL E ad u sz lv cells slots (pc + 3) st) : GW Z R nL E ad u sz lv cells slots pc (.int x :: st) := fun H locs ls h1 h2 h3 h4 h5 => lv_if_eq C.1 C.2.1 hd ht (fun h => kt h H locs ls h1 h2 h3 h4 h5) (fun h => kf h H locs ls h1 h2 h3 h4 h5)
theorem g_icmp_eq {x y : Int32} {off : Int} (tgt : Nat) (C : gC Z cc nL own Ts E) (hd : decode cc pc = .ok (.if_icmp .eq off, 3)) (ht : (pc : Int) + off = (tgt : Int)) (kt : x = y → GW Z R nL E ad u sz lv cells slots tgt st) (kf : ¬ x = y → GW Z R nL E ad u sz lv cells slots (pc + 3) st) : GW Z R nL E ad u sz lv cells slots pc (.int y :: .int x :: st) := fun H locs ls h1 h2 h3 h4 h5 => lv_icmp_eq C.1 C.2.1 hd ht (fun h => kt h H locs ls h1 h2 h3 h4 h5) (fun h => kf h H locs ls h1 h2 h3 h4 h5)
theorem g_if_ne {x : Int32} {off : Int} (tgt : Nat) (C : gC Z cc nL own Ts E) (hd : decode cc pc = .ok (.ifCond .ne off, 3)) (ht : (pc : Int) + off = (tgt : Int)) (kt : ¬ x = 0 → GW Z R nL E ad u sz lv cells slots tgt st) (kf : x = 0 → GW Z R nL E ad u sz lv cells slots (pc + 3) st) : GW Z R nL E ad u sz lv cells slots pc (.int x :: st) := fun H locs ls h1 h2 h3 h4 h5 => lv_if_ne C.1 C.2.1 hd ht (fun h => kt h H locs ls h1 h2 h3 h4 h5) (fun h => kf h H locs ls h1 h2 h3 h4 h5)
theorem g_icmp_ne {x y : Int32} {off : Int} (tgt : Nat) (C : gC Z cc nL own Ts E) (hd : decode cc pc = .ok (.if_icmp .ne off, 3)) (ht : (pc : Int) + off = (tgt : Int)) (kt : ¬ x = y → GW Z R nL E ad u sz lv cells slots tgt st) (kf : x = y → GW Z R nL E ad u sz lv cells slots (pc + 3) st) : GW Z R nL E ad u sz lv cells slots pc (.int y :: .int x :: st) := fun H locs ls h1 h2 h3 h4 h5 => lv_icmp_ne C.1 C.2.1 hd ht (fun h => kt h H locs ls h1 h2 h3 h4 h5) (fun h => kf h H locs ls h1 h2 h3 h4 h5)
theorem g_if_lt {x : Int32} {off : Int} (tgt : Nat) (C : gC Z cc nL own Ts E) (hd : decode cc pc = .ok (.ifCond .lt off, 3)) (ht : (pc : Int) + off = (tgt : Int)) (kt : x < 0 → GW Z R nL E ad u sz lv cells slots tgt st) (kf : ¬ x < 0 → GW Z R nL E ad u sz lv cells slots (pc + 3) st) : GW Z R nL E ad u sz lv cells slots pc (.int x :: st) := fun H locs ls h1 h2 h3 h4 h5 => lv_if_lt C.1 C.2.1 hd ht (fun h => kt h H locs ls h1 h2 h3 h4 h5) (fun h => kf h H locs ls h1 h2 h3 h4 h5)
theorem g_icmp_lt {x y : Int32} {off : Int} (tgt : Nat) (C : gC Z cc nL own Ts E) (hd : decode cc pc = .ok (.if_icmp .lt off, 3)) (ht : (pc : Int) + off = (tgt : Int)) (kt : x < y → GW Z R nL E ad u sz lv cells slots tgt st) (kf : ¬ x < y → GW Z R nL E ad u sz lv cells slots (pc + 3) st) : GW Z R nL E ad u sz lv cells slots pc (.int y :: .int x :: st) := fun H locs ls h1 h2 h3 h4 h5 => lv_icmp_lt C.1 C.2.1 hd ht (fun h => kt h H locs ls h1 h2 h3 h4 h5) (fun h => kf h H locs ls h1 h2 h3 h4 h5)
theorem g_if_ge {x : Int32} {off : Int} (tgt : Nat) (C : gC Z cc nL own Ts E) (hd : decode cc pc = .ok (.ifCond .ge off, 3)) (ht : (pc : Int) + off = (tgt : Int)) (kt : 0 ≤ x → GW Z R nL E ad u sz lv cells slots tgt st) (kf : ¬ 0 ≤ x → GW Z R nL E ad u sz lv cells slots (pc + 3) st) : GW Z R nL E ad u sz lv cells slots pc (.int x :: st) := fun H locs ls h1 h2 h3 h4 h5 => lv_if_ge C.1 C.2.1 hd ht (fun h => kt h H locs ls h1 h2 h3 h4 h5) (fun h => kf h H locs ls h1 h2 h3 h4 h5)
theorem g_icmp_ge {x y : Int32} {off : Int} (tgt : Nat) (C : gC Z cc nL own Ts E) (hd : decode cc pc = .ok (.if_icmp .ge off, 3)) (ht : (pc : Int) + off = (tgt : Int)) (kt : y ≤ x → GW Z R nL E ad u sz lv cells slots tgt st) (kf : ¬ y ≤ x → GW Z R nL E ad u sz lv cells slots (pc + 3) st) : GW Z R nL E ad u sz lv cells slots pc (.int y :: .int x :: st) := fun H locs ls h1 h2 h3 h4 h5 => lv_icmp_ge C.1 C.2.1 hd ht (fun h => kt h H locs ls h1 h2 h3 h4 h5) (fun h => kf h H locs ls h1 h2 h3 h4 h5)
theorem g_if_gt {x : Int32} {off : Int} (tgt : Nat) (C : gC Z cc nL own Ts E) (hd : decode cc pc = .ok (.ifCond .gt off, 3)) (ht : (pc : Int) + off = (tgt : Int)) (kt : 0 < x → GW Z R nL E ad u sz lv cells slots tgt st) (kf : ¬ 0 < x → GW Z R nL E ad u sz lv cells slots (pc + 3) st) : GW Z R nL E ad u sz lv cells slots pc (.int x :: st) := fun H locs ls h1 h2 h3 h4 h5 => lv_if_gt C.1 C.2.1 hd ht (fun h => kt h H locs ls h1 h2 h3 h4 h5) (fun h => kf h H locs ls h1 h2 h3 h4 h5)
theorem g_icmp_gt {x y : Int32} {off : Int} (tgt : Nat) (C : gC Z cc nL own Ts E) (hd : decode cc pc = .ok (.if_icmp .gt off, 3)) (ht : (pc : Int) + off = (tgt : Int)) (kt : y < x → GW Z R nL E ad u sz lv cells slots tgt st) (kf : ¬ y < x → GW Z R nL E ad u sz lv cells slots (pc + 3) st) : GW Z R nL E ad u sz lv cells slots pc (.int y :: .int x :: st) := fun H locs ls h1 h2 h3 h4 h5 => lv_icmp_gt C.1 C.2.1 hd ht (fun h => kt h H locs ls h1 h2 h3 h4 h5) (fun h => kf h H locs ls h1 h2 h3 h4 h5)
theorem g_if_le {x : Int32} {off : Int} (tgt : Nat) (C : gC Z cc nL own Ts E) (hd : decode cc pc = .ok (.ifCond .le off, 3)) (ht : (pc : Int) + off = (tgt : Int)) (kt : x ≤ 0 → GW Z R nL E ad u sz lv cells slots tgt st) (kf : ¬ x ≤ 0 → GW Z R nL E ad u sz lv cells slots (pc + 3) st) : GW Z R nL E ad u sz lv cells slots pc (.int x :: st) := fun H locs ls h1 h2 h3 h4 h5 => lv_if_le C.1 C.2.1 hd ht (fun h => kt h H locs ls h1 h2 h3 h4 h5) (fun h => kf h H locs ls h1 h2 h3 h4 h5)
theorem g_icmp_le {x y : Int32} {off : Int} (tgt : Nat) (C : gC Z cc nL own Ts E) (hd : decode cc pc = .ok (.if_icmp .le off, 3)) (ht : (pc : Int) + off = (tgt : Int)) (kt : x ≤ y → GW Z R nL E ad u sz lv cells slots tgt st) (kf : ¬ x ≤ y → GW Z R nL E ad u sz lv cells slots (pc + 3) st) : GW Z R nL E ad u sz lv cells slots pc (.int y :: .int x :: st) := fun H locs ls h1 h2 h3 h4 h5 => lv_icmp_le C.1 C.2.1 hd ht (fun h => kt h H locs ls h1 h2 h3 h4 h5) (fun h => kf h H locs ls h1 h2 h3 h4 h5)
theorem g_goto {off : Int} (tgt : Nat) (C : gC Z cc nL own Ts E) (hd : decode cc pc = .ok (.goto off, 3)) (ht : (pc : Int) + off = (tgt : Int)) (k : GW Z R nL E ad u sz lv cells slots tgt st) : GW Z R nL E ad u sz lv cells slots pc st := fun H locs ls h1 h2 h3 h4 h5 => lv_goto C.1 C.2.1 hd ht (k H locs ls h1 h2 h3 h4 h5)
theorem g_ifnonnull {x : Nat} {off : Int} (tgt : Nat) (C : gC Z cc nL own Ts E) (hd : decode cc pc = .ok (.ifnonnull off, 3)) (ht : (pc : Int) + off = (tgt : Int)) (k : GW Z R nL E ad u sz lv cells slots tgt st) : GW Z R nL E ad u sz lv cells slots pc (.ref x :: st) := fun H locs ls h1 h2 h3 h4 h5 => lv_ifnonnull C.1 C.2.1 hd ht (k H locs ls h1 h2 h3 h4 h5)
theorem g_ifnonnullN {off : Int} (C : gC Z cc nL own Ts E) (hd : decode cc pc = .ok (.ifnonnull off, 3)) (k : GW Z R nL E ad u sz lv cells slots (pc + 3) st) : GW Z R nL E ad u sz lv cells slots pc (.null :: st) := fun H locs ls h1 h2 h3 h4 h5 => lv_ifnonnullN C.1 C.2.1 hd (k H locs ls h1 h2 h3 h4 h5)
theorem g_ifnull {x : Nat} {off : Int} (C : gC Z cc nL own Ts E) (hd : decode cc pc = .ok (.ifnull off, 3)) (k : GW Z R nL E ad u sz lv cells slots (pc + 3) st) : GW Z R nL E ad u sz lv cells slots pc (.ref x :: st) := fun H locs ls h1 h2 h3 h4 h5 => lv_ifnull C.1 C.2.1 hd (k H locs ls h1 h2 h3 h4 h5)
theorem g_ifnullN {off : Int} (tgt : Nat) (C : gC Z cc nL own Ts E) (hd : decode cc pc = .ok (.ifnull off, 3)) (ht : (pc : Int) + off = (tgt : Int)) (k : GW Z R nL E ad u sz lv cells slots tgt st) : GW Z R nL E ad u sz lv cells slots pc (.null :: st) := fun H locs ls h1 h2 h3 h4 h5 => lv_ifnullN C.1 C.2.1 hd ht (k H locs ls h1 h2 h3 h4 h5)
theorem g_ldc {index : Nat} {v : Int32} (C : gC Z cc nL own Ts E) (hw : Jvm.Cond.constant own index v ∈ Ts) (hd : decode cc pc = .ok (.ldc index, 2)) (k : GW Z R nL E ad u sz lv cells slots (pc + 2) (.int v :: st)) : GW Z R nL E ad u sz lv cells slots pc st := fun H locs ls h1 h2 h3 h4 h5 => lv_ldc C.1 C.2.1 C.2.2.2.1 (C.2.2.2.2.1 _ hw) hd (k H locs ls h1 h2 h3 h4 h5)
theorem g_ldc2 {index : Nat} {v : Int64} (C : gC Z cc nL own Ts E) (hw : Jvm.Cond.constantLong own index v ∈ Ts) (hd : decode cc pc = .ok (.ldc2_w index, 3)) (k : GW Z R nL E ad u sz lv cells slots (pc + 3) (.long v :: st)) : GW Z R nL E ad u sz lv cells slots pc st := fun H locs ls h1 h2 h3 h4 h5 => lv_ldc2 C.1 C.2.1 C.2.2.2.1 (C.2.2.2.2.1 _ hw) hd (k H locs ls h1 h2 h3 h4 h5)
theorem g_lookup {dflt : Int} {ps : Array (Int × Int)} {len : Nat} {x : Int32} {off : Int} (tgt : Nat) (C : gC Z cc nL own Ts E) (hd : decode cc pc = .ok (.lookupswitch dflt ps, len)) (hp : (ps.toList.zip (ps.toList.drop 1)).all (fun (a, next) => a.1 < next.1) = true) (ho : Op.lookupswitch.offset ps.toList dflt x.toInt = off) (ht : (pc : Int) + off = (tgt : Int)) (k : GW Z R nL E ad u sz lv cells slots tgt st) : GW Z R nL E ad u sz lv cells slots pc (.int x :: st) := fun H locs ls h1 h2 h3 h4 h5 => lv_lookup C.1 C.2.1 hd hp ho ht (k H locs ls h1 h2 h3 h4 h5)
theorem g_tableOut {dflt lo hi : Int} {offs : Array Int} {len : Nat} {x : Int32} (tgt : Nat) (C : gC Z cc nL own Ts E) (hd : decode cc pc = .ok (.tableswitch dflt lo hi offs, len)) (h : x.toInt < lo ∨ hi < x.toInt) (ht : (pc : Int) + dflt = (tgt : Int)) (k : GW Z R nL E ad u sz lv cells slots tgt st) : GW Z R nL E ad u sz lv cells slots pc (.int x :: st) := fun H locs ls h1 h2 h3 h4 h5 => lv_tableOut C.1 C.2.1 hd h ht (k H locs ls h1 h2 h3 h4 h5)
theorem g_tableIn {dflt lo hi : Int} {offs : Array Int} {len : Nat} {x : Int32} {off : Int} (tgt : Nat) (C : gC Z cc nL own Ts E) (hd : decode cc pc = .ok (.tableswitch dflt lo hi offs, len)) (h1 : ¬ x.toInt < lo) (h2 : ¬ hi < x.toInt) (ho : offs[(x.toInt - lo).toNat]? = some off) (ht : (pc : Int) + off = (tgt : Int)) (k : GW Z R nL E ad u sz lv cells slots tgt st) : GW Z R nL E ad u sz lv cells slots pc (.int x :: st) := fun H locs ls g1 g2 g3 g4 g5 => lv_tableIn C.1 C.2.1 hd h1 h2 ho ht (k H locs ls g1 g2 g3 g4 g5)
theorem g_topi {x : Int32} (k : ∀ y : Int32, y = x → GW Z R nL E ad u sz lv cells slots pc (.int y :: st)) : GW Z R nL E ad u sz lv cells slots pc (.int x :: st) := k x rfl
theorem g_topl {x : Int64} (k : ∀ y : Int64, y = x → GW Z R nL E ad u sz lv cells slots pc (.long y :: st)) : GW Z R nL E ad u sz lv cells slots pc (.long x :: st) := k x rfl
theorem g_widen {k n : Nat} (h1 : cells ≤ k) (h2 : slots ≤ n) (kk : GW Z R nL E ad u sz lv k n pc st) : GW Z R nL E ad u sz lv cells slots pc st := fun H locs ls g1 g2 g3 g4 g5 => W.widen h1 h2 (kk H locs ls g1 g2 g3 g4 g5)
theorem g_fewer {lv' : List (Nat × Value)} (ks : List Nat) (hl : lv_pick lv ks = lv') (k : GW Z R nL E ad u sz lv' cells slots pc st) : GW Z R nL E ad u sz lv cells slots pc st := fun H locs ls h1 h2 h3 h4 h5 => k H locs ls h1 h2 h3 h4 (lv_sub h5 ks hl)
end GR
end
section
theorem gP_one {E : gE} {ad : Nat → Nat} {u : gW} {H : Heap} {n : Nat} {e : va_E} (h : gP E ad u H) (he : u n = some e) : va_P E.1 E.2.1 [(ad n, e)] H := by
  intro k q hk
  have hz : k < 1 := (List.getElem?_eq_some_iff.mp hk).1
  rw [show k = 0 by omega] at hk
  cases hk
  exact h.1 n e he
theorem gP_set {E : gE} {ad : Nat → Nat} {u : gW} {H H1 : Heap} {n : Nat} {e0 e : va_E} (h : gP E ad u H) (hn : u n = some e0) (he : va_at E.1 E.2.1 (ad n, e) H1) (oq : ∀ q : Nat, q ≠ ad n → H1[q]? = H[q]?) : gP E ad (gup u n e) H1 := by
  have dom : ∀ k, gup u n e k ≠ none → u k ≠ none := by
    intro k hk
    by_cases hkn : k = n
    · subst hkn; rw [hn]; exact fun h => by cases h
    · rwa [gup_ne hkn] at hk
  refine ⟨fun k e' hk => ?_, fun a b ha hb hab => h.2 a b (dom a ha) (dom b hb) hab⟩
  by_cases hkn : k = n
  · subst hkn
    rw [gup_self] at hk
    cases hk
    exact he
  · rw [gup_ne hkn] at hk
    refine (h.1 k e' hk).kept (oq _ fun hq => hkn (h.2 k n (by rw [hk]; exact fun h => by cases h) (by rw [hn]; exact fun h => by cases h) hq))
theorem gI_set {A : Nat → Prop} {ad : Nat → Nat} {u : gW} {n : Nat} {e0 e : va_E} (h : gI A ad u) (hn : u n = some e0) : gI A ad (gup u n e) := by
  intro k hk
  by_cases hkn : k = n
  · subst hkn; exact h k (by rw [hn]; exact fun h => by cases h)
  · rw [gup_ne hkn] at hk; exact h k hk
theorem gI_at {A : Nat → Prop} {ad : Nat → Nat} {u : gW} {n : Nat} {e0 : va_E} (h : gI A ad u) (hn : u n = some e0) : A (ad n) := h n (by rw [hn]; exact fun h => by cases h)
theorem gP_new {E : gE} {ad : Nat → Nat} {u : gW} {H H1 : Heap} {n : Nat} {e : va_E} (h : gP E ad u H) (hn : u n = none) (ha : ad n = H.size) (he : va_at E.1 E.2.1 (ad n, e) H1) (oq : ∀ q : Nat, q < H.size → H1[q]? = H[q]?) : gP E ad (gup u n e) H1 := by
  have lt : ∀ k, u k ≠ none → ad k < H.size := by
    intro k hk
    cases hu : u k with
    | none => exact absurd hu hk
    | some e' => exact (h.1 k e' hu).lt
  refine ⟨fun k e' hk => ?_, fun a b h1 h2 hab => ?_⟩
  · by_cases hkn : k = n
    · subst hkn
      rw [gup_self] at hk
      cases hk
      exact he
    · rw [gup_ne hkn] at hk
      exact (h.1 k e' hk).kept (oq _ (h.1 k e' hk).lt)
  · by_cases ha1 : a = n
    · by_cases hb1 : b = n
      · rw [ha1, hb1]
      · rw [gup_ne hb1] at h2
        have := lt b h2
        subst ha1
        omega
    · rw [gup_ne ha1] at h1
      by_cases hb1 : b = n
      · have := lt a h1
        subst hb1
        omega
      · rw [gup_ne hb1] at h2
        exact h.2 a b h1 h2 hab
theorem gI_new {A : Nat → Prop} {ad : Nat → Nat} {u : gW} {n : Nat} {e : va_E} (h : gI A ad u) (hA : A (ad n)) : gI A ad (gup u n e) := by
  intro k hk
  by_cases hkn : k = n
  · subst hkn; exact hA
  · rw [gup_ne hkn] at hk; exact h k hk
section GH
variable {Z : gZ} {R : Room} {cc : ByteArray} {nL : Nat} {own : String} {Ts : List Cond} {E : gE} {ad : Nat → Nat} {u : gW} {sz : Nat} {lv : List (Nat × Value)} {cells slots pc : Nat} {st : List Value}
theorem g_get {ref C0 : String} {T : u_T} {N ci index : Nat} {fs : List Value} {v : Value} (n k : Nat) (C : gC Z cc nL own Ts E) (he : u n = some (.inr (ci, fs))) (hc : E.2.1[ci]? = some (C0, T, N)) (hin : ∀ w ∈ u_ws C0 T N, w ∈ Ts) (hk : k < N) (hlink : Cond.fieldLink own index ref (T k).2.1 (T k).2.2.1 ∈ Ts) (href : ref = (T k).1) (hv : fs[k]? = some v) (hd : decode cc pc = .ok (.getfield index, 3))
    (kk : GW Z R nL E ad u sz lv cells slots (pc + 3) (v :: st)) : GW Z R nL E ad u sz lv cells slots pc (.ref (ad n) :: st) := fun H locs ls h1 h2 h3 h4 h5 =>
  va_get C.1 C.2.1 C.2.2.2.2.1 hin C.2.2.2.1 C.2.2.2.2.2.1 (gP_one h2 he) 0 rfl hc k hk (C.2.2.2.2.1 _ hlink) (fun _ h9 => by rw [href]; exact h9) hv hd (kk H locs ls h1 h2 h3 h4 h5)
theorem g_put {ref C0 : String} {T : u_T} {N ci index : Nat} {fs : List Value} {v : Value} (n k : Nat) (C : gC Z cc nL own Ts E) (he : u n = some (.inr (ci, fs))) (hc : E.2.1[ci]? = some (C0, T, N)) (hin : ∀ w ∈ u_ws C0 T N, w ∈ Ts) (ty0 : Nat → FieldType) (hty : ∀ k, k < N → parseFieldDescriptor (T k).2.2.1 = some (ty0 k)) (hnm : ∀ a, a < N → ∀ b, b < N → a ≠ b → (T a).2.1 ≠ (T b).2.1) (hk : k < N) (hlink : Cond.fieldLink own index ref (T k).2.1 (T k).2.2.1 ∈ Ts) (href : ref = (T k).1) (hfin : (T k).2.2.2 = false) (hn : narrow (ty0 k) v = v) (hfit : fits (ty0 k) v = true) (hl : k < fs.length) (hd : decode cc pc = .ok (.putfield index, 3))
    (kk : GW Z R nL E ad (gup u n (.inr (ci, fs.set k v))) sz lv cells slots (pc + 3) st) : GW Z R nL E ad u sz lv cells slots pc (v :: .ref (ad n) :: st) := by
  intro H locs ls h1 h2 h3 h4 h5
  obtain ⟨hx, hb, hml, hown, hts, hK, hA, hlk⟩ := C
  have hap := va_apart (own := own) hts hin ty0 hty hnm hK hc
  obtain ⟨r, g1, cell, q1, q2, q3, q4⟩ := h2.1 n _ he
  have hr : r = (C0, T, N) := Option.some.inj (g1.symm.trans hc)
  subst hr
  obtain ⟨hS, hfc, kC, hkC, hkind⟩ := hK.1 ci _ hc
  obtain ⟨cf, kf, fi, f, hi, hsl⟩ := hS k hk
  have hlay := hts _ (hin _ (u_in_lay hk))
  unfold u_lay at hlay
  rw [if_neg (by rw [hfin]; decide)] at hlay
  have hst := (u_facts hfc hkC (u_lays hts hin hk) hi).1
  have h6 := u_store hfc hkC hkind hlay hi (hty k hk) hn hfit
  subst href
  refine W.putK hx hb (f := f) ⟨hown, hts _ hlink, ⟨_, _, _, hi⟩, hst⟩ (by rw [q2]; exact h6) q1 q3 (by rw [hsl]; exact k2_hasslot (q4 k hk)) rfl rfl hd fun H' e1 e2 e3 => ?_
  rw [hsl] at e1 ⊢
  exact kk H' _ ls (e2.trans h1) (gP_set h2 he ⟨_, hc, t_OB.to (V := updV (vp_V fs) k v) ⟨_, e1, q2, q3, t_set q4 hap hk v⟩ (fun j _ => vp_updV_set hl v j)⟩ e3) (gI_set h3 he) (h4.put e2 e3 (gI_at h3 he)) h5
theorem g_putF {ref C0 : String} {T : u_T} {N ci index : Nat} {fs : List Value} {v : Value} (n k : Nat) (C : gC Z cc nL own Ts E) (hini : (gme Z).name = "<init>") (he : u n = some (.inr (ci, fs))) (hc : E.2.1[ci]? = some (C0, T, N)) (hin : ∀ w ∈ u_ws C0 T N, w ∈ Ts) (ty0 : Nat → FieldType) (hty : ∀ k, k < N → parseFieldDescriptor (T k).2.2.1 = some (ty0 k)) (hnm : ∀ a, a < N → ∀ b, b < N → a ≠ b → (T a).2.1 ≠ (T b).2.1) (hk : k < N) (hlink : Cond.fieldLink own index ref (T k).2.1 (T k).2.2.1 ∈ Ts) (href : ref = (T k).1) (hfin : (T k).2.2.2 = true) (hdecl : (T k).1 = own) (hn : narrow (ty0 k) v = v) (hfit : fits (ty0 k) v = true) (hl : k < fs.length) (hd : decode cc pc = .ok (.putfield index, 3))
    (kk : GW Z R nL E ad (gup u n (.inr (ci, fs.set k v))) sz lv cells slots (pc + 3) st) : GW Z R nL E ad u sz lv cells slots pc (v :: .ref (ad n) :: st) := by
  intro H locs ls h1 h2 h3 h4 h5
  obtain ⟨hx, hb, hml, hown, hts, hK, hA, hlk⟩ := C
  have hap := va_apart (own := own) hts hin ty0 hty hnm hK hc
  obtain ⟨r, g1, cell, q1, q2, q3, q4⟩ := h2.1 n _ he
  have hr : r = (C0, T, N) := Option.some.inj (g1.symm.trans hc)
  subst hr
  obtain ⟨hS, hfc, kC, hkC, hkind⟩ := hK.1 ci _ hc
  obtain ⟨cf, kf, fi, f, hi, hsl⟩ := hS k hk
  have hlay := hts _ (hin _ (u_in_lay hk))
  unfold u_lay at hlay
  rw [if_pos hfin] at hlay
  have hst := (u_facts hfc hkC (u_lays hts hin hk) hi).1
  have hcf : (gm Z).cls = cf := by
    obtain ⟨_, _, c', _, _, _, -, -, hf', -, -, -, hown2, -⟩ := Cond.laysFinal_spec hlay
    have e1 : c' = cf := by have := hi.symm.trans hf'; simp at this; exact this.1.symm
    rw [hdecl] at hown2
    rw [← e1]; exact Option.some.inj (hown.symm.trans hown2)
  have h6 := u_fits hfc hkC hkind (Or.inr hlay) hi (hty k hk) hn hfit
  subst href
  refine W.putFinK hx hb hown (hts _ hlink) hi hst hcf hini (by rw [q2]; exact h6) q1 q3 (by rw [hsl]; exact k2_hasslot (q4 k hk)) rfl rfl hd fun H' e1 e2 e3 => ?_
  rw [hsl] at e1 ⊢
  exact kk H' _ ls (e2.trans h1) (gP_set h2 he ⟨_, hc, t_OB.to (V := updV (vp_V fs) k v) ⟨_, e1, q2, q3, t_set q4 hap hk v⟩ (fun j _ => vp_updV_set hl v j)⟩ e3) (gI_set h3 he) (h4.put e2 e3 (gI_at h3 he)) h5
theorem g_iald {cA : ClassId} {N : Nat} {f : Nat → Int32} {i : Int32} (n t0 : Nat) (C : gC Z cc nL own Ts E) (he : u n = some (.inl (cA, N, .inl f))) (ht : E.2.2[t0]? = some (cA, .int)) (hin : vp_in i N) (hd : decode cc pc = .ok (.iaload, 1))
    (kk : GW Z R nL E ad u sz lv cells slots (pc + 1) (.int (f i.toNatClampNeg) :: st)) : GW Z R nL E ad u sz lv cells slots pc (.int i :: .ref (ad n) :: st) := fun H locs ls h1 h2 h3 h4 h5 =>
  va_iald C.1 C.2.1 C.2.2.2.2.2.1 (gP_one h2 he) 0 t0 rfl ht hin hd (kk H locs ls h1 h2 h3 h4 h5)
theorem g_zald {cA : ClassId} {N : Nat} {f : Nat → Int32} {i : Int32} (n t0 : Nat) (C : gC Z cc nL own Ts E) (he : u n = some (.inl (cA, N, .inl f))) (ht : E.2.2[t0]? = some (cA, .boolean)) (hin : vp_in i N) (hd : decode cc pc = .ok (.baload, 1))
    (kk : GW Z R nL E ad u sz lv cells slots (pc + 1) (.int (f i.toNatClampNeg) :: st)) : GW Z R nL E ad u sz lv cells slots pc (.int i :: .ref (ad n) :: st) := fun H locs ls h1 h2 h3 h4 h5 =>
  va_zald C.1 C.2.1 C.2.2.2.2.2.1 (gP_one h2 he) 0 t0 rfl ht hin hd (kk H locs ls h1 h2 h3 h4 h5)
theorem g_lald {cA : ClassId} {N : Nat} {f : Nat → Int64} {i : Int32} (n t0 : Nat) (C : gC Z cc nL own Ts E) (he : u n = some (.inl (cA, N, .inr (.inl f)))) (ht : E.2.2[t0]? = some (cA, .long)) (hin : vp_in i N) (hd : decode cc pc = .ok (.laload, 1))
    (kk : GW Z R nL E ad u sz lv cells slots (pc + 1) (.long (f i.toNatClampNeg) :: st)) : GW Z R nL E ad u sz lv cells slots pc (.int i :: .ref (ad n) :: st) := fun H locs ls h1 h2 h3 h4 h5 =>
  va_lald C.1 C.2.1 C.2.2.2.2.2.1 (gP_one h2 he) 0 t0 rfl ht hin hd (kk H locs ls h1 h2 h3 h4 h5)
theorem g_aald {C0 : String} {cA : ClassId} {N : Nat} {f : Nat → Option Nat} {i : Int32} (n t0 : Nat) (C : gC Z cc nL own Ts E) (he : u n = some (.inl (cA, N, .inr (.inr (.inr (.inr f)))))) (ht : E.2.2[t0]? = some (cA, .object C0)) (hin : vp_in i N) (r : Option Nat) (hr : f i.toNatClampNeg = r) (hd : decode cc pc = .ok (.aaload, 1))
    (kk : GW Z R nL E ad u sz lv cells slots (pc + 1) (va_rf r :: st)) : GW Z R nL E ad u sz lv cells slots pc (.int i :: .ref (ad n) :: st) := fun H locs ls h1 h2 h3 h4 h5 =>
  va_aldq C.1 C.2.1 C.2.2.2.2.2.1 (gP_one h2 he) 0 t0 rfl ht hin hd (by rw [hr]; exact kk H locs ls h1 h2 h3 h4 h5)
theorem g_alen {cA : ClassId} {x : vp_A} {ty : FieldType} (n t0 : Nat) (v : Int32) (C : gC Z cc nL own Ts E) (he : u n = some (.inl (cA, x))) (ht : E.2.2[t0]? = some (cA, ty)) (hv : Int32.ofNat x.1 = v) (hd : decode cc pc = .ok (.arraylength, 1))
    (kk : GW Z R nL E ad u sz lv cells slots (pc + 1) (.int v :: st)) : GW Z R nL E ad u sz lv cells slots pc (.ref (ad n) :: st) := fun H locs ls h1 h2 h3 h4 h5 =>
  va_alen C.1 C.2.1 C.2.2.2.2.2.1 (gP_one h2 he) 0 t0 rfl ht hv hd (kk H locs ls h1 h2 h3 h4 h5)
theorem g_iast {cA : ClassId} {N : Nat} {f : Nat → Int32} {i x : Int32} (n t0 : Nat) (C : gC Z cc nL own Ts E) (he : u n = some (.inl (cA, N, .inl f))) (ht : E.2.2[t0]? = some (cA, .int)) (hin : vp_in i N) (hd : decode cc pc = .ok (.iastore, 1))
    (kk : GW Z R nL E ad (gup u n (.inl (cA, N, .inl (upd f i.toNatClampNeg x)))) sz lv cells slots (pc + 1) st) : GW Z R nL E ad u sz lv cells slots pc (.int x :: .int i :: .ref (ad n) :: st) := by
  intro H locs ls h1 h2 h3 h4 h5
  refine W.iast C.1 C.2.1 (h2.1 n _ he) ((C.2.2.2.2.2.1.2 t0 _ ht).1 N (fun j => .int (f j))) (fun q => by cases q) (by show ¬ (i < 0 ∨ (arrV _ _ _).slots.size ≤ _); rw [arrV_size]; exact hin) rfl rfl hd fun H1 e z oq => ?_
  refine kk H1 _ ls (z.trans h1) (gP_set h2 he ?_ oq) (gI_set h3 he) (h4.put z oq (gI_at h3 he)) h5
  show H1[ad n]? = some (vp_cell _ _)
  rw [e]
  rw [vp_cell_i, vp_cell_i, arrV_store]
  congr 2
  funext q
  by_cases hq : q = i.toNatClampNeg
  · subst hq
    simp [updV, upd]
  · simp [updV, upd, hq]
theorem g_zast {cA : ClassId} {N : Nat} {f : Nat → Int32} {i x : Int32} (n t0 : Nat) (C : gC Z cc nL own Ts E) (he : u n = some (.inl (cA, N, .inl f))) (ht : E.2.2[t0]? = some (cA, .boolean)) (hin : vp_in i N) (hd : decode cc pc = .ok (.bastore, 1))
    (kk : GW Z R nL E ad (gup u n (.inl (cA, N, .inl (upd f i.toNatClampNeg (vp_nar .boolean x))))) sz lv cells slots (pc + 1) st) : GW Z R nL E ad u sz lv cells slots pc (.int x :: .int i :: .ref (ad n) :: st) := by
  intro H locs ls h1 h2 h3 h4 h5
  refine W.zast C.1 C.2.1 (h2.1 n _ he) ((C.2.2.2.2.2.1.2 t0 _ ht).1 N (fun j => .int (f j))) (fun q => by cases q) (by show ¬ (i < 0 ∨ (arrV _ _ _).slots.size ≤ _); rw [arrV_size]; exact hin) rfl rfl hd fun H1 e z oq => ?_
  refine kk H1 _ ls (z.trans h1) (gP_set h2 he ?_ oq) (gI_set h3 he) (h4.put z oq (gI_at h3 he)) h5
  show H1[ad n]? = some (vp_cell _ _)
  rw [e]
  rw [vp_cell_i, vp_cell_i, arrV_store]
  congr 2
  funext q
  by_cases hq : q = i.toNatClampNeg
  · subst hq
    simp [updV, upd, vp_nar]
    try rfl
  · simp [updV, upd, hq]
theorem g_last {cA : ClassId} {N : Nat} {f : Nat → Int64} {i : Int32} {x : Int64} (n t0 : Nat) (C : gC Z cc nL own Ts E) (he : u n = some (.inl (cA, N, .inr (.inl f)))) (ht : E.2.2[t0]? = some (cA, .long)) (hin : vp_in i N) (hd : decode cc pc = .ok (.lastore, 1))
    (kk : GW Z R nL E ad (gup u n (.inl (cA, N, .inr (.inl (vp_updL f i.toNatClampNeg x))))) sz lv cells slots (pc + 1) st) : GW Z R nL E ad u sz lv cells slots pc (.long x :: .int i :: .ref (ad n) :: st) := by
  intro H locs ls h1 h2 h3 h4 h5
  refine W.last C.1 C.2.1 (h2.1 n _ he) ((C.2.2.2.2.2.1.2 t0 _ ht).1 N (fun j => .long (f j))) (fun q => by cases q) (by show ¬ (i < 0 ∨ (arrV _ _ _).slots.size ≤ _); rw [arrV_size]; exact hin) rfl rfl hd fun H1 e z oq => ?_
  refine kk H1 _ ls (z.trans h1) (gP_set h2 he ?_ oq) (gI_set h3 he) (h4.put z oq (gI_at h3 he)) h5
  show H1[ad n]? = some (vp_cell _ _)
  rw [e]
  rw [vp_cell_l, vp_cell_l, arrV_store]
  congr 2
  funext q
  by_cases hq : q = i.toNatClampNeg
  · subst hq
    simp [updV, vp_updL]
  · simp [updV, vp_updL, hq]
theorem g_aast {cA : ClassId} {r : vw_C} {N ci : Nat} {f : Nat → Option Nat} {vs : List Value} {i : Int32} (n k t0 : Nat) (C : gC Z cc nL own Ts E) (he : u n = some (.inl (cA, N, .inr (.inr (.inr (.inr f)))))) (ht : E.2.2[t0]? = some (cA, .object r.1)) (hv : u k = some (.inr (ci, vs))) (hc : E.2.1[ci]? = some r) (hin : vp_in i N) (hd : decode cc pc = .ok (.aastore, 1))
    (kk : GW Z R nL E ad (gup u n (.inl (cA, N, .inr (.inr (.inr (.inr (va_up f i.toNatClampNeg (some (ad k))))))))) sz lv cells slots (pc + 1) st) : GW Z R nL E ad u sz lv cells slots pc (.ref (ad k) :: .int i :: .ref (ad n) :: st) := by
  intro H locs ls h1 h2 h3 h4 h5
  obtain ⟨hx, hb, hml, hown, hts, hK, hA, hlk⟩ := C
  have hlt : i.toNatClampNeg < N := Nat.not_le.mp fun q => hin (Or.inr q)
  have h0 : ¬ i < 0 := fun q => hin (Or.inl q)
  obtain ⟨r', hr', cellV, g1, g2, g3, -⟩ := h2.1 k _ hv
  have hcls := (hK.1 ci r hc).2
  obtain ⟨kA, comp, k1, k2, k3, -⟩ := (hK.2 t0 _ ht).2
  have hcomp : comp = E.1.1 ci := Option.some.inj (k3.symm.trans hcls.1)
  subst hcomp
  obtain ⟨kC, hkC, -⟩ := hcls.2
  refine W.aast hx hb (h2.1 n _ he) (fun q h => by cases h) (fun h => by cases h) k1 k2 rfl hkC ⟨h0, by show _ < (arrV _ _ _).slots.size; rw [arrV_size]; exact hlt⟩ g1 (fun q h => by rw [g3] at h; cases h) (by rw [g2]; exact hkC) (by rw [g2]; exact va_assign hcls) rfl rfl hd fun H1 e z oq => ?_
  refine kk H1 _ ls (z.trans h1) (gP_set h2 he ?_ oq) (gI_set h3 he) (h4.put z oq (gI_at h3 he)) h5
  show H1[ad n]? = some (vp_cell _ _)
  rw [e]
  rw [vp_cell_q, vp_cell_q, arrV_store]
  congr 2
  funext q
  by_cases hq : q = i.toNatClampNeg
  · subst hq
    simp [updV, va_up, va_rf]
  · simp [updV, va_up, hq]
theorem g_new {C0 : String} {T : u_T} {N ci index : Nat} {fs : List Value} (n : Nat) (C : gC Z cc nL own Ts E) (hn : u n = none) (ha : ad n = sz) (hc : E.2.1[ci]? = some (C0, T, N)) (hin : ∀ w ∈ u_ws C0 T N, w ∈ Ts) (ty0 : Nat → FieldType) (hty : ∀ k, k < N → parseFieldDescriptor (T k).2.2.1 = some (ty0 k)) (hcl : Cond.classLink own index C0 ∈ Ts) (hinst : Cond.instantiable C0 N ∈ Ts) (hini : Cond.initialized C0 ∈ Ts) (hfs : ∀ j, j < N → defaultValue (ty0 j) = vp_V fs j) (hcells : cells + 1 ≤ R.cells) (hslots : slots + N ≤ R.slots) (hd : decode cc pc = .ok (.new index, 3))
    (kk : GW Z R nL E ad (gup u n (.inr (ci, fs))) (sz + 1) lv (cells + 1) (slots + N) (pc + 3) (.ref (ad n) :: st)) : GW Z R nL E ad u sz lv cells slots pc st := by
  intro H locs ls h1 h2 h3 h4 h5
  obtain ⟨hx, hb, hml, hown, hts, hK, hA, hlk⟩ := C
  have hKn := hK.1 ci _ hc
  have hsz : ad n = H.size := ha.trans h1.symm
  refine W.newcK hx hb hown (hts _ hcl) (hts _ hinst) (hts _ hini) rfl hd hcells hslots hKn.2.1 rfl fun H1 kC hkC e1 z1 o1 => ?_
  have K := kk H1 locs ls (by rw [z1, h1]) (gP_new h2 hn hsz (show va_at E.1 E.2.1 (ad n, .inr (ci, fs)) H1 by
    rw [hsz]
    exact ⟨_, hc, (u_born ty0 hts hin hKn hkC e1 hty).to hfs⟩) o1) (gI_new h3 (hA _ (by rw [hsz]; exact h4.1)))
    ⟨Nat.le_trans h4.1 (by omega), fun x g1 g2 => (o1 x (Nat.lt_of_lt_of_le g1 h4.1)).trans (h4.2.1 x g1 g2), h4.2.2⟩ h5
  rw [hsz] at K
  exact K
theorem g_newa {atype : ArrayType} {ty : FieldType} {i : Int32} {N : Nat} {cA : ClassId} {a0 : vp_A} (n t0 : Nat) (C : gC Z cc nL own Ts E) (hn : u n = none) (ha : ad n = sz) (harr : Cond.arrayClass (newarray.typeOf atype) ∈ Ts) (hty : newarray.typeOf atype = ty) (ht : E.2.2[t0]? = some (cA, ty)) (hcell : ∀ cA : ClassId, vp_cell cA a0 = arrV cA N (fun _ => defaultValue ty)) (hi : ¬ i < 0) (hN : i.toNatClampNeg = N) (hbytes : N * componentBytes ty ≤ 536870912) (hcells : cells + 1 ≤ R.cells) (hslots : slots + N ≤ R.slots) (hd : decode cc pc = .ok (.newarray atype, 2))
    (kk : GW Z R nL E ad (gup u n (.inl (cA, a0))) (sz + 1) lv (cells + 1) (slots + N) (pc + 2) (.ref (ad n) :: st)) : GW Z R nL E ad u sz lv cells slots pc (.int i :: st) := by
  intro H locs ls h1 h2 h3 h4 h5
  obtain ⟨hx, hb, hml, hown, hts, hK, hA, hlk⟩ := C
  have hsz : ad n = H.size := ha.trans h1.symm
  subst hty
  refine va_newaK hx hb (hts _ harr) rfl hd rfl hi hN hbytes hcells hslots rfl fun H1 cA' e1 z1 o1 hAr hNm => ?_
  have hsame : cA' = cA := by
    have h9 := (hK.2 t0 _ ht).2
    have h8 : (gs Z).vm.findClass ("[" ++ (newarray.typeOf atype).toString) = some cA := by
      cases atype <;> exact h9
    exact Option.some.inj (hNm.symm.trans h8)
  subst hsame
  have K := kk H1 locs ls (by rw [z1, h1]) (gP_new h2 hn hsz (show va_at E.1 E.2.1 (ad n, .inl (cA', a0)) H1 by
    rw [hsz]
    show H1[H.size]? = some (vp_cell _ _)
    rw [hcell]; exact e1) o1) (gI_new h3 (hA _ (by rw [hsz]; exact h4.1)))
    ⟨Nat.le_trans h4.1 (by omega), fun x g1 g2 => (o1 x (Nat.lt_of_lt_of_le g1 h4.1)).trans (h4.2.1 x g1 g2), h4.2.2⟩ h5
  rw [hsz] at K
  exact K
theorem g_objInit {idx n : Nat} (C : gC Z cc nL own Ts E) (hlink : Cond.methodLink own idx Lib.objectInit ∈ Ts) (hinst : Cond.instanceMethod Lib.objectInit ∈ Ts) (hcode : Cond.code Lib.objectInit ⟨#[0xb1]⟩ 1 none ∈ Ts) (hd : decode cc pc = .ok (.invokespecial idx, 3)) (hf : 1 ≤ R.frames) (hlo : (st.map fun v => v.category).sum + 12 ≤ R.locals)
    (kk : GW Z R nL E ad u sz lv cells slots (pc + 3) st) : GW Z R nL E ad u sz lv cells slots pc (.ref n :: st) := by
  intro H locs ls h1 h2 h3 h4 h5
  refine W.objInit C.1 C.2.1 C.2.2.2.1 (C.2.2.2.2.1 _ hlink) (C.2.2.2.2.1 _ hinst) (C.2.2.2.2.1 _ hcode) rfl (by rw [C.2.2.1]; exact h5.1) rfl hd hf ?_ ?_
  · simpa [JFrame.monitorRoom] using hlo
  · exact kk H locs ls h1 h2 h3 h4 h5
theorem g_iret {v : Int32} {Post : Option Value → gW → Nat → Prop} (C : gC Z cc nL own Ts E) (r : gR Z E ad cells slots Post) (hr : (gme Z).sig.returnType = some .int) (hp : Post (some (.int v)) u sz) (hd : decode cc pc = .ok (.ireturn, 1)) : GW Z R nL E ad u sz lv cells slots pc [.int v] := by
  intro H locs ls h1 h2 h3 h4 h5
  rw [r.1]
  exact W.iret C.1 C.2.1 hr (fun t ht hW => ⟨_, u, sz, rfl, hp, by rw [ht]; exact h1, by rw [ht]; exact h2, h3, va_K.moved hW.alike C.2.2.2.2.2.1, by have h := h4; rw [r.2] at h; exact h.F ht⟩) h4.2.2 hd C.2.2.2.2.2.2.2
theorem g_zret {v : Int32} {Post : Option Value → gW → Nat → Prop} (C : gC Z cc nL own Ts E) (r : gR Z E ad cells slots Post) (hr : (gme Z).sig.returnType = some .boolean) (hn : narrow .boolean (.int v) = .int v) (hp : Post (some (.int v)) u sz) (hd : decode cc pc = .ok (.ireturn, 1)) : GW Z R nL E ad u sz lv cells slots pc [.int v] := by
  intro H locs ls h1 h2 h3 h4 h5
  rw [r.1]
  exact W.zret C.1 C.2.1 hr hn (fun t ht hW => ⟨_, u, sz, rfl, hp, by rw [ht]; exact h1, by rw [ht]; exact h2, h3, va_K.moved hW.alike C.2.2.2.2.2.1, by have h := h4; rw [r.2] at h; exact h.F ht⟩) h4.2.2 hd C.2.2.2.2.2.2.2
theorem g_lret {v : Int64} {Post : Option Value → gW → Nat → Prop} (C : gC Z cc nL own Ts E) (r : gR Z E ad cells slots Post) (hr : (gme Z).sig.returnType = some .long) (hp : Post (some (.long v)) u sz) (hd : decode cc pc = .ok (.lreturn, 1)) : GW Z R nL E ad u sz lv cells slots pc [.long v] := by
  intro H locs ls h1 h2 h3 h4 h5
  rw [r.1]
  exact W.lret C.1 C.2.1 hr (fun t ht hW => ⟨_, u, sz, rfl, hp, by rw [ht]; exact h1, by rw [ht]; exact h2, h3, va_K.moved hW.alike C.2.2.2.2.2.1, by have h := h4; rw [r.2] at h; exact h.F ht⟩) h4.2.2 hd C.2.2.2.2.2.2.2
theorem g_vret {Post : Option Value → gW → Nat → Prop} (C : gC Z cc nL own Ts E) (r : gR Z E ad cells slots Post) (hr : (gme Z).sig.returnType = none) (hp : Post none u sz) (hd : decode cc pc = .ok (.return_, 1)) : GW Z R nL E ad u sz lv cells slots pc [] := by
  intro H locs ls h1 h2 h3 h4 h5
  rw [r.1]
  exact W.vret C.1 C.2.1 hr (fun t ht hW => ⟨_, u, sz, rfl, hp, by rw [ht]; exact h1, by rw [ht]; exact h2, h3, va_K.moved hW.alike C.2.2.2.2.2.1, by have h := h4; rw [r.2] at h; exact h.F ht⟩) h4.2.2 hd C.2.2.2.2.2.2.2
theorem g_aret {v : Value} {rt : FieldType} {Post : Option Value → gW → Nat → Prop} (C : gC Z cc nL own Ts E) (r : gR Z E ad cells slots Post) (hr : (gme Z).sig.returnType = some rt) (hrt : (∃ n, rt = .object n) ∨ ∃ t, rt = .array t) (hv : v = .null ∨ ∃ a, v = .ref a) (hp : Post (some v) u sz) (hd : decode cc pc = .ok (.areturn, 1)) : GW Z R nL E ad u sz lv cells slots pc [v] := by
  intro H locs ls h1 h2 h3 h4 h5
  rw [r.1]
  exact W.aret C.1 C.2.1 hr hrt hv (fun t ht hW => ⟨_, u, sz, rfl, hp, by rw [ht]; exact h1, by rw [ht]; exact h2, h3, va_K.moved hW.alike C.2.2.2.2.2.1, by have h := h4; rw [r.2] at h; exact h.F ht⟩) h4.2.2 hd C.2.2.2.2.2.2.2
end GH
end
section
theorem gGood {ws : List Cond} (h : ∀ w ∈ ws, w ∈ gT) : GoodIn gT ws := fun w hw => gT_good w (h w hw)
theorem gGoodC {c : Cond} (h : c ∈ gT) : GoodIn gT (c :: gT) := gGood fun w hw => (List.mem_cons.mp hw).elim (fun e => e ▸ h) id
theorem gGoodV {own C : String} {index : Nat} {y : MethodName} {c : Cond} (hl : Cond.methodLink own index y ∈ gT) (hin : Cond.instanceMethod y ∈ gT) (hsel : Cond.selects C y y ∈ gT) (hini : Cond.initialized C ∈ gT) (hc : c ∈ gT) : GoodIn gT (wsV own index C y (c :: gT)) := gGood fun w hw => by
  rcases List.mem_append.mp hw with h | h
  · simp only [List.mem_cons, List.not_mem_nil, or_false] at h
    rcases h with rfl | rfl | rfl | rfl <;> assumption
  · exact (List.mem_cons.mp h).elim (fun e => e ▸ hc) id
theorem gGoodS {own : String} {index : Nat} {y : MethodName} {c : Cond} (hl : Cond.methodLink own index y ∈ gT) (hin : Cond.static y ∈ gT) (hini : Cond.initialized own ∈ gT) (hc : c ∈ gT) : GoodIn gT (wsS own index y (c :: gT)) := gGood fun w hw => by
  rcases List.mem_append.mp hw with h | h
  · simp only [List.mem_cons, List.not_mem_nil, or_false] at h
    rcases h with rfl | rfl | rfl <;> assumption
  · exact (List.mem_cons.mp h).elim (fun e => e ▸ hc) id
theorem gAd_in {A : Nat → Prop} {ad : Nat → Nat} {u : gW} {sz b : Nat} (h3 : gI A ad u) (hA : ∀ q : Nat, b ≤ q → A q) (hsz : b ≤ sz) : ∀ q, gAd ad u sz q → A q := by
  rintro q (⟨n, hn, rfl⟩ | h)
  · exact h3 n hn
  · exact hA q (Nat.le_trans hsz h)
theorem gBlind {E : gE} {ad : Nat → Nat} {u : gW} {sz : Nat} {av : List Value} : FrameBlind (va_Pc av (gPre E ad u sz)) := fun a U g mk q => by
  obtain ⟨q0, q1, q2, q3⟩ := q
  exact ⟨q0, q1, q2, va_K.moved (u := U) (U := U.calling g mk a) (Vm.Alike.refl U.vm) q3⟩
section GCALL
variable {Z : gZ} {R : Room} {cc : ByteArray} {nL : Nat} {own : String} {E : gE} {ad : Nat → Nat} {u : gW} {sz : Nat} {lv : List (Nat × Value)} {cells slots pc : Nat} {st : List Value}
theorem g_run {mc ms : Nat} {rest : List Value} {a : Array Value} {Post : Option Value → gW → Nat → Prop} (C : gC Z cc nL own gT E)
    (hr : ∀ (H : Heap) (locs : List Loc) (ls : Array Slot), H.size = sz → gP E ad u H → lv_has ls nL lv → va_Run (gp Z) (gl Z) (ge Z) R (gs Z) (gm Z) (ga Z) (gb Z) (gme Z) (gc Z) H locs cells slots mc ms (F0 (gm Z) pc ls st) rest (gPost E ad (gAd ad u sz) Post a) (gAd ad u sz))
    (k : ∀ (v : Option Value) (u' : gW) (sz' : Nat), Post v u' sz' → GW Z R nL E ad u' sz' lv (cells + mc) (slots + ms) (pc + 3) (v.toList ++ rest)) : GW Z R nL E ad u sz lv cells slots pc st := by
  intro H locs ls h1 h2 h3 h4 h5 T hT X
  obtain ⟨v, st₀, t, T', L, h0, X', hL, e1, e2, ⟨v', u', sz', hv, hp, hs', hP', hI', hK', hz, hk⟩, go⟩ := hr H locs ls h1 h2 h5 T hT X
  cases hv
  rw [h0] at hz hk
  have hin := gAd_in h3 C.2.2.2.2.2.2.1 (sz := sz) (by rw [← h1]; exact h4.1)
  obtain ⟨t2, a1, b1⟩ := k v u' sz' hp T'.heap (locs ++ L) ls (by rw [e1]; exact hs') (by rw [e1]; exact hP') (fun n hn => hin _ (hI' n hn))
    ⟨Nat.le_trans h4.1 (by rw [e1]; exact hz), fun q g1 g2 => by rw [e1, hk q (Nat.lt_of_lt_of_le g1 h4.1) (fun z => g2 (hin q z))]; exact h4.2.1 q g1 g2, fun q hq => by
      rcases List.mem_append.mp hq with h | h
      · exact h4.2.2 q h
      · exact hin _ (hL q h)⟩ h5 T' rfl X'
  exact ⟨t2, go t2 a1, b1⟩
theorem g_callV {y : MethodName} {bytes : ByteArray} {maxL index ci b N : Nat} {T : u_T} {ret : Option FieldType} {rm : Room} {As rest fs : List Value} {Post : Option Value → gW → Nat → Prop} (n : Nat) (C : gC Z cc nL own gT E)
    (hM : gMet (gl Z) E y bytes maxL ret rm (.ref (ad b) :: As) ad u sz Post) (hl : Cond.methodLink own index y ∈ gT) (hin : Cond.instanceMethod y ∈ gT) (hsel : Cond.selects y.cls y y ∈ gT) (hini : Cond.initialized y.cls ∈ gT) (hcode : Cond.code y bytes maxL ret ∈ gT)
    (hdd : y.cls ≠ "java/lang/invoke/MethodHandle" ∧ y.cls ≠ "java/lang/invoke/VarHandle" ∧ (parseMethodDescriptor y.desc).map (fun d => d.parameters.length) = some n) (hR : rm.frames + 1 ≤ R.frames ∧ 8 + (maxL + 11) + rm.locals ≤ R.locals)
    (hb : u b = some (.inr (ci, fs))) (hc : E.2.1[ci]? = some (y.cls, T, N)) (hn : As.length = n) (hst : st = As.reverse ++ .ref (ad b) :: rest) (hlo : (rest.map fun v => v.category).sum ≤ 8) (hd : decode cc pc = .ok (.invokevirtual index, 3)) (hf : cells + rm.cells ≤ R.cells ∧ slots + rm.slots ≤ R.slots)
    (k : ∀ (v : Option Value) (u' : gW) (sz' : Nat), Post v u' sz' → GW Z R nL E ad u' sz' lv (cells + rm.cells) (slots + rm.slots) (pc + 3) (v.toList ++ rest)) : GW Z R nL E ad u sz lv cells slots pc st :=
  g_run (a := (Value.ref (ad b) :: As).toArray) C (fun H locs ls h1 h2 h5 => va_runV (C := y.cls) (As := As) (rest := rest) (b := ad b) ⟨C.1, C.2.1, C.2.2.1, C.2.2.2.1, C.2.2.2.2.1⟩ hM
    (cwV n C.2.2.2.2.1 (gGoodV hl hin hsel hini hcode) rfl rfl rfl ⟨rfl, hdd⟩ hR) ⟨gBlind, va_recv C.2.2.2.2.2.1 (gP_one h2 hb) (q0 := 0) hc rfl, fun U hU hW => ⟨rfl, by rw [hU]; exact h1, by rw [hU]; exact h2, va_K.moved hW.alike C.2.2.2.2.2.1⟩⟩ rfl hn h5.1 hst (lv_room hlo) hd hf) k
theorem g_callS {y : MethodName} {bytes : ByteArray} {maxL index : Nat} {ret : Option FieldType} {rm : Room} {As rest : List Value} {Post : Option Value → gW → Nat → Prop} (n : Nat) (C : gC Z cc nL own gT E)
    (hM : gMet (gl Z) E y bytes maxL ret rm As ad u sz Post) (hl : Cond.methodLink own index y ∈ gT) (hin : Cond.static y ∈ gT) (hini : Cond.initialized own ∈ gT) (hcode : Cond.code y bytes maxL ret ∈ gT)
    (hdd : y.cls = own ∧ y.cls ≠ "java/lang/invoke/MethodHandle" ∧ y.cls ≠ "java/lang/invoke/VarHandle" ∧ (parseMethodDescriptor y.desc).map (fun d => d.parameters.length) = some n) (hR : rm.frames + 1 ≤ R.frames ∧ 8 + (maxL + 11) + rm.locals ≤ R.locals)
    (hn : As.length = n) (hst : st = As.reverse ++ rest) (hlo : (rest.map fun v => v.category).sum ≤ 8) (hd : decode cc pc = .ok (.invokestatic index, 3)) (hf : cells + rm.cells ≤ R.cells ∧ slots + rm.slots ≤ R.slots)
    (k : ∀ (v : Option Value) (u' : gW) (sz' : Nat), Post v u' sz' → GW Z R nL E ad u' sz' lv (cells + rm.cells) (slots + rm.slots) (pc + 3) (v.toList ++ rest)) : GW Z R nL E ad u sz lv cells slots pc st :=
  g_run (a := As.toArray) C (fun H locs ls h1 h2 h5 => va_runS (As := As) (rest := rest) ⟨C.1, C.2.1, C.2.2.1, C.2.2.2.1, C.2.2.2.2.1⟩ hM
    (cwS n C.2.2.2.2.1 (gGoodS hl hin hini hcode) rfl rfl rfl hdd hR) ⟨gBlind, fun U hU hW => ⟨rfl, by rw [hU]; exact h1, by rw [hU]; exact h2, va_K.moved hW.alike C.2.2.2.2.2.1⟩⟩ rfl hn h5.1 hst (lv_room hlo) hd hf) k
theorem g_callI {y : MethodName} {bytes : ByteArray} {maxL index b : Nat} {rm : Room} {As rest : List Value} {Post : Option Value → gW → Nat → Prop} (n : Nat) (C : gC Z cc nL own gT E)
    (hM : gMet (gl Z) E y bytes maxL none rm (.ref (ad b) :: As) ad u sz Post) (hcode : Cond.code y bytes maxL none ∈ gT) (hini : Cond.initialized y.cls ∈ gT) (hl : Cond.methodLink own index y ∈ gT) (hin : Cond.instanceMethod y ∈ gT) (hy : y.name = "<init>")
    (hdd : y.cls ≠ "java/lang/invoke/MethodHandle" ∧ y.cls ≠ "java/lang/invoke/VarHandle" ∧ (parseMethodDescriptor y.desc).map (fun d => d.parameters.length) = some n) (hR : rm.frames + 1 ≤ R.frames ∧ 8 + (maxL + 11) + rm.locals ≤ R.locals)
    (hn : As.length = n) (hst : st = As.reverse ++ .ref (ad b) :: rest) (hlo : (rest.map fun v => v.category).sum ≤ 8) (hd : decode cc pc = .ok (.invokespecial index, 3)) (hf : cells + rm.cells ≤ R.cells ∧ slots + rm.slots ≤ R.slots)
    (k : ∀ (v : Option Value) (u' : gW) (sz' : Nat), Post v u' sz' → GW Z R nL E ad u' sz' lv (cells + rm.cells) (slots + rm.slots) (pc + 3) (v.toList ++ rest)) : GW Z R nL E ad u sz lv cells slots pc st :=
  g_run (a := (Value.ref (ad b) :: As).toArray) C (fun H locs ls h1 h2 h5 => va_runI (As := As) (rest := rest) (b := ad b) ⟨C.1, C.2.1, C.2.2.1, C.2.2.2.1, C.2.2.2.2.1⟩ hM
    (cwI n C.2.2.2.2.1 (gGoodC hcode) rfl rfl rfl (C.2.2.2.2.1 _ hini) (C.2.2.2.2.1 _ hl) (C.2.2.2.2.1 _ hin) hy hdd hR) ⟨gBlind, fun U hU hW => ⟨rfl, by rw [hU]; exact h1, by rw [hU]; exact h2, va_K.moved hW.alike C.2.2.2.2.2.1⟩⟩ rfl hn h5.1 hst (lv_room hlo) hd hf) k
theorem g_callIN {y : MethodName} {host : String} {bytes : ByteArray} {maxL index b : Nat} {rm : Room} {As rest : List Value} {Post : Option Value → gW → Nat → Prop} (n : Nat) (C : gC Z cc nL own gT E)
    (hM : gMet (gl Z) E y bytes maxL none rm (.ref (ad b) :: As) ad u sz Post) (hcode : Cond.code y bytes maxL none ∈ gT) (hini : Cond.initialized y.cls ∈ gT) (hl : Cond.methodLinkNest own index y host ∈ gT) (hin : Cond.instanceMethod y ∈ gT) (hy : y.name = "<init>")
    (hdd : y.cls ≠ "java/lang/invoke/MethodHandle" ∧ y.cls ≠ "java/lang/invoke/VarHandle" ∧ (parseMethodDescriptor y.desc).map (fun d => d.parameters.length) = some n) (hR : rm.frames + 1 ≤ R.frames ∧ 8 + (maxL + 11) + rm.locals ≤ R.locals)
    (hn : As.length = n) (hst : st = As.reverse ++ .ref (ad b) :: rest) (hlo : (rest.map fun v => v.category).sum ≤ 8) (hd : decode cc pc = .ok (.invokespecial index, 3)) (hf : cells + rm.cells ≤ R.cells ∧ slots + rm.slots ≤ R.slots)
    (k : ∀ (v : Option Value) (u' : gW) (sz' : Nat), Post v u' sz' → GW Z R nL E ad u' sz' lv (cells + rm.cells) (slots + rm.slots) (pc + 3) (v.toList ++ rest)) : GW Z R nL E ad u sz lv cells slots pc st :=
  g_run (a := (Value.ref (ad b) :: As).toArray) C (fun H locs ls h1 h2 h5 => va_runIN (As := As) (rest := rest) (b := ad b) ⟨C.1, C.2.1, C.2.2.1, C.2.2.2.1, C.2.2.2.2.1⟩ hM
    ⟨va_cnB n C.2.2.2.2.1 (gGoodC hcode) rfl rfl rfl (C.2.2.2.2.1 _ hl) (C.2.2.2.2.1 _ hini) hdd hR, hy, C.2.2.2.2.1 _ hin⟩ ⟨gBlind, fun U hU hW => ⟨rfl, by rw [hU]; exact h1, by rw [hU]; exact h2, va_K.moved hW.alike C.2.2.2.2.2.1⟩⟩ rfl hn h5.1 hst (lv_room hlo) hd hf) k
theorem g_callSN {y : MethodName} {host : String} {bytes : ByteArray} {maxL index : Nat} {ret : Option FieldType} {rm : Room} {As rest : List Value} {Post : Option Value → gW → Nat → Prop} (n : Nat) (C : gC Z cc nL own gT E)
    (hM : gMet (gl Z) E y bytes maxL ret rm As ad u sz Post) (hcode : Cond.code y bytes maxL ret ∈ gT) (hini : Cond.initialized y.cls ∈ gT) (hl : Cond.methodLinkNest own index y host ∈ gT) (hin : Cond.static y ∈ gT)
    (hdd : y.cls ≠ "java/lang/invoke/MethodHandle" ∧ y.cls ≠ "java/lang/invoke/VarHandle" ∧ (parseMethodDescriptor y.desc).map (fun d => d.parameters.length) = some n) (hR : rm.frames + 1 ≤ R.frames ∧ 8 + (maxL + 11) + rm.locals ≤ R.locals)
    (hn : As.length = n) (hst : st = As.reverse ++ rest) (hlo : (rest.map fun v => v.category).sum ≤ 8) (hd : decode cc pc = .ok (.invokestatic index, 3)) (hf : cells + rm.cells ≤ R.cells ∧ slots + rm.slots ≤ R.slots)
    (k : ∀ (v : Option Value) (u' : gW) (sz' : Nat), Post v u' sz' → GW Z R nL E ad u' sz' lv (cells + rm.cells) (slots + rm.slots) (pc + 3) (v.toList ++ rest)) : GW Z R nL E ad u sz lv cells slots pc st :=
  g_run (a := As.toArray) C (fun H locs ls h1 h2 h5 => va_runSN (As := As) (rest := rest) ⟨C.1, C.2.1, C.2.2.1, C.2.2.2.1, C.2.2.2.2.1⟩ hM
    ⟨va_cnB n C.2.2.2.2.1 (gGoodC hcode) rfl rfl rfl (C.2.2.2.2.1 _ hl) (C.2.2.2.2.1 _ hini) hdd hR, C.2.2.2.2.1 _ hin, trivial⟩ ⟨gBlind, fun U hU hW => ⟨rfl, by rw [hU]; exact h1, by rw [hU]; exact h2, va_K.moved hW.alike C.2.2.2.2.2.1⟩⟩ rfl hn h5.1 hst (lv_room hlo) hd hf) k
theorem g_callVN {y : MethodName} {host : String} {bytes : ByteArray} {maxL index ci b N : Nat} {T : u_T} {ret : Option FieldType} {rm : Room} {As rest fs : List Value} {Post : Option Value → gW → Nat → Prop} (n : Nat) (C : gC Z cc nL own gT E)
    (hM : gMet (gl Z) E y bytes maxL ret rm (.ref (ad b) :: As) ad u sz Post) (hcode : Cond.code y bytes maxL ret ∈ gT) (hini : Cond.initialized y.cls ∈ gT) (hl : Cond.methodLinkNest own index y host ∈ gT) (hin : Cond.instanceMethod y ∈ gT) (hsel : Cond.selects y.cls y y ∈ gT)
    (hdd : y.cls ≠ "java/lang/invoke/MethodHandle" ∧ y.cls ≠ "java/lang/invoke/VarHandle" ∧ (parseMethodDescriptor y.desc).map (fun d => d.parameters.length) = some n) (hR : rm.frames + 1 ≤ R.frames ∧ 8 + (maxL + 11) + rm.locals ≤ R.locals)
    (hb : u b = some (.inr (ci, fs))) (hc : E.2.1[ci]? = some (y.cls, T, N)) (hn : As.length = n) (hst : st = As.reverse ++ .ref (ad b) :: rest) (hlo : (rest.map fun v => v.category).sum ≤ 8) (hd : decode cc pc = .ok (.invokevirtual index, 3)) (hf : cells + rm.cells ≤ R.cells ∧ slots + rm.slots ≤ R.slots)
    (k : ∀ (v : Option Value) (u' : gW) (sz' : Nat), Post v u' sz' → GW Z R nL E ad u' sz' lv (cells + rm.cells) (slots + rm.slots) (pc + 3) (v.toList ++ rest)) : GW Z R nL E ad u sz lv cells slots pc st :=
  g_run (a := (Value.ref (ad b) :: As).toArray) C (fun H locs ls h1 h2 h5 => va_runVN (C := y.cls) (As := As) (rest := rest) (b := ad b) ⟨C.1, C.2.1, C.2.2.1, C.2.2.2.1, C.2.2.2.2.1⟩ hM
    ⟨va_cnB n C.2.2.2.2.1 (gGoodC hcode) rfl rfl rfl (C.2.2.2.2.1 _ hl) (C.2.2.2.2.1 _ hini) hdd hR, C.2.2.2.2.1 _ hin, C.2.2.2.2.1 _ hsel⟩ ⟨gBlind, va_recv C.2.2.2.2.2.1 (gP_one h2 hb) (q0 := 0) hc rfl, fun U hU hW => ⟨rfl, by rw [hU]; exact h1, by rw [hU]; exact h2, va_K.moved hW.alike C.2.2.2.2.2.1⟩⟩ rfl hn h5.1 hst (lv_room hlo) hd hf) k
end GCALL
end
