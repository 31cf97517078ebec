-- ===== PART A: goes FIRST, ahead of the names: the tables' words, and 'selects' of the private methods out of them =====
/-- a private method of a class that the tables say can be made, by its rows of tables_1 -/
def lw_okq (q : MethodName × Nat) : Prop := (q.1.cls ≠ "java/lang/invoke/MethodHandle" ∧ q.1.cls ≠ "java/lang/invoke/VarHandle") ∧ Cond.instantiable q.1.cls q.2 ∈ tables_1 ∧ Cond.privateMethod q.1 ∈ tables_1 ∧ Cond.instanceMethod q.1 ∈ tables_1
theorem lw_p0 : lw_okq (⟨"Layertreaty", "treatyAt", "(I)LLayertreaty$Treaty;"⟩, 9) := ⟨⟨by decide +kernel, by decide +kernel⟩, List.mem_of_getElem? (i := 37) (by decide +kernel), List.mem_of_getElem? (i := 203) (by decide +kernel), List.mem_of_getElem? (i := 204) (by decide +kernel)⟩
theorem lw_p1 : lw_okq (⟨"java/lang/Throwable", "fillInStackTrace", "(I)Ljava/lang/Throwable;"⟩, 6) := ⟨⟨by decide +kernel, by decide +kernel⟩, List.mem_of_getElem? (i := 256) (by decide +kernel), List.mem_of_getElem? (i := 254) (by decide +kernel), List.mem_of_getElem? (i := 255) (by decide +kernel)⟩
theorem lw_p2 : lw_okq (⟨"Layertreaty$Flow", "serveLoss", "(LLayertreaty$Claim;)V"⟩, 6) := ⟨⟨by decide +kernel, by decide +kernel⟩, List.mem_of_getElem? (i := 71) (by decide +kernel), List.mem_of_getElem? (i := 356) (by decide +kernel), List.mem_of_getElem? (i := 357) (by decide +kernel)⟩
theorem lw_p3 : lw_okq (⟨"Layertreaty$Flow", "findOpen", "(LLayertreaty$Cover;)V"⟩, 6) := ⟨⟨by decide +kernel, by decide +kernel⟩, List.mem_of_getElem? (i := 71) (by decide +kernel), List.mem_of_getElem? (i := 404) (by decide +kernel), List.mem_of_getElem? (i := 405) (by decide +kernel)⟩
theorem lw_p4 : lw_okq (⟨"java/util/ArrayList", "add", "(Ljava/lang/Object;[Ljava/lang/Object;I)V"⟩, 3) := ⟨⟨by decide +kernel, by decide +kernel⟩, List.mem_of_getElem? (i := 45) (by decide +kernel), List.mem_of_getElem? (i := 416) (by decide +kernel), List.mem_of_getElem? (i := 417) (by decide +kernel)⟩
theorem lw_p5 : lw_okq (⟨"java/util/ArrayList", "grow", "()[Ljava/lang/Object;"⟩, 3) := ⟨⟨by decide +kernel, by decide +kernel⟩, List.mem_of_getElem? (i := 45) (by decide +kernel), List.mem_of_getElem? (i := 420) (by decide +kernel), List.mem_of_getElem? (i := 421) (by decide +kernel)⟩
theorem lw_p6 : lw_okq (⟨"java/util/ArrayList", "grow", "(I)[Ljava/lang/Object;"⟩, 3) := ⟨⟨by decide +kernel, by decide +kernel⟩, List.mem_of_getElem? (i := 45) (by decide +kernel), List.mem_of_getElem? (i := 424) (by decide +kernel), List.mem_of_getElem? (i := 425) (by decide +kernel)⟩
theorem lw_p7 : lw_okq (⟨"Layertreaty$Flow", "serveZone", "(LLayertreaty$Cover;IZ)V"⟩, 6) := ⟨⟨by decide +kernel, by decide +kernel⟩, List.mem_of_getElem? (i := 71) (by decide +kernel), List.mem_of_getElem? (i := 474) (by decide +kernel), List.mem_of_getElem? (i := 475) (by decide +kernel)⟩
theorem lw_p8 : lw_okq (⟨"Layertreaty$Laying", "worthOf", "(ILLayertreaty$Treaty;)J"⟩, 6) := ⟨⟨by decide +kernel, by decide +kernel⟩, List.mem_of_getElem? (i := 79) (by decide +kernel), List.mem_of_getElem? (i := 498) (by decide +kernel), List.mem_of_getElem? (i := 499) (by decide +kernel)⟩
theorem lw_p9 : lw_okq (⟨"Layertreaty$Laying", "isCut", "(II)Z"⟩, 6) := ⟨⟨by decide +kernel, by decide +kernel⟩, List.mem_of_getElem? (i := 79) (by decide +kernel), List.mem_of_getElem? (i := 502) (by decide +kernel), List.mem_of_getElem? (i := 503) (by decide +kernel)⟩
theorem lw_p10 : lw_okq (⟨"Layertreaty$Laying", "laidCuts", "()I"⟩, 6) := ⟨⟨by decide +kernel, by decide +kernel⟩, List.mem_of_getElem? (i := 79) (by decide +kernel), List.mem_of_getElem? (i := 506) (by decide +kernel), List.mem_of_getElem? (i := 507) (by decide +kernel)⟩
theorem lw_p11 : lw_okq (⟨"Layertreaty$Flow", "gather", "(III)V"⟩, 6) := ⟨⟨by decide +kernel, by decide +kernel⟩, List.mem_of_getElem? (i := 71) (by decide +kernel), List.mem_of_getElem? (i := 510) (by decide +kernel), List.mem_of_getElem? (i := 511) (by decide +kernel)⟩
theorem lw_p12 : lw_okq (⟨"Layertreaty$Flow", "serveGroup", "(LLayertreaty$Cover;)J"⟩, 6) := ⟨⟨by decide +kernel, by decide +kernel⟩, List.mem_of_getElem? (i := 71) (by decide +kernel), List.mem_of_getElem? (i := 514) (by decide +kernel), List.mem_of_getElem? (i := 515) (by decide +kernel)⟩
theorem lw_p13 : lw_okq (⟨"Layertreaty", "settle", "()V"⟩, 9) := ⟨⟨by decide +kernel, by decide +kernel⟩, List.mem_of_getElem? (i := 37) (by decide +kernel), List.mem_of_getElem? (i := 523) (by decide +kernel), List.mem_of_getElem? (i := 524) (by decide +kernel)⟩
theorem lw_p14 : lw_okq (⟨"Layertreaty", "playAll", "()V"⟩, 9) := ⟨⟨by decide +kernel, by decide +kernel⟩, List.mem_of_getElem? (i := 37) (by decide +kernel), List.mem_of_getElem? (i := 570) (by decide +kernel), List.mem_of_getElem? (i := 571) (by decide +kernel)⟩
theorem lw_p15 : lw_okq (⟨"Layertreaty", "play", "(LLayertreaty$Scenario;)V"⟩, 9) := ⟨⟨by decide +kernel, by decide +kernel⟩, List.mem_of_getElem? (i := 37) (by decide +kernel), List.mem_of_getElem? (i := 575) (by decide +kernel), List.mem_of_getElem? (i := 576) (by decide +kernel)⟩
def lw_privs_1 : List (MethodName × Nat) := [(⟨"Layertreaty", "treatyAt", "(I)LLayertreaty$Treaty;"⟩, 9), (⟨"java/lang/Throwable", "fillInStackTrace", "(I)Ljava/lang/Throwable;"⟩, 6), (⟨"Layertreaty$Flow", "serveLoss", "(LLayertreaty$Claim;)V"⟩, 6), (⟨"Layertreaty$Flow", "findOpen", "(LLayertreaty$Cover;)V"⟩, 6), (⟨"java/util/ArrayList", "add", "(Ljava/lang/Object;[Ljava/lang/Object;I)V"⟩, 3), (⟨"java/util/ArrayList", "grow", "()[Ljava/lang/Object;"⟩, 3), (⟨"java/util/ArrayList", "grow", "(I)[Ljava/lang/Object;"⟩, 3), (⟨"Layertreaty$Flow", "serveZone", "(LLayertreaty$Cover;IZ)V"⟩, 6), (⟨"Layertreaty$Laying", "worthOf", "(ILLayertreaty$Treaty;)J"⟩, 6), (⟨"Layertreaty$Laying", "isCut", "(II)Z"⟩, 6), (⟨"Layertreaty$Laying", "laidCuts", "()I"⟩, 6), (⟨"Layertreaty$Flow", "gather", "(III)V"⟩, 6), (⟨"Layertreaty$Flow", "serveGroup", "(LLayertreaty$Cover;)J"⟩, 6), (⟨"Layertreaty", "settle", "()V"⟩, 9), (⟨"Layertreaty", "playAll", "()V"⟩, 9), (⟨"Layertreaty", "play", "(LLayertreaty$Scenario;)V"⟩, 9)]
theorem lw_r1 : ∀ q ∈ lw_privs_1, lw_okq q := List.forall_mem_cons.mpr ⟨lw_p0, List.forall_mem_cons.mpr ⟨lw_p1, List.forall_mem_cons.mpr ⟨lw_p2, List.forall_mem_cons.mpr ⟨lw_p3, List.forall_mem_cons.mpr ⟨lw_p4, List.forall_mem_cons.mpr ⟨lw_p5, List.forall_mem_cons.mpr ⟨lw_p6, List.forall_mem_cons.mpr ⟨lw_p7, List.forall_mem_cons.mpr ⟨lw_p8, List.forall_mem_cons.mpr ⟨lw_p9, List.forall_mem_cons.mpr ⟨lw_p10, List.forall_mem_cons.mpr ⟨lw_p11, List.forall_mem_cons.mpr ⟨lw_p12, List.forall_mem_cons.mpr ⟨lw_p13, List.forall_mem_cons.mpr ⟨lw_p14, List.forall_mem_cons.mpr ⟨lw_p15, fun _ h => absurd h List.not_mem_nil⟩⟩⟩⟩⟩⟩⟩⟩⟩⟩⟩⟩⟩⟩⟩⟩
theorem lw_p16 : lw_okq (⟨"Layertreaty", "settlePool", "()V"⟩, 9) := ⟨⟨by decide +kernel, by decide +kernel⟩, List.mem_of_getElem? (i := 37) (by decide +kernel), List.mem_of_getElem? (i := 599) (by decide +kernel), List.mem_of_getElem? (i := 600) (by decide +kernel)⟩
theorem lw_p17 : lw_okq (⟨"Layertreaty$Pool", "goRounds", "([JI)V"⟩, 9) := ⟨⟨by decide +kernel, by decide +kernel⟩, List.mem_of_getElem? (i := 130) (by decide +kernel), List.mem_of_getElem? (i := 608) (by decide +kernel), List.mem_of_getElem? (i := 609) (by decide +kernel)⟩
theorem lw_p18 : lw_okq (⟨"java/util/ArrayList", "rangeCheckForAdd", "(I)V"⟩, 3) := ⟨⟨by decide +kernel, by decide +kernel⟩, List.mem_of_getElem? (i := 45) (by decide +kernel), List.mem_of_getElem? (i := 797) (by decide +kernel), List.mem_of_getElem? (i := 798) (by decide +kernel)⟩
theorem lw_p19 : lw_okq (⟨"java/util/ArrayList", "outOfBoundsMsg", "(I)Ljava/lang/String;"⟩, 3) := ⟨⟨by decide +kernel, by decide +kernel⟩, List.mem_of_getElem? (i := 45) (by decide +kernel), List.mem_of_getElem? (i := 802) (by decide +kernel), List.mem_of_getElem? (i := 803) (by decide +kernel)⟩
theorem lw_p20 : lw_okq (⟨"Layertreaty", "claimAt", "(I)LLayertreaty$Claim;"⟩, 9) := ⟨⟨by decide +kernel, by decide +kernel⟩, List.mem_of_getElem? (i := 37) (by decide +kernel), List.mem_of_getElem? (i := 1043) (by decide +kernel), List.mem_of_getElem? (i := 1044) (by decide +kernel)⟩
theorem lw_p21 : lw_okq (⟨"Layertreaty", "coverAt", "(I)LLayertreaty$Cover;"⟩, 9) := ⟨⟨by decide +kernel, by decide +kernel⟩, List.mem_of_getElem? (i := 37) (by decide +kernel), List.mem_of_getElem? (i := 1217) (by decide +kernel), List.mem_of_getElem? (i := 1218) (by decide +kernel)⟩
theorem lw_p22 : lw_okq (⟨"Layertreaty", "scenarioAt", "(I)LLayertreaty$Scenario;"⟩, 9) := ⟨⟨by decide +kernel, by decide +kernel⟩, List.mem_of_getElem? (i := 37) (by decide +kernel), List.mem_of_getElem? (i := 1315) (by decide +kernel), List.mem_of_getElem? (i := 1316) (by decide +kernel)⟩
theorem lw_p23 : lw_okq (⟨"Layertreaty", "weightAbove", "(J)I"⟩, 9) := ⟨⟨by decide +kernel, by decide +kernel⟩, List.mem_of_getElem? (i := 37) (by decide +kernel), List.mem_of_getElem? (i := 1353) (by decide +kernel), List.mem_of_getElem? (i := 1354) (by decide +kernel)⟩
def lw_privs_2 : List (MethodName × Nat) := [(⟨"Layertreaty", "settlePool", "()V"⟩, 9), (⟨"Layertreaty$Pool", "goRounds", "([JI)V"⟩, 9), (⟨"java/util/ArrayList", "rangeCheckForAdd", "(I)V"⟩, 3), (⟨"java/util/ArrayList", "outOfBoundsMsg", "(I)Ljava/lang/String;"⟩, 3), (⟨"Layertreaty", "claimAt", "(I)LLayertreaty$Claim;"⟩, 9), (⟨"Layertreaty", "coverAt", "(I)LLayertreaty$Cover;"⟩, 9), (⟨"Layertreaty", "scenarioAt", "(I)LLayertreaty$Scenario;"⟩, 9), (⟨"Layertreaty", "weightAbove", "(J)I"⟩, 9)]
theorem lw_r2 : ∀ q ∈ lw_privs_2, lw_okq q := List.forall_mem_cons.mpr ⟨lw_p16, List.forall_mem_cons.mpr ⟨lw_p17, List.forall_mem_cons.mpr ⟨lw_p18, List.forall_mem_cons.mpr ⟨lw_p19, List.forall_mem_cons.mpr ⟨lw_p20, List.forall_mem_cons.mpr ⟨lw_p21, List.forall_mem_cons.mpr ⟨lw_p22, List.forall_mem_cons.mpr ⟨lw_p23, fun _ h => absurd h List.not_mem_nil⟩⟩⟩⟩⟩⟩⟩⟩
def lw_privs : List (MethodName × Nat) := lw_privs_1 ++ (lw_privs_2)
def lw_tbl : List Cond := k2_sels lw_privs ++ tables_1
theorem lw_privs_ok : ∀ q ∈ lw_privs, lw_okq q := by
  show ∀ q ∈ lw_privs_1 ++ (lw_privs_2), lw_okq q
  exact List.forall_mem_append.mpr ⟨lw_r1, lw_r2⟩
/-- the streams that the claim lets the run draw from -/
abbrev lw_cs : List Choice := [Jvm.Choice.named "NaN.bits"]
theorem lw_bits : nanBits ∈ lw_cs := by first | decide | exact List.mem_cons_self | simp [lw_cs, nanBits]
/-- all words that the tables alone decide: every method's word list is its own code, then this -/
def zB : List Cond := lw_tbl.filter goodWord
theorem zb_m (k : Nat) {w : Cond} (h : lw_tbl[k]? = some w) (g : goodWord w = true) : w ∈ zB := List.mem_filter.mpr ⟨List.mem_of_getElem? h, g⟩
theorem zb_in {w : Cond} (h : w ∈ zB) : w ∈ lw_tbl := (List.mem_filter.mp h).1
theorem zb_good {w : Cond} (h : w ∈ zB) : goodWord w = true := (List.mem_filter.mp h).2
theorem zb_goodIn {y : Cond} (h : y ∈ zB) : GoodIn zB (y :: zB) := fun w hw => by
  rcases List.mem_cons.mp hw with rfl | hw
  · exact ⟨h, good_of_word (zb_good h)⟩
  · exact ⟨hw, good_of_word (zb_good hw)⟩
theorem zb_goodIn2 {y x : Cond} (h : y ∈ zB) : GoodIn (x :: zB) (y :: zB) := fun w hw => ⟨List.mem_cons_of_mem _ (zb_goodIn h w hw).1, (zb_goodIn h w hw).2⟩
def RX0 : String := "Layertreaty$Claim"
def RX1 : String := "Layertreaty$Cover"
def RX2 : String := "Layertreaty$Flow"
def RX3 : String := "Layertreaty$Laying"
def RX4 : String := "Layertreaty$Policy"
def RX5 : String := "Layertreaty$Pool"
def RX6 : String := "Layertreaty$Scenario"
def RX7 : String := "Layertreaty$Treaty"
def RX8 : String := "Layertreaty"
def RJ6 : String := "java/lang/Integer"
def RJ9 : String := "java/lang/Math"
def RJ0 : String := "java/lang/String"
def RJ1 : String := "java/lang/StringLatin1"
def RJ10 : String := "java/lang/System"
def RJxa1e45 : String := "java/util/AbstractCollection"
def RJxc12de : String := "java/util/AbstractList"
def RJx4a65c : String := "java/util/ArrayList"
def RJ7 : String := "java/util/Arrays"
def RJ15 : String := "java/util/Objects"
def RJ8 : String := "jdk/internal/util/ArraysSupport"
def RJ3 : String := "jdk/internal/util/Preconditions"
def RL : String := "LayertreatyLaw"
def TX0 : u_T := fun k => match k with
  | 0 => ("Layertreaty$Claim", "policy", "LLayertreaty$Policy;", true)
  | 1 => ("Layertreaty$Claim", "took", "[J", true)
  | 2 => ("Layertreaty$Claim", "events", "[I", true)
  | 3 => ("Layertreaty$Claim", "day", "I", false)
  | 4 => ("Layertreaty$Claim", "told", "I", false)
  | 5 => ("Layertreaty$Claim", "amount", "I", false)
  | _ => ("Layertreaty$Claim", "left", "J", false)
def tyX0 : Nat → FieldType := fun k => match k with
  | 0 => .object "Layertreaty$Policy"
  | 1 => .array .long
  | 2 => .array .int
  | 3 => .int
  | 4 => .int
  | 5 => .int
  | _ => .long
theorem nmX0 : ∀ a, a < 7 → ∀ b, b < 7 → a ≠ b → (TX0 a).2.1 ≠ (TX0 b).2.1 := by decide +kernel
theorem tyX0_ok : ∀ k, k < 7 → parseFieldDescriptor (TX0 k).2.2.1 = some (tyX0 k) := by decide +kernel
def TX1 : u_T := fun k => match k with
  | 0 => ("Layertreaty$Cover", "treaty", "LLayertreaty$Treaty;", true)
  | 1 => ("Layertreaty$Cover", "events", "[I", true)
  | 2 => ("Layertreaty$Cover", "limitLeft", "J", false)
  | 3 => ("Layertreaty$Cover", "taken", "J", false)
  | 4 => ("Layertreaty$Cover", "reinstated", "J", false)
  | _ => ("Layertreaty$Cover", "owed", "J", false)
def tyX1 : Nat → FieldType := fun k => match k with
  | 0 => .object "Layertreaty$Treaty"
  | 1 => .array .int
  | 2 => .long
  | 3 => .long
  | 4 => .long
  | _ => .long
theorem nmX1 : ∀ a, a < 6 → ∀ b, b < 6 → a ≠ b → (TX1 a).2.1 ≠ (TX1 b).2.1 := by decide +kernel
theorem tyX1_ok : ∀ k, k < 6 → parseFieldDescriptor (TX1 k).2.2.1 = some (tyX1 k) := by decide +kernel
def TX2 : u_T := fun k => match k with
  | 0 => ("Layertreaty$Flow", "claims", "Ljava/util/ArrayList;", true)
  | 1 => ("Layertreaty$Flow", "covers", "Ljava/util/ArrayList;", true)
  | 2 => ("Layertreaty$Flow", "open", "Ljava/util/ArrayList;", true)
  | 3 => ("Layertreaty$Flow", "group", "Ljava/util/ArrayList;", true)
  | 4 => ("Layertreaty$Flow", "laying", "LLayertreaty$Laying;", true)
  | _ => ("Layertreaty$Flow", "isBest", "Z", false)
def tyX2 : Nat → FieldType := fun k => match k with
  | 0 => .object "java/util/ArrayList"
  | 1 => .object "java/util/ArrayList"
  | 2 => .object "java/util/ArrayList"
  | 3 => .object "java/util/ArrayList"
  | 4 => .object "Layertreaty$Laying"
  | _ => .boolean
theorem nmX2 : ∀ a, a < 6 → ∀ b, b < 6 → a ≠ b → (TX2 a).2.1 ≠ (TX2 b).2.1 := by decide +kernel
theorem tyX2_ok : ∀ k, k < 6 → parseFieldDescriptor (TX2 k).2.2.1 = some (tyX2 k) := by decide +kernel
def TX3 : u_T := fun k => match k with
  | 0 => ("Layertreaty$Laying", "days", "[I", true)
  | 1 => ("Layertreaty$Laying", "sums", "[J", true)
  | 2 => ("Layertreaty$Laying", "ends", "[I", true)
  | 3 => ("Layertreaty$Laying", "brings", "[J", true)
  | 4 => ("Layertreaty$Laying", "counts", "[I", true)
  | _ => ("Layertreaty$Laying", "size", "I", false)
def tyX3 : Nat → FieldType := fun k => match k with
  | 0 => .array .int
  | 1 => .array .long
  | 2 => .array .int
  | 3 => .array .long
  | 4 => .array .int
  | _ => .int
theorem nmX3 : ∀ a, a < 6 → ∀ b, b < 6 → a ≠ b → (TX3 a).2.1 ≠ (TX3 b).2.1 := by decide +kernel
theorem tyX3_ok : ∀ k, k < 6 → parseFieldDescriptor (TX3 k).2.2.1 = some (tyX3 k) := by decide +kernel
def TX4 : u_T := fun k => match k with
  | 0 => ("Layertreaty$Policy", "sum", "I", true)
  | 1 => ("Layertreaty$Policy", "zone", "I", true)
  | 2 => ("Layertreaty$Policy", "first", "I", true)
  | _ => ("Layertreaty$Policy", "last", "I", true)
def tyX4 : Nat → FieldType := fun k => match k with
  | 0 => .int
  | 1 => .int
  | 2 => .int
  | _ => .int
theorem nmX4 : ∀ a, a < 4 → ∀ b, b < 4 → a ≠ b → (TX4 a).2.1 ≠ (TX4 b).2.1 := by decide +kernel
theorem tyX4_ok : ∀ k, k < 4 → parseFieldDescriptor (TX4 k).2.2.1 = some (tyX4 k) := by decide +kernel
def TX5 : u_T := fun k => match k with
  | 0 => ("Layertreaty$Pool", "isFailed", "[Z", true)
  | 1 => ("Layertreaty$Pool", "receivers", "[I", true)
  | 2 => ("Layertreaty$Pool", "bounds", "[I", true)
  | 3 => ("Layertreaty$Pool", "limits", "[I", true)
  | 4 => ("Layertreaty$Pool", "own", "[J", true)
  | 5 => ("Layertreaty$Pool", "comes", "[J", true)
  | 6 => ("Layertreaty$Pool", "early", "[J", true)
  | 7 => ("Layertreaty$Pool", "above", "[J", true)
  | _ => ("Layertreaty$Pool", "before", "[J", true)
def tyX5 : Nat → FieldType := fun k => match k with
  | 0 => .array .boolean
  | 1 => .array .int
  | 2 => .array .int
  | 3 => .array .int
  | 4 => .array .long
  | 5 => .array .long
  | 6 => .array .long
  | 7 => .array .long
  | _ => .array .long
theorem nmX5 : ∀ a, a < 9 → ∀ b, b < 9 → a ≠ b → (TX5 a).2.1 ≠ (TX5 b).2.1 := by decide +kernel
theorem tyX5_ok : ∀ k, k < 9 → parseFieldDescriptor (TX5 k).2.2.1 = some (tyX5 k) := by decide +kernel
def TX6 : u_T := fun k => match k with
  | 0 => ("Layertreaty$Scenario", "day", "I", true)
  | 1 => ("Layertreaty$Scenario", "weight", "I", true)
  | 2 => ("Layertreaty$Scenario", "damages", "[I", true)
  | _ => ("Layertreaty$Scenario", "net", "J", false)
def tyX6 : Nat → FieldType := fun k => match k with
  | 0 => .int
  | 1 => .int
  | 2 => .array .int
  | _ => .long
theorem nmX6 : ∀ a, a < 4 → ∀ b, b < 4 → a ≠ b → (TX6 a).2.1 ≠ (TX6 b).2.1 := by decide +kernel
theorem tyX6_ok : ∀ k, k < 4 → parseFieldDescriptor (TX6 k).2.2.1 = some (tyX6 k) := by decide +kernel
def TX7 : u_T := fun k => match k with
  | 0 => ("Layertreaty$Treaty", "number", "I", true)
  | 1 => ("Layertreaty$Treaty", "kind", "C", true)
  | 2 => ("Layertreaty$Treaty", "basis", "C", true)
  | 3 => ("Layertreaty$Treaty", "first", "I", true)
  | 4 => ("Layertreaty$Treaty", "last", "I", true)
  | 5 => ("Layertreaty$Treaty", "a", "I", true)
  | 6 => ("Layertreaty$Treaty", "b", "I", true)
  | 7 => ("Layertreaty$Treaty", "shares", "[I", true)
  | 8 => ("Layertreaty$Treaty", "days", "I", false)
  | 9 => ("Layertreaty$Treaty", "many", "I", false)
  | 10 => ("Layertreaty$Treaty", "price", "I", false)
  | 11 => ("Layertreaty$Treaty", "isByTime", "Z", false)
  | 12 => ("Layertreaty$Treaty", "premium", "I", false)
  | 13 => ("Layertreaty$Treaty", "isCommuted", "Z", false)
  | _ => ("Layertreaty$Treaty", "commutedFor", "I", false)
def tyX7 : Nat → FieldType := fun k => match k with
  | 0 => .int
  | 1 => .char
  | 2 => .char
  | 3 => .int
  | 4 => .int
  | 5 => .int
  | 6 => .int
  | 7 => .array .int
  | 8 => .int
  | 9 => .int
  | 10 => .int
  | 11 => .boolean
  | 12 => .int
  | 13 => .boolean
  | _ => .int
theorem nmX7 : ∀ a, a < 15 → ∀ b, b < 15 → a ≠ b → (TX7 a).2.1 ≠ (TX7 b).2.1 := by decide +kernel
theorem tyX7_ok : ∀ k, k < 15 → parseFieldDescriptor (TX7 k).2.2.1 = some (tyX7 k) := by decide +kernel
def TX8 : u_T := fun k => match k with
  | 0 => ("Layertreaty", "policies", "Ljava/util/ArrayList;", true)
  | 1 => ("Layertreaty", "claims", "Ljava/util/ArrayList;", true)
  | 2 => ("Layertreaty", "terms", "Ljava/util/ArrayList;", true)
  | 3 => ("Layertreaty", "scenarios", "Ljava/util/ArrayList;", true)
  | 4 => ("Layertreaty", "damages", "Ljava/util/ArrayList;", true)
  | 5 => ("Layertreaty", "real", "LLayertreaty$Flow;", true)
  | 6 => ("Layertreaty", "trial", "LLayertreaty$Flow;", true)
  | 7 => ("Layertreaty", "pool", "LLayertreaty$Pool;", true)
  | _ => ("Layertreaty", "isSettled", "Z", false)
def tyX8 : Nat → FieldType := fun k => match k with
  | 0 => .object "java/util/ArrayList"
  | 1 => .object "java/util/ArrayList"
  | 2 => .object "java/util/ArrayList"
  | 3 => .object "java/util/ArrayList"
  | 4 => .object "java/util/ArrayList"
  | 5 => .object "Layertreaty$Flow"
  | 6 => .object "Layertreaty$Flow"
  | 7 => .object "Layertreaty$Pool"
  | _ => .boolean
theorem nmX8 : ∀ a, a < 9 → ∀ b, b < 9 → a ≠ b → (TX8 a).2.1 ≠ (TX8 b).2.1 := by decide +kernel
theorem tyX8_ok : ∀ k, k < 9 → parseFieldDescriptor (TX8 k).2.2.1 = some (tyX8 k) := by decide +kernel
def TJx4a65c : u_T := fun k => match k with
  | 0 => ("java/util/AbstractList", "modCount", "I", false)
  | 1 => ("java/util/ArrayList", "elementData", "[Ljava/lang/Object;", false)
  | _ => ("java/util/ArrayList", "size", "I", false)
def tyJx4a65c : Nat → FieldType := fun k => match k with
  | 0 => .int
  | 1 => .array (.object "java/lang/Object")
  | _ => .int
theorem nmJx4a65c : ∀ a, a < 3 → ∀ b, b < 3 → a ≠ b → (TJx4a65c a).2.1 ≠ (TJx4a65c b).2.1 := by decide +kernel
theorem tyJx4a65c_ok : ∀ k, k < 3 → parseFieldDescriptor (TJx4a65c k).2.2.1 = some (tyJx4a65c k) := by decide +kernel
abbrev zCl : List vw_C := [(RX0, TX0, 7), (RX1, TX1, 6), (RX2, TX2, 6), (RX3, TX3, 6), (RX4, TX4, 4), (RX5, TX5, 9), (RX6, TX6, 4), (RX7, TX7, 15), (RX8, TX8, 9), (RJx4a65c, TJx4a65c, 3)]
abbrev cX0_init : ByteArray := prog_2_method_1_code
def yX0_init : MethodName := ⟨RX0, "<init>", "(LLayertreaty$Policy;)V"⟩
abbrev cX0_happen : ByteArray := prog_2_method_2_code
def yX0_happen : MethodName := ⟨RX0, "happen", "(III)V"⟩
abbrev cX0_begin : ByteArray := prog_2_method_3_code
def yX0_begin : MethodName := ⟨RX0, "begin", "()V"⟩
abbrev cX1_init : ByteArray := prog_3_method_1_code
def yX1_init : MethodName := ⟨RX1, "<init>", "(LLayertreaty$Treaty;)V"⟩
abbrev cX1_begin : ByteArray := prog_3_method_2_code
def yX1_begin : MethodName := ⟨RX1, "begin", "()V"⟩
abbrev cX1_takeFrom : ByteArray := prog_3_method_3_code
def yX1_takeFrom : MethodName := ⟨RX1, "takeFrom", "(LLayertreaty$Claim;J)V"⟩
abbrev cX1_refill : ByteArray := prog_3_method_4_code
def yX1_refill : MethodName := ⟨RX1, "refill", "(JI)V"⟩
abbrev cX2_init : ByteArray := prog_4_method_1_code
def yX2_init : MethodName := ⟨RX2, "<init>", "()V"⟩
abbrev cX2_addByDay : ByteArray := prog_4_method_2_code
def yX2_addByDay : MethodName := ⟨RX2, "addByDay", "(LLayertreaty$Claim;)V"⟩
abbrev cX2_isLaidBest : ByteArray := prog_4_method_3_code
def yX2_isLaidBest : MethodName := ⟨RX2, "isLaidBest", "(LLayertreaty$Treaty;)Z"⟩
abbrev cX2_run : ByteArray := prog_4_method_4_code
def yX2_run : MethodName := ⟨RX2, "run", "(I)V"⟩
abbrev cX2_serveLoss : ByteArray := prog_4_method_5_code
def yX2_serveLoss : MethodName := ⟨RX2, "serveLoss", "(LLayertreaty$Claim;)V"⟩
abbrev cX2_serveZone : ByteArray := prog_4_method_6_code
def yX2_serveZone : MethodName := ⟨RX2, "serveZone", "(LLayertreaty$Cover;IZ)V"⟩
abbrev cX2_findOpen : ByteArray := prog_4_method_7_code
def yX2_findOpen : MethodName := ⟨RX2, "findOpen", "(LLayertreaty$Cover;)V"⟩
abbrev cX2_gather : ByteArray := prog_4_method_8_code
def yX2_gather : MethodName := ⟨RX2, "gather", "(III)V"⟩
abbrev cX2_serveGroup : ByteArray := prog_4_method_9_code
def yX2_serveGroup : MethodName := ⟨RX2, "serveGroup", "(LLayertreaty$Cover;)J"⟩
abbrev cX2_allLeft : ByteArray := prog_4_method_10_code
def yX2_allLeft : MethodName := ⟨RX2, "allLeft", "()J"⟩
abbrev cX2_partOf : ByteArray := prog_4_method_11_code
def yX2_partOf : MethodName := ⟨RX2, "partOf", "(LLayertreaty$Treaty;I)J"⟩
abbrev cX2_allPartsOf : ByteArray := prog_4_method_12_code
def yX2_allPartsOf : MethodName := ⟨RX2, "allPartsOf", "(I)J"⟩
abbrev cX2_areLossesWhole : ByteArray := prog_4_method_13_code
def yX2_areLossesWhole : MethodName := ⟨RX2, "areLossesWhole", "()Z"⟩
abbrev cX2_areLimitsKept : ByteArray := prog_4_method_14_code
def yX2_areLimitsKept : MethodName := ⟨RX2, "areLimitsKept", "()Z"⟩
abbrev cX3_init : ByteArray := prog_5_method_1_code
def yX3_init : MethodName := ⟨RX3, "<init>", "()V"⟩
abbrev cX3_add : ByteArray := prog_5_method_2_code
def yX3_add : MethodName := ⟨RX3, "add", "(LLayertreaty$Claim;)V"⟩
abbrev cX3_lay : ByteArray := prog_5_method_3_code
def yX3_lay : MethodName := ⟨RX3, "lay", "(LLayertreaty$Treaty;)V"⟩
abbrev cX3_isBestOfAll : ByteArray := prog_5_method_4_code
def yX3_isBestOfAll : MethodName := ⟨RX3, "isBestOfAll", "(LLayertreaty$Treaty;)Z"⟩
abbrev cX3_isCut : ByteArray := prog_5_method_5_code
def yX3_isCut : MethodName := ⟨RX3, "isCut", "(II)Z"⟩
abbrev cX3_worthOf : ByteArray := prog_5_method_6_code
def yX3_worthOf : MethodName := ⟨RX3, "worthOf", "(ILLayertreaty$Treaty;)J"⟩
abbrev cX3_laidCuts : ByteArray := prog_5_method_7_code
def yX3_laidCuts : MethodName := ⟨RX3, "laidCuts", "()I"⟩
abbrev cX4_init : ByteArray := prog_6_method_1_code
def yX4_init : MethodName := ⟨RX4, "<init>", "(IIII)V"⟩
abbrev cX4_isInForce : ByteArray := prog_6_method_2_code
def yX4_isInForce : MethodName := ⟨RX4, "isInForce", "(I)Z"⟩
abbrev cX5_init : ByteArray := prog_7_method_1_code
def yX5_init : MethodName := ⟨RX5, "<init>", "()V"⟩
abbrev cX5_handedOn : ByteArray := prog_7_method_2_code
def yX5_handedOn : MethodName := ⟨RX5, "handedOn", "(IJ)J"⟩
abbrev cX5_settleRings : ByteArray := prog_7_method_3_code
def yX5_settleRings : MethodName := ⟨RX5, "settleRings", "()V"⟩
abbrev cX5_fits : ByteArray := prog_7_method_4_code
def yX5_fits : MethodName := ⟨RX5, "fits", "()Z"⟩
abbrev cX5_goRounds : ByteArray := prog_7_method_5_code
def yX5_goRounds : MethodName := ⟨RX5, "goRounds", "([JI)V"⟩
abbrev cX6_init : ByteArray := prog_8_method_1_code
def yX6_init : MethodName := ⟨RX6, "<init>", "(II)V"⟩
abbrev cX6_damageOf : ByteArray := prog_8_method_2_code
def yX6_damageOf : MethodName := ⟨RX6, "damageOf", "(LLayertreaty$Policy;)I"⟩
abbrev cX7_init : ByteArray := prog_9_method_1_code
def yX7_init : MethodName := ⟨RX7, "<init>", "(ICCIIII)V"⟩
abbrev cX7_isLimited : ByteArray := prog_9_method_2_code
def yX7_isLimited : MethodName := ⟨RX7, "isLimited", "()Z"⟩
abbrev cX7_wholeLimit : ByteArray := prog_9_method_3_code
def yX7_wholeLimit : MethodName := ⟨RX7, "wholeLimit", "()J"⟩
abbrev cX7_isForEachLoss : ByteArray := prog_9_method_4_code
def yX7_isForEachLoss : MethodName := ⟨RX7, "isForEachLoss", "()Z"⟩
abbrev cX7_coversLoss : ByteArray := prog_9_method_5_code
def yX7_coversLoss : MethodName := ⟨RX7, "coversLoss", "(LLayertreaty$Claim;)Z"⟩
abbrev cX7_layerOf : ByteArray := prog_9_method_6_code
def yX7_layerOf : MethodName := ⟨RX7, "layerOf", "(J)J"⟩
abbrev cX7_wantedOf : ByteArray := prog_9_method_7_code
def yX7_wantedOf : MethodName := ⟨RX7, "wantedOf", "(LLayertreaty$Claim;)J"⟩
abbrev cX7_priceOf : ByteArray := prog_9_method_8_code
def yX7_priceOf : MethodName := ⟨RX7, "priceOf", "(JI)J"⟩
abbrev cX7_allShares : ByteArray := prog_9_method_9_code
def yX7_allShares : MethodName := ⟨RX7, "allShares", "()I"⟩
abbrev cX8_init : ByteArray := prog_1_method_1_code
def yX8_init : MethodName := ⟨RX8, "<init>", "()V"⟩
abbrev cX8_policy : ByteArray := prog_1_method_2_code
def yX8_policy : MethodName := ⟨RX8, "policy", "(IIII)I"⟩
abbrev cX8_loss : ByteArray := prog_1_method_3_code
def yX8_loss : MethodName := ⟨RX8, "loss", "(IIII)I"⟩
abbrev cX8_setAmount : ByteArray := prog_1_method_4_code
def yX8_setAmount : MethodName := ⟨RX8, "setAmount", "(II)I"⟩
abbrev cX8_treaty : ByteArray := prog_1_method_5_code
def yX8_treaty : MethodName := ⟨RX8, "treaty", "(CCIIII)I"⟩
abbrev cX8_setDays : ByteArray := prog_1_method_6_code
def yX8_setDays : MethodName := ⟨RX8, "setDays", "(II)I"⟩
abbrev cX8_reinstate : ByteArray := prog_1_method_7_code
def yX8_reinstate : MethodName := ⟨RX8, "reinstate", "(IIIZ)I"⟩
abbrev cX8_setPremium : ByteArray := prog_1_method_8_code
def yX8_setPremium : MethodName := ⟨RX8, "setPremium", "(II)I"⟩
abbrev cX8_share : ByteArray := prog_1_method_9_code
def yX8_share : MethodName := ⟨RX8, "share", "(III)I"⟩
abbrev cX8_fail : ByteArray := prog_1_method_10_code
def yX8_fail : MethodName := ⟨RX8, "fail", "(IZ)Z"⟩
abbrev cX8_handOn : ByteArray := prog_1_method_11_code
def yX8_handOn : MethodName := ⟨RX8, "handOn", "(IIII)Z"⟩
abbrev cX8_commute : ByteArray := prog_1_method_12_code
def yX8_commute : MethodName := ⟨RX8, "commute", "(II)J"⟩
abbrev cX8_left : ByteArray := prog_1_method_13_code
def yX8_left : MethodName := ⟨RX8, "left", "(I)J"⟩
abbrev cX8_taken : ByteArray := prog_1_method_14_code
def yX8_taken : MethodName := ⟨RX8, "taken", "(I)J"⟩
abbrev cX8_takenFrom : ByteArray := prog_1_method_15_code
def yX8_takenFrom : MethodName := ⟨RX8, "takenFrom", "(II)J"⟩
abbrev cX8_limit : ByteArray := prog_1_method_16_code
def yX8_limit : MethodName := ⟨RX8, "limit", "(I)J"⟩
abbrev cX8_reinstated : ByteArray := prog_1_method_17_code
def yX8_reinstated : MethodName := ⟨RX8, "reinstated", "(I)J"⟩
abbrev cX8_owed : ByteArray := prog_1_method_18_code
def yX8_owed : MethodName := ⟨RX8, "owed", "(I)J"⟩
abbrev cX8_events : ByteArray := prog_1_method_19_code
def yX8_events : MethodName := ⟨RX8, "events", "(II)I"⟩
abbrev cX8_isSame : ByteArray := prog_1_method_21_code
def yX8_isSame : MethodName := ⟨RX8, "isSame", "(I)Z"⟩
abbrev cX8_paid : ByteArray := prog_1_method_22_code
def yX8_paid : MethodName := ⟨RX8, "paid", "(II)J"⟩
abbrev cX8_lost : ByteArray := prog_1_method_23_code
def yX8_lost : MethodName := ⟨RX8, "lost", "(I)J"⟩
abbrev cX8_comes : ByteArray := prog_1_method_24_code
def yX8_comes : MethodName := ⟨RX8, "comes", "(I)J"⟩
abbrev cX8_stays : ByteArray := prog_1_method_25_code
def yX8_stays : MethodName := ⟨RX8, "stays", "(I)J"⟩
abbrev cX8_net : ByteArray := prog_1_method_26_code
def yX8_net : MethodName := ⟨RX8, "net", "()J"⟩
abbrev cX8_scenario : ByteArray := prog_1_method_27_code
def yX8_scenario : MethodName := ⟨RX8, "scenario", "(II)I"⟩
abbrev cX8_damage : ByteArray := prog_1_method_28_code
def yX8_damage : MethodName := ⟨RX8, "damage", "(III)I"⟩
abbrev cX8_scenarioNet : ByteArray := prog_1_method_29_code
def yX8_scenarioNet : MethodName := ⟨RX8, "scenarioNet", "(I)J"⟩
abbrev cX8_tail : ByteArray := prog_1_method_30_code
def yX8_tail : MethodName := ⟨RX8, "tail", "(I)J"⟩
abbrev cX8_losses : ByteArray := prog_1_method_31_code
def yX8_losses : MethodName := ⟨RX8, "losses", "()I"⟩
abbrev cX8_allLosses : ByteArray := prog_1_method_33_code
def yX8_allLosses : MethodName := ⟨RX8, "allLosses", "()J"⟩
abbrev cX8_meanNet : ByteArray := prog_1_method_35_code
def yX8_meanNet : MethodName := ⟨RX8, "meanNet", "()D"⟩
abbrev cX8_isSound : ByteArray := prog_1_method_36_code
def yX8_isSound : MethodName := ⟨RX8, "isSound", "()Z"⟩
abbrev cX8_isOut : ByteArray := prog_1_method_37_code
def yX8_isOut : MethodName := ⟨RX8, "isOut", "(III)Z"⟩
abbrev cX8_isSpan : ByteArray := prog_1_method_38_code
def yX8_isSpan : MethodName := ⟨RX8, "isSpan", "(II)Z"⟩
abbrev cX8_isBasis : ByteArray := prog_1_method_39_code
def yX8_isBasis : MethodName := ⟨RX8, "isBasis", "(C)Z"⟩
abbrev cX8_fitsKind : ByteArray := prog_1_method_40_code
def yX8_fitsKind : MethodName := ⟨RX8, "fitsKind", "(CII)Z"⟩
abbrev cX8_claimAt : ByteArray := prog_1_method_41_code
def yX8_claimAt : MethodName := ⟨RX8, "claimAt", "(I)LLayertreaty$Claim;"⟩
abbrev cX8_treatyAt : ByteArray := prog_1_method_42_code
def yX8_treatyAt : MethodName := ⟨RX8, "treatyAt", "(I)LLayertreaty$Treaty;"⟩
abbrev cX8_coverAt : ByteArray := prog_1_method_43_code
def yX8_coverAt : MethodName := ⟨RX8, "coverAt", "(I)LLayertreaty$Cover;"⟩
abbrev cX8_scenarioAt : ByteArray := prog_1_method_44_code
def yX8_scenarioAt : MethodName := ⟨RX8, "scenarioAt", "(I)LLayertreaty$Scenario;"⟩
abbrev cX8_checkReinsurer : ByteArray := prog_1_method_45_code
def yX8_checkReinsurer : MethodName := ⟨RX8, "checkReinsurer", "(I)V"⟩
abbrev cX8_checkHasEvents : ByteArray := prog_1_method_46_code
def yX8_checkHasEvents : MethodName := ⟨RX8, "checkHasEvents", "(LLayertreaty$Treaty;)V"⟩
abbrev cX8_settle : ByteArray := prog_1_method_47_code
def yX8_settle : MethodName := ⟨RX8, "settle", "()V"⟩
abbrev cX8_settlePool : ByteArray := prog_1_method_48_code
def yX8_settlePool : MethodName := ⟨RX8, "settlePool", "()V"⟩
abbrev cX8_playAll : ByteArray := prog_1_method_49_code
def yX8_playAll : MethodName := ⟨RX8, "playAll", "()V"⟩
abbrev cX8_play : ByteArray := prog_1_method_50_code
def yX8_play : MethodName := ⟨RX8, "play", "(LLayertreaty$Scenario;)V"⟩
abbrev cX8_weightAbove : ByteArray := prog_1_method_51_code
def yX8_weightAbove : MethodName := ⟨RX8, "weightAbove", "(J)I"⟩
abbrev cJ6_bitCount_0f7a4 : ByteArray := prog_28_method_49_code
def yJ6_bitCount_0f7a4 : MethodName := ⟨RJ6, "bitCount", "(I)I"⟩
abbrev cJ0_charAt_5068e : ByteArray := prog_33_method_56_code
def yJ0_charAt_5068e : MethodName := ⟨RJ0, "charAt", "(I)C"⟩
abbrev cJ0_isLatin1_aae02 : ByteArray := prog_33_method_154_code
def yJ0_isLatin1_aae02 : MethodName := ⟨RJ0, "isLatin1", "()Z"⟩
abbrev cJ0_checkIndex_df160 : ByteArray := prog_33_method_155_code
def yJ0_checkIndex_df160 : MethodName := ⟨RJ0, "checkIndex", "(II)V"⟩
abbrev cJ1_charAt_3b067 : ByteArray := prog_35_method_2_code
def yJ1_charAt_3b067 : MethodName := ⟨RJ1, "charAt", "([BI)C"⟩
abbrev cJxa1e45_init_da8c8 : ByteArray := prog_42_method_1_code
def yJxa1e45_init_da8c8 : MethodName := ⟨RJxa1e45, "<init>", "()V"⟩
abbrev cJxc12de_init_da8c8 : ByteArray := prog_43_method_1_code
def yJxc12de_init_da8c8 : MethodName := ⟨RJxc12de, "<init>", "()V"⟩
abbrev cJx4a65c_init_da8c8 : ByteArray := prog_44_method_2_code
def yJx4a65c_init_da8c8 : MethodName := ⟨RJx4a65c, "<init>", "()V"⟩
abbrev cJx4a65c_grow_92f84 : ByteArray := prog_44_method_6_code
def yJx4a65c_grow_92f84 : MethodName := ⟨RJx4a65c, "grow", "(I)[Ljava/lang/Object;"⟩
abbrev cJx4a65c_grow_d5877 : ByteArray := prog_44_method_7_code
def yJx4a65c_grow_d5877 : MethodName := ⟨RJx4a65c, "grow", "()[Ljava/lang/Object;"⟩
abbrev cJx4a65c_size_8abf5 : ByteArray := prog_44_method_8_code
def yJx4a65c_size_8abf5 : MethodName := ⟨RJx4a65c, "size", "()I"⟩
abbrev cJx4a65c_isEmpty_aae02 : ByteArray := prog_44_method_9_code
def yJx4a65c_isEmpty_aae02 : MethodName := ⟨RJx4a65c, "isEmpty", "()Z"⟩
abbrev cJx4a65c_elementData_915e3 : ByteArray := prog_44_method_18_code
def yJx4a65c_elementData_915e3 : MethodName := ⟨RJx4a65c, "elementData", "(I)Ljava/lang/Object;"⟩
abbrev cJx4a65c_get_915e3 : ByteArray := prog_44_method_20_code
def yJx4a65c_get_915e3 : MethodName := ⟨RJx4a65c, "get", "(I)Ljava/lang/Object;"⟩
abbrev cJx4a65c_add_72be8 : ByteArray := prog_44_method_24_code
def yJx4a65c_add_72be8 : MethodName := ⟨RJx4a65c, "add", "(Ljava/lang/Object;[Ljava/lang/Object;I)V"⟩
abbrev cJx4a65c_add_9ea2d : ByteArray := prog_44_method_25_code
def yJx4a65c_add_9ea2d : MethodName := ⟨RJx4a65c, "add", "(Ljava/lang/Object;)Z"⟩
abbrev cJx4a65c_add_7a177 : ByteArray := prog_44_method_26_code
def yJx4a65c_add_7a177 : MethodName := ⟨RJx4a65c, "add", "(ILjava/lang/Object;)V"⟩
abbrev cJx4a65c_clear_da8c8 : ByteArray := prog_44_method_40_code
def yJx4a65c_clear_da8c8 : MethodName := ⟨RJx4a65c, "clear", "()V"⟩
abbrev cJx4a65c_rangeCheckForAdd_d00df : ByteArray := prog_44_method_45_code
def yJx4a65c_rangeCheckForAdd_d00df : MethodName := ⟨RJx4a65c, "rangeCheckForAdd", "(I)V"⟩
abbrev cJ7_fill_d0a16 : ByteArray := prog_45_method_101_code
def yJ7_fill_d0a16 : MethodName := ⟨RJ7, "fill", "([JJ)V"⟩
abbrev cJ7_fill_53178 : ByteArray := prog_45_method_103_code
def yJ7_fill_53178 : MethodName := ⟨RJ7, "fill", "([II)V"⟩
abbrev cJ7_copyOf_1904c : ByteArray := prog_45_method_119_code
def yJ7_copyOf_1904c : MethodName := ⟨RJ7, "copyOf", "([Ljava/lang/Object;I)[Ljava/lang/Object;"⟩
abbrev cJ7_copyOf_6403c : ByteArray := prog_45_method_120_code
def yJ7_copyOf_6403c : MethodName := ⟨RJ7, "copyOf", "([Ljava/lang/Object;ILjava/lang/Class;)[Ljava/lang/Object;"⟩
abbrev cJ15_checkIndex_7cf53 : ByteArray := prog_49_method_17_code
def yJ15_checkIndex_7cf53 : MethodName := ⟨RJ15, "checkIndex", "(II)I"⟩
abbrev cJ8_newLength_cabcc : ByteArray := prog_52_method_27_code
def yJ8_newLength_cabcc : MethodName := ⟨RJ8, "newLength", "(III)I"⟩
abbrev cJ3_checkIndex_8e157 : ByteArray := prog_53_method_11_code
def yJ3_checkIndex_8e157 : MethodName := ⟨RJ3, "checkIndex", "(IILjava/util/function/BiFunction;)I"⟩
abbrev cL_cell : ByteArray := method_2_code
def yL_cell : MethodName := ⟨RL, "cell", "([II)I"⟩
abbrev cL_some : ByteArray := method_3_code
def yL_some : MethodName := ⟨RL, "some", "([III)I"⟩
abbrev cL_policy : ByteArray := method_4_code
def yL_policy : MethodName := ⟨RL, "policy", "(LLayertreaty;IIII)I"⟩
abbrev cL_loss : ByteArray := method_5_code
def yL_loss : MethodName := ⟨RL, "loss", "(LLayertreaty;IIII)I"⟩
abbrev cL_setAmount : ByteArray := method_6_code
def yL_setAmount : MethodName := ⟨RL, "setAmount", "(LLayertreaty;II)I"⟩
abbrev cL_treaty : ByteArray := method_7_code
def yL_treaty : MethodName := ⟨RL, "treaty", "(LLayertreaty;CCIIII)I"⟩
abbrev cL_setDays : ByteArray := method_8_code
def yL_setDays : MethodName := ⟨RL, "setDays", "(LLayertreaty;II)I"⟩
abbrev cL_reinstate : ByteArray := method_9_code
def yL_reinstate : MethodName := ⟨RL, "reinstate", "(LLayertreaty;IIIZ)I"⟩
abbrev cL_setPremium : ByteArray := method_10_code
def yL_setPremium : MethodName := ⟨RL, "setPremium", "(LLayertreaty;II)I"⟩
abbrev cL_share : ByteArray := method_11_code
def yL_share : MethodName := ⟨RL, "share", "(LLayertreaty;III)I"⟩
abbrev cL_commute : ByteArray := method_12_code
def yL_commute : MethodName := ⟨RL, "commute", "(LLayertreaty;II)J"⟩
abbrev cL_left : ByteArray := method_13_code
def yL_left : MethodName := ⟨RL, "left", "(LLayertreaty;I)J"⟩
abbrev cL_taken : ByteArray := method_14_code
def yL_taken : MethodName := ⟨RL, "taken", "(LLayertreaty;I)J"⟩
abbrev cL_takenFrom : ByteArray := method_15_code
def yL_takenFrom : MethodName := ⟨RL, "takenFrom", "(LLayertreaty;II)J"⟩
abbrev cL_limit : ByteArray := method_16_code
def yL_limit : MethodName := ⟨RL, "limit", "(LLayertreaty;I)J"⟩
abbrev cL_reinstated : ByteArray := method_17_code
def yL_reinstated : MethodName := ⟨RL, "reinstated", "(LLayertreaty;I)J"⟩
abbrev cL_owed : ByteArray := method_18_code
def yL_owed : MethodName := ⟨RL, "owed", "(LLayertreaty;I)J"⟩
abbrev cL_events : ByteArray := method_19_code
def yL_events : MethodName := ⟨RL, "events", "(LLayertreaty;II)I"⟩
abbrev cL_paid : ByteArray := method_21_code
def yL_paid : MethodName := ⟨RL, "paid", "(LLayertreaty;II)J"⟩
abbrev cL_lost : ByteArray := method_22_code
def yL_lost : MethodName := ⟨RL, "lost", "(LLayertreaty;I)J"⟩
abbrev cL_comes : ByteArray := method_23_code
def yL_comes : MethodName := ⟨RL, "comes", "(LLayertreaty;I)J"⟩
abbrev cL_stays : ByteArray := method_24_code
def yL_stays : MethodName := ⟨RL, "stays", "(LLayertreaty;I)J"⟩
abbrev cL_scenario : ByteArray := method_25_code
def yL_scenario : MethodName := ⟨RL, "scenario", "(LLayertreaty;II)I"⟩
abbrev cL_damage : ByteArray := method_26_code
def yL_damage : MethodName := ⟨RL, "damage", "(LLayertreaty;III)I"⟩
abbrev cL_scenarioNet : ByteArray := method_27_code
def yL_scenarioNet : MethodName := ⟨RL, "scenarioNet", "(LLayertreaty;I)J"⟩
abbrev cL_tail : ByteArray := method_28_code
def yL_tail : MethodName := ⟨RL, "tail", "(LLayertreaty;I)J"⟩
abbrev cL_handOn : ByteArray := method_29_code
def yL_handOn : MethodName := ⟨RL, "handOn", "(LLayertreaty;IIII)I"⟩
abbrev cL_fail : ByteArray := method_30_code
def yL_fail : MethodName := ⟨RL, "fail", "(LLayertreaty;IZ)I"⟩
abbrev cL_kept : ByteArray := method_31_code
def yL_kept : MethodName := ⟨RL, "kept", "(LLayertreaty;IIJ)Z"⟩
abbrev cL_law : ByteArray := code
def yL_law : MethodName := ⟨RL, "law", "([I)Z"⟩
abbrev zI : Type := Nat × Instr × Nat
def tX0_init : List zI := [(0, .aload_n 0, 1), (1, .invokespecial 3, 3), (4, .aload_n 0, 1), (5, .bipush 8, 2), (7, .newarray .long, 2), (9, .putfield 9, 3), (12, .aload_n 0, 1), (13, .bipush 8, 2), (15, .newarray .int, 2), (17, .putfield 15, 3), (20, .aload_n 0, 1), (21, .iconst 0, 1), (22, .putfield 19, 3), (25, .aload_n 0, 1), (26, .iconst 0, 1), (27, .putfield 23, 3), (30, .aload_n 0, 1), (31, .iconst 0, 1), (32, .putfield 26, 3), (35, .aload_n 0, 1), (36, .lconst 0, 1), (37, .putfield 29, 3), (40, .aload_n 0, 1), (41, .aload_n 1, 1), (42, .putfield 33, 3), (45, .return_, 1)]
theorem kX0_init : ∀ x ∈ tX0_init, decode cX0_init x.1 = .ok (x.2.1, x.2.2) := by decide +kernel
theorem dX0_init (i : Nat) {pc ln : Nat} {ins : Instr} (h : tX0_init[i]? = some (pc, ins, ln)) : decode cX0_init pc = .ok (ins, ln) := kX0_init (pc, ins, ln) (List.mem_of_getElem? h)
def tX0_happen : List zI := [(0, .aload_n 0, 1), (1, .iload_n 1, 1), (2, .putfield 19, 3), (5, .aload_n 0, 1), (6, .iload_n 2, 1), (7, .putfield 23, 3), (10, .aload_n 0, 1), (11, .iload_n 3, 1), (12, .putfield 26, 3), (15, .return_, 1)]
theorem kX0_happen : ∀ x ∈ tX0_happen, decode cX0_happen x.1 = .ok (x.2.1, x.2.2) := by decide +kernel
theorem dX0_happen (i : Nat) {pc ln : Nat} {ins : Instr} (h : tX0_happen[i]? = some (pc, ins, ln)) : decode cX0_happen pc = .ok (ins, ln) := kX0_happen (pc, ins, ln) (List.mem_of_getElem? h)
def tX0_begin : List zI := [(0, .aload_n 0, 1), (1, .aload_n 0, 1), (2, .getfield 26, 3), (5, .i2l, 1), (6, .putfield 29, 3), (9, .aload_n 0, 1), (10, .getfield 9, 3), (13, .lconst 0, 1), (14, .invokestatic 37, 3), (17, .aload_n 0, 1), (18, .getfield 15, 3), (21, .iconst (-1), 1), (22, .invokestatic 43, 3), (25, .return_, 1)]
theorem kX0_begin : ∀ x ∈ tX0_begin, decode cX0_begin x.1 = .ok (x.2.1, x.2.2) := by decide +kernel
theorem dX0_begin (i : Nat) {pc ln : Nat} {ins : Instr} (h : tX0_begin[i]? = some (pc, ins, ln)) : decode cX0_begin pc = .ok (ins, ln) := kX0_begin (pc, ins, ln) (List.mem_of_getElem? h)
def tX1_init : List zI := [(0, .aload_n 0, 1), (1, .invokespecial 3, 3), (4, .aload_n 0, 1), (5, .iconst 4, 1), (6, .newarray .int, 2), (8, .putfield 9, 3), (11, .aload_n 0, 1), (12, .lconst 0, 1), (13, .putfield 15, 3), (16, .aload_n 0, 1), (17, .lconst 0, 1), (18, .putfield 19, 3), (21, .aload_n 0, 1), (22, .lconst 0, 1), (23, .putfield 22, 3), (26, .aload_n 0, 1), (27, .lconst 0, 1), (28, .putfield 25, 3), (31, .aload_n 0, 1), (32, .aload_n 1, 1), (33, .putfield 28, 3), (36, .return_, 1)]
theorem kX1_init : ∀ x ∈ tX1_init, decode cX1_init x.1 = .ok (x.2.1, x.2.2) := by decide +kernel
theorem dX1_init (i : Nat) {pc ln : Nat} {ins : Instr} (h : tX1_init[i]? = some (pc, ins, ln)) : decode cX1_init pc = .ok (ins, ln) := kX1_init (pc, ins, ln) (List.mem_of_getElem? h)
def tX1_begin : List zI := [(0, .aload_n 0, 1), (1, .getfield 9, 3), (4, .iconst 0, 1), (5, .invokestatic 32, 3), (8, .aload_n 0, 1), (9, .getfield 28, 3), (12, .getfield 38, 3), (15, .ifCond .ne 29, 3), (18, .aload_n 0, 1), (19, .aload_n 0, 1), (20, .getfield 28, 3), (23, .invokevirtual 44, 3), (26, .putfield 15, 3), (29, .aload_n 0, 1), (30, .lconst 0, 1), (31, .putfield 19, 3), (34, .aload_n 0, 1), (35, .lconst 0, 1), (36, .putfield 22, 3), (39, .aload_n 0, 1), (40, .lconst 0, 1), (41, .putfield 25, 3), (44, .return_, 1)]
theorem kX1_begin : ∀ x ∈ tX1_begin, decode cX1_begin x.1 = .ok (x.2.1, x.2.2) := by decide +kernel
theorem dX1_begin (i : Nat) {pc ln : Nat} {ins : Instr} (h : tX1_begin[i]? = some (pc, ins, ln)) : decode cX1_begin pc = .ok (ins, ln) := kX1_begin (pc, ins, ln) (List.mem_of_getElem? h)
def tX1_takeFrom : List zI := [(0, .aload_n 1, 1), (1, .dup, 1), (2, .getfield 48, 3), (5, .lload_n 2, 1), (6, .lsub, 1), (7, .putfield 48, 3), (10, .aload_n 1, 1), (11, .getfield 53, 3), (14, .aload_n 0, 1), (15, .getfield 28, 3), (18, .getfield 57, 3), (21, .dup2, 1), (22, .laload, 1), (23, .lload_n 2, 1), (24, .ladd, 1), (25, .lastore, 1), (26, .aload_n 0, 1), (27, .dup, 1), (28, .getfield 15, 3), (31, .lload_n 2, 1), (32, .lsub, 1), (33, .putfield 15, 3), (36, .aload_n 0, 1), (37, .dup, 1), (38, .getfield 19, 3), (41, .lload_n 2, 1), (42, .ladd, 1), (43, .putfield 19, 3), (46, .return_, 1)]
theorem kX1_takeFrom : ∀ x ∈ tX1_takeFrom, decode cX1_takeFrom x.1 = .ok (x.2.1, x.2.2) := by decide +kernel
theorem dX1_takeFrom (i : Nat) {pc ln : Nat} {ins : Instr} (h : tX1_takeFrom[i]? = some (pc, ins, ln)) : decode cX1_takeFrom pc = .ok (ins, ln) := kX1_takeFrom (pc, ins, ln) (List.mem_of_getElem? h)
def tX1_refill : List zI := [(0, .aload_n 0, 1), (1, .getfield 28, 3), (4, .invokevirtual 61, 3), (7, .ifCond .eq 61, 3), (10, .lload_n 1, 1), (11, .aload_n 0, 1), (12, .getfield 28, 3), (15, .getfield 65, 3), (18, .i2l, 1), (19, .aload_n 0, 1), (20, .getfield 28, 3), (23, .getfield 68, 3), (26, .i2l, 1), (27, .lmul, 1), (28, .aload_n 0, 1), (29, .getfield 22, 3), (32, .lsub, 1), (33, .invokestatic 71, 3), (36, .lstore 4, 2), (38, .aload_n 0, 1), (39, .dup, 1), (40, .getfield 22, 3), (43, .lload 4, 2), (45, .ladd, 1), (46, .putfield 22, 3), (49, .aload_n 0, 1), (50, .dup, 1), (51, .getfield 25, 3), (54, .aload_n 0, 1), (55, .getfield 28, 3), (58, .lload 4, 2), (60, .iload_n 3, 1), (61, .invokevirtual 77, 3), (64, .ladd, 1), (65, .putfield 25, 3), (68, .return_, 1)]
theorem kX1_refill : ∀ x ∈ tX1_refill, decode cX1_refill x.1 = .ok (x.2.1, x.2.2) := by decide +kernel
theorem dX1_refill (i : Nat) {pc ln : Nat} {ins : Instr} (h : tX1_refill[i]? = some (pc, ins, ln)) : decode cX1_refill pc = .ok (ins, ln) := kX1_refill (pc, ins, ln) (List.mem_of_getElem? h)
def tX2_init : List zI := [(0, .aload_n 0, 1), (1, .invokespecial 3, 3), (4, .aload_n 0, 1), (5, .new 9, 3), (8, .dup, 1), (9, .invokespecial 11, 3), (12, .putfield 12, 3), (15, .aload_n 0, 1), (16, .new 9, 3), (19, .dup, 1), (20, .invokespecial 11, 3), (23, .putfield 18, 3), (26, .aload_n 0, 1), (27, .new 9, 3), (30, .dup, 1), (31, .invokespecial 11, 3), (34, .putfield 21, 3), (37, .aload_n 0, 1), (38, .new 9, 3), (41, .dup, 1), (42, .invokespecial 11, 3), (45, .putfield 24, 3), (48, .aload_n 0, 1), (49, .new 27, 3), (52, .dup, 1), (53, .invokespecial 29, 3), (56, .putfield 30, 3), (59, .aload_n 0, 1), (60, .iconst 1, 1), (61, .putfield 34, 3), (64, .return_, 1)]
theorem kX2_init : ∀ x ∈ tX2_init, decode cX2_init x.1 = .ok (x.2.1, x.2.2) := by decide +kernel
theorem dX2_init (i : Nat) {pc ln : Nat} {ins : Instr} (h : tX2_init[i]? = some (pc, ins, ln)) : decode cX2_init pc = .ok (ins, ln) := kX2_init (pc, ins, ln) (List.mem_of_getElem? h)
def tX2_addByDay : List zI := [(0, .aload_n 0, 1), (1, .getfield 12, 3), (4, .invokevirtual 38, 3), (7, .istore_n 2, 1), (8, .aload_n 0, 1), (9, .getfield 12, 3), (12, .invokevirtual 38, 3), (15, .iconst 1, 1), (16, .isub, 1), (17, .istore_n 3, 1), (18, .iload_n 3, 1), (19, .ifCond .lt 32, 3), (22, .aload_n 0, 1), (23, .getfield 12, 3), (26, .iload_n 3, 1), (27, .invokevirtual 42, 3), (30, .checkcast 46, 3), (33, .getfield 48, 3), (36, .aload_n 1, 1), (37, .getfield 48, 3), (40, .if_icmp .le 11, 3), (43, .iload_n 3, 1), (44, .istore_n 2, 1), (45, .iinc 3 (-1), 3), (48, .goto (-30), 3), (51, .aload_n 0, 1), (52, .getfield 12, 3), (55, .iload_n 2, 1), (56, .aload_n 1, 1), (57, .invokevirtual 52, 3), (60, .return_, 1)]
theorem kX2_addByDay : ∀ x ∈ tX2_addByDay, decode cX2_addByDay x.1 = .ok (x.2.1, x.2.2) := by decide +kernel
theorem dX2_addByDay (i : Nat) {pc ln : Nat} {ins : Instr} (h : tX2_addByDay[i]? = some (pc, ins, ln)) : decode cX2_addByDay pc = .ok (ins, ln) := kX2_addByDay (pc, ins, ln) (List.mem_of_getElem? h)
def tX2_isLaidBest : List zI := [(0, .aload_n 0, 1), (1, .aload_n 1, 1), (2, .getfield 56, 3), (5, .invokevirtual 61, 3), (8, .aload_n 0, 1), (9, .getfield 34, 3), (12, .ireturn, 1)]
theorem kX2_isLaidBest : ∀ x ∈ tX2_isLaidBest, decode cX2_isLaidBest x.1 = .ok (x.2.1, x.2.2) := by decide +kernel
theorem dX2_isLaidBest (i : Nat) {pc ln : Nat} {ins : Instr} (h : tX2_isLaidBest[i]? = some (pc, ins, ln)) : decode cX2_isLaidBest pc = .ok (ins, ln) := kX2_isLaidBest (pc, ins, ln) (List.mem_of_getElem? h)
def tX2_run_p0 : List zI := [(0, .aload_n 0, 1), (1, .iconst 1, 1), (2, .putfield 34, 3), (5, .iconst 0, 1), (6, .istore_n 2, 1), (7, .iload_n 2, 1), (8, .aload_n 0, 1), (9, .getfield 12, 3), (12, .invokevirtual 38, 3), (15, .if_icmp .ge 23, 3), (18, .aload_n 0, 1), (19, .getfield 12, 3), (22, .iload_n 2, 1), (23, .invokevirtual 42, 3), (26, .checkcast 46, 3), (29, .invokevirtual 65, 3), (32, .iinc 2 1, 3), (35, .goto (-28), 3), (38, .iconst 0, 1), (39, .istore_n 2, 1), (40, .iload_n 2, 1), (41, .aload_n 0, 1), (42, .getfield 18, 3), (45, .invokevirtual 38, 3), (48, .if_icmp .ge 23, 3), (51, .aload_n 0, 1), (52, .getfield 18, 3), (55, .iload_n 2, 1), (56, .invokevirtual 42, 3), (59, .checkcast 68, 3), (62, .invokevirtual 70, 3), (65, .iinc 2 1, 3), (68, .goto (-28), 3), (71, .iconst 0, 1), (72, .istore_n 2, 1), (73, .iload_n 2, 1), (74, .aload_n 0, 1), (75, .getfield 12, 3), (78, .invokevirtual 38, 3), (81, .if_icmp .ge 24, 3), (84, .aload_n 0, 1), (85, .aload_n 0, 1), (86, .getfield 12, 3), (89, .iload_n 2, 1), (90, .invokevirtual 42, 3), (93, .checkcast 46, 3), (96, .invokevirtual 71, 3), (99, .iinc 2 1, 3), (102, .goto (-29), 3), (105, .iconst 0, 1)]
theorem kX2_run_p0 : ∀ x ∈ tX2_run_p0, decode cX2_run x.1 = .ok (x.2.1, x.2.2) := by decide +kernel
theorem dX2_run_p0 (i : Nat) {pc ln : Nat} {ins : Instr} (h : tX2_run_p0[i]? = some (pc, ins, ln)) : decode cX2_run pc = .ok (ins, ln) := kX2_run_p0 (pc, ins, ln) (List.mem_of_getElem? h)
def tX2_run_p1 : List zI := [(106, .istore_n 2, 1), (107, .iload_n 2, 1), (108, .aload_n 0, 1), (109, .getfield 18, 3), (112, .invokevirtual 38, 3), (115, .if_icmp .ge 85, 3), (118, .aload_n 0, 1), (119, .getfield 18, 3), (122, .iload_n 2, 1), (123, .invokevirtual 42, 3), (126, .checkcast 68, 3), (129, .getfield 75, 3), (132, .getfield 79, 3), (135, .bipush 101, 2), (137, .if_icmp .ne 57, 3), (140, .aload_n 0, 1), (141, .aload_n 0, 1), (142, .getfield 18, 3), (145, .iload_n 2, 1), (146, .invokevirtual 42, 3), (149, .checkcast 68, 3), (152, .invokevirtual 83, 3), (155, .iconst 0, 1), (156, .istore_n 3, 1), (157, .iload_n 3, 1), (158, .iconst 4, 1), (159, .if_icmp .ge 35, 3), (162, .aload_n 0, 1), (163, .aload_n 0, 1), (164, .getfield 18, 3), (167, .iload_n 2, 1), (168, .invokevirtual 42, 3), (171, .checkcast 68, 3), (174, .iload_n 3, 1), (175, .iload_n 2, 1), (176, .iload_n 1, 1), (177, .if_icmp .ne 7, 3), (180, .iconst 1, 1), (181, .goto 4, 3), (184, .iconst 0, 1), (185, .invokevirtual 87, 3), (188, .iinc 3 1, 3), (191, .goto (-34), 3), (194, .iinc 2 1, 3), (197, .goto (-90), 3), (200, .iconst 0, 1), (201, .istore_n 2, 1), (202, .iload_n 2, 1), (203, .aload_n 0, 1), (204, .getfield 18, 3)]
theorem kX2_run_p1 : ∀ x ∈ tX2_run_p1, decode cX2_run x.1 = .ok (x.2.1, x.2.2) := by decide +kernel
theorem dX2_run_p1 (i : Nat) {pc ln : Nat} {ins : Instr} (h : tX2_run_p1[i]? = some (pc, ins, ln)) : decode cX2_run pc = .ok (ins, ln) := kX2_run_p1 (pc, ins, ln) (List.mem_of_getElem? h)
def tX2_run_p2 : List zI := [(207, .invokevirtual 38, 3), (210, .if_icmp .ge 71, 3), (213, .aload_n 0, 1), (214, .getfield 18, 3), (217, .iload_n 2, 1), (218, .invokevirtual 42, 3), (221, .checkcast 68, 3), (224, .getfield 75, 3), (227, .getfield 79, 3), (230, .bipush 97, 2), (232, .if_icmp .ne 43, 3), (235, .aload_n 0, 1), (236, .aload_n 0, 1), (237, .getfield 18, 3), (240, .iload_n 2, 1), (241, .invokevirtual 42, 3), (244, .checkcast 68, 3), (247, .invokevirtual 83, 3), (250, .aload_n 0, 1), (251, .iconst (-1), 1), (252, .iconst 0, 1), (253, .sipush 999, 3), (256, .invokevirtual 91, 3), (259, .aload_n 0, 1), (260, .aload_n 0, 1), (261, .getfield 18, 3), (264, .iload_n 2, 1), (265, .invokevirtual 42, 3), (268, .checkcast 68, 3), (271, .invokevirtual 95, 3), (274, .pop2, 1), (275, .iinc 2 1, 3), (278, .goto (-76), 3), (281, .return_, 1)]
theorem kX2_run_p2 : ∀ x ∈ tX2_run_p2, decode cX2_run x.1 = .ok (x.2.1, x.2.2) := by decide +kernel
theorem dX2_run_p2 (i : Nat) {pc ln : Nat} {ins : Instr} (h : tX2_run_p2[i]? = some (pc, ins, ln)) : decode cX2_run pc = .ok (ins, ln) := kX2_run_p2 (pc, ins, ln) (List.mem_of_getElem? h)
def tX2_serveLoss : List zI := [(0, .iconst 0, 1), (1, .istore_n 2, 1), (2, .iload_n 2, 1), (3, .aload_n 0, 1), (4, .getfield 18, 3), (7, .invokevirtual 38, 3), (10, .if_icmp .ge 76, 3), (13, .aload_n 0, 1), (14, .getfield 18, 3), (17, .iload_n 2, 1), (18, .invokevirtual 42, 3), (21, .checkcast 68, 3), (24, .astore_n 3, 1), (25, .aload_n 3, 1), (26, .getfield 75, 3), (29, .invokevirtual 99, 3), (32, .ifCond .eq 48, 3), (35, .aload_n 3, 1), (36, .getfield 75, 3), (39, .aload_n 1, 1), (40, .invokevirtual 103, 3), (43, .ifCond .eq 37, 3), (46, .aload_n 3, 1), (47, .getfield 75, 3), (50, .aload_n 1, 1), (51, .invokevirtual 107, 3), (54, .aload_n 3, 1), (55, .getfield 111, 3), (58, .invokestatic 115, 3), (61, .lstore 4, 2), (63, .aload_n 3, 1), (64, .aload_n 1, 1), (65, .lload 4, 2), (67, .invokevirtual 121, 3), (70, .aload_n 3, 1), (71, .lload 4, 2), (73, .aload_n 1, 1), (74, .getfield 48, 3), (77, .invokevirtual 125, 3), (80, .iinc 2 1, 3), (83, .goto (-81), 3), (86, .return_, 1)]
theorem kX2_serveLoss : ∀ x ∈ tX2_serveLoss, decode cX2_serveLoss x.1 = .ok (x.2.1, x.2.2) := by decide +kernel
theorem dX2_serveLoss (i : Nat) {pc ln : Nat} {ins : Instr} (h : tX2_serveLoss[i]? = some (pc, ins, ln)) : decode cX2_serveLoss pc = .ok (ins, ln) := kX2_serveLoss (pc, ins, ln) (List.mem_of_getElem? h)
def tX2_serveZone_p0 : List zI := [(0, .aload_n 0, 1), (1, .getfield 30, 3), (4, .iconst 0, 1), (5, .putfield 129, 3), (8, .iconst 0, 1), (9, .istore 4, 2), (11, .iload 4, 2), (13, .aload_n 0, 1), (14, .getfield 21, 3), (17, .invokevirtual 38, 3), (20, .if_icmp .ge 50, 3), (23, .aload_n 0, 1), (24, .getfield 21, 3), (27, .iload 4, 2), (29, .invokevirtual 42, 3), (32, .checkcast 46, 3), (35, .getfield 131, 3), (38, .getfield 135, 3), (41, .iload_n 2, 1), (42, .if_icmp .ne 22, 3), (45, .aload_n 0, 1), (46, .getfield 30, 3), (49, .aload_n 0, 1), (50, .getfield 21, 3), (53, .iload 4, 2), (55, .invokevirtual 42, 3), (58, .checkcast 46, 3), (61, .invokevirtual 140, 3), (64, .iinc 4 1, 3), (67, .goto (-56), 3), (70, .aload_n 0, 1), (71, .getfield 30, 3), (74, .aload_n 1, 1), (75, .getfield 75, 3), (78, .invokevirtual 142, 3), (81, .iload_n 3, 1), (82, .ifCond .eq 22, 3), (85, .aload_n 0, 1), (86, .getfield 30, 3), (89, .aload_n 1, 1), (90, .getfield 75, 3), (93, .invokevirtual 146, 3), (96, .ifCond .ne 8, 3), (99, .aload_n 0, 1), (100, .iconst 0, 1), (101, .putfield 34, 3), (104, .iconst (-1), 1), (105, .istore 4, 2), (107, .iconst 0, 1), (108, .istore 5, 2)]
theorem kX2_serveZone_p0 : ∀ x ∈ tX2_serveZone_p0, decode cX2_serveZone x.1 = .ok (x.2.1, x.2.2) := by decide +kernel
theorem dX2_serveZone_p0 (i : Nat) {pc ln : Nat} {ins : Instr} (h : tX2_serveZone_p0[i]? = some (pc, ins, ln)) : decode cX2_serveZone pc = .ok (ins, ln) := kX2_serveZone_p0 (pc, ins, ln) (List.mem_of_getElem? h)
def tX2_serveZone_p1 : List zI := [(110, .iload 5, 2), (112, .aload_n 0, 1), (113, .getfield 30, 3), (116, .getfield 129, 3), (119, .if_icmp .ge 132, 3), (122, .iload 5, 2), (124, .iload 4, 2), (126, .if_icmp .le 119, 3), (129, .aload_n 0, 1), (130, .getfield 30, 3), (133, .getfield 150, 3), (136, .iload 5, 2), (138, .iaload, 1), (139, .istore 4, 2), (141, .aload_n 0, 1), (142, .iload_n 2, 1), (143, .aload_n 0, 1), (144, .getfield 30, 3), (147, .getfield 154, 3), (150, .iload 5, 2), (152, .iaload, 1), (153, .aload_n 0, 1), (154, .getfield 30, 3), (157, .getfield 154, 3), (160, .iload 4, 2), (162, .iaload, 1), (163, .invokevirtual 91, 3), (166, .iconst 0, 1), (167, .istore 6, 2), (169, .iload 6, 2), (171, .aload_n 0, 1), (172, .getfield 24, 3), (175, .invokevirtual 38, 3), (178, .if_icmp .ge 38, 3), (181, .aload_n 0, 1), (182, .getfield 24, 3), (185, .iload 6, 2), (187, .invokevirtual 42, 3), (190, .checkcast 46, 3), (193, .getfield 157, 3), (196, .aload_n 1, 1), (197, .getfield 75, 3), (200, .getfield 56, 3), (203, .aload_n 1, 1), (204, .getfield 160, 3), (207, .iload_n 2, 1), (208, .iaload, 1), (209, .iastore, 1), (210, .iinc 6 1, 3), (213, .goto (-44), 3)]
theorem kX2_serveZone_p1 : ∀ x ∈ tX2_serveZone_p1, decode cX2_serveZone x.1 = .ok (x.2.1, x.2.2) := by decide +kernel
theorem dX2_serveZone_p1 (i : Nat) {pc ln : Nat} {ins : Instr} (h : tX2_serveZone_p1[i]? = some (pc, ins, ln)) : decode cX2_serveZone pc = .ok (ins, ln) := kX2_serveZone_p1 (pc, ins, ln) (List.mem_of_getElem? h)
def tX2_serveZone_p2 : List zI := [(216, .aload_n 1, 1), (217, .getfield 160, 3), (220, .iload_n 2, 1), (221, .dup2, 1), (222, .iaload, 1), (223, .iconst 1, 1), (224, .iadd, 1), (225, .iastore, 1), (226, .aload_n 1, 1), (227, .aload_n 0, 1), (228, .aload_n 1, 1), (229, .invokevirtual 95, 3), (232, .aload_n 0, 1), (233, .getfield 30, 3), (236, .getfield 154, 3), (239, .iload 5, 2), (241, .iaload, 1), (242, .invokevirtual 125, 3), (245, .iinc 5 1, 3), (248, .goto (-138), 3), (251, .return_, 1)]
theorem kX2_serveZone_p2 : ∀ x ∈ tX2_serveZone_p2, decode cX2_serveZone x.1 = .ok (x.2.1, x.2.2) := by decide +kernel
theorem dX2_serveZone_p2 (i : Nat) {pc ln : Nat} {ins : Instr} (h : tX2_serveZone_p2[i]? = some (pc, ins, ln)) : decode cX2_serveZone pc = .ok (ins, ln) := kX2_serveZone_p2 (pc, ins, ln) (List.mem_of_getElem? h)
def tX2_findOpen : List zI := [(0, .aload_n 0, 1), (1, .getfield 21, 3), (4, .invokevirtual 161, 3), (7, .iconst 0, 1), (8, .istore_n 2, 1), (9, .iload_n 2, 1), (10, .aload_n 0, 1), (11, .getfield 12, 3), (14, .invokevirtual 38, 3), (17, .if_icmp .ge 68, 3), (20, .aload_n 0, 1), (21, .getfield 12, 3), (24, .iload_n 2, 1), (25, .invokevirtual 42, 3), (28, .checkcast 46, 3), (31, .getfield 164, 3), (34, .lconst 0, 1), (35, .lcmp, 1), (36, .ifCond .le 43, 3), (39, .aload_n 1, 1), (40, .getfield 75, 3), (43, .aload_n 0, 1), (44, .getfield 12, 3), (47, .iload_n 2, 1), (48, .invokevirtual 42, 3), (51, .checkcast 46, 3), (54, .invokevirtual 103, 3), (57, .ifCond .eq 22, 3), (60, .aload_n 0, 1), (61, .getfield 21, 3), (64, .aload_n 0, 1), (65, .getfield 12, 3), (68, .iload_n 2, 1), (69, .invokevirtual 42, 3), (72, .checkcast 46, 3), (75, .invokevirtual 167, 3), (78, .pop, 1), (79, .iinc 2 1, 3), (82, .goto (-73), 3), (85, .return_, 1)]
theorem kX2_findOpen : ∀ x ∈ tX2_findOpen, decode cX2_findOpen x.1 = .ok (x.2.1, x.2.2) := by decide +kernel
theorem dX2_findOpen (i : Nat) {pc ln : Nat} {ins : Instr} (h : tX2_findOpen[i]? = some (pc, ins, ln)) : decode cX2_findOpen pc = .ok (ins, ln) := kX2_findOpen (pc, ins, ln) (List.mem_of_getElem? h)
def tX2_gather : List zI := [(0, .aload_n 0, 1), (1, .getfield 24, 3), (4, .invokevirtual 161, 3), (7, .iconst 0, 1), (8, .istore 4, 2), (10, .iload 4, 2), (12, .aload_n 0, 1), (13, .getfield 21, 3), (16, .invokevirtual 38, 3), (19, .if_icmp .ge 80, 3), (22, .aload_n 0, 1), (23, .getfield 21, 3), (26, .iload 4, 2), (28, .invokevirtual 42, 3), (31, .checkcast 46, 3), (34, .astore 5, 2), (36, .iload_n 1, 1), (37, .iconst (-1), 1), (38, .if_icmp .eq 15, 3), (41, .aload 5, 2), (43, .getfield 131, 3), (46, .getfield 135, 3), (49, .iload_n 1, 1), (50, .if_icmp .ne 7, 3), (53, .iconst 1, 1), (54, .goto 4, 3), (57, .iconst 0, 1), (58, .istore 6, 2), (60, .iload 6, 2), (62, .ifCond .eq 31, 3), (65, .iload_n 2, 1), (66, .aload 5, 2), (68, .getfield 48, 3), (71, .if_icmp .gt 22, 3), (74, .aload 5, 2), (76, .getfield 48, 3), (79, .iload_n 3, 1), (80, .if_icmp .gt 13, 3), (83, .aload_n 0, 1), (84, .getfield 24, 3), (87, .aload 5, 2), (89, .invokevirtual 167, 3), (92, .pop, 1), (93, .iinc 4 1, 3), (96, .goto (-86), 3), (99, .return_, 1)]
theorem kX2_gather : ∀ x ∈ tX2_gather, decode cX2_gather x.1 = .ok (x.2.1, x.2.2) := by decide +kernel
theorem dX2_gather (i : Nat) {pc ln : Nat} {ins : Instr} (h : tX2_gather[i]? = some (pc, ins, ln)) : decode cX2_gather pc = .ok (ins, ln) := kX2_gather (pc, ins, ln) (List.mem_of_getElem? h)
def tX2_serveGroup_p0 : List zI := [(0, .lconst 0, 1), (1, .lstore_n 2, 1), (2, .iconst 0, 1), (3, .istore 4, 2), (5, .iload 4, 2), (7, .aload_n 0, 1), (8, .getfield 24, 3), (11, .invokevirtual 38, 3), (14, .if_icmp .ge 27, 3), (17, .lload_n 2, 1), (18, .aload_n 0, 1), (19, .getfield 24, 3), (22, .iload 4, 2), (24, .invokevirtual 42, 3), (27, .checkcast 46, 3), (30, .getfield 164, 3), (33, .ladd, 1), (34, .lstore_n 2, 1), (35, .iinc 4 1, 3), (38, .goto (-33), 3), (41, .lload_n 2, 1), (42, .lconst 0, 1), (43, .lcmp, 1), (44, .ifCond .gt 5, 3), (47, .lconst 0, 1), (48, .lreturn, 1), (49, .aload_n 1, 1), (50, .getfield 75, 3), (53, .lload_n 2, 1), (54, .invokevirtual 170, 3), (57, .aload_n 1, 1), (58, .getfield 111, 3), (61, .invokestatic 115, 3), (64, .lstore 4, 2), (66, .lload 4, 2), (68, .lstore 6, 2), (70, .iconst 0, 1), (71, .istore 8, 2), (73, .iload 8, 2), (75, .aload_n 0, 1), (76, .getfield 24, 3), (79, .invokevirtual 38, 3), (82, .if_icmp .ge 34, 3), (85, .lload 6, 2), (87, .lload 4, 2), (89, .aload_n 0, 1), (90, .getfield 24, 3), (93, .iload 8, 2), (95, .invokevirtual 42, 3), (98, .checkcast 46, 3)]
theorem kX2_serveGroup_p0 : ∀ x ∈ tX2_serveGroup_p0, decode cX2_serveGroup x.1 = .ok (x.2.1, x.2.2) := by decide +kernel
theorem dX2_serveGroup_p0 (i : Nat) {pc ln : Nat} {ins : Instr} (h : tX2_serveGroup_p0[i]? = some (pc, ins, ln)) : decode cX2_serveGroup pc = .ok (ins, ln) := kX2_serveGroup_p0 (pc, ins, ln) (List.mem_of_getElem? h)
def tX2_serveGroup_p1 : List zI := [(101, .getfield 164, 3), (104, .lmul, 1), (105, .lload_n 2, 1), (106, .ldiv, 1), (107, .lsub, 1), (108, .lstore 6, 2), (110, .iinc 8 1, 3), (113, .goto (-40), 3), (116, .iconst 0, 1), (117, .istore 8, 2), (119, .iload 8, 2), (121, .aload_n 0, 1), (122, .getfield 24, 3), (125, .invokevirtual 38, 3), (128, .if_icmp .ge 59, 3), (131, .aload_n 0, 1), (132, .getfield 24, 3), (135, .iload 8, 2), (137, .invokevirtual 42, 3), (140, .checkcast 46, 3), (143, .astore 9, 2), (145, .lload 4, 2), (147, .aload 9, 2), (149, .getfield 164, 3), (152, .lmul, 1), (153, .lload_n 2, 1), (154, .ldiv, 1), (155, .iload 8, 2), (157, .i2l, 1), (158, .lload 6, 2), (160, .lcmp, 1), (161, .ifCond .ge 7, 3), (164, .iconst 1, 1), (165, .goto 4, 3), (168, .iconst 0, 1), (169, .i2l, 1), (170, .ladd, 1), (171, .lstore 10, 2), (173, .aload_n 1, 1), (174, .aload 9, 2), (176, .lload 10, 2), (178, .invokevirtual 121, 3), (181, .iinc 8 1, 3), (184, .goto (-65), 3), (187, .lload 4, 2), (189, .lreturn, 1)]
theorem kX2_serveGroup_p1 : ∀ x ∈ tX2_serveGroup_p1, decode cX2_serveGroup x.1 = .ok (x.2.1, x.2.2) := by decide +kernel
theorem dX2_serveGroup_p1 (i : Nat) {pc ln : Nat} {ins : Instr} (h : tX2_serveGroup_p1[i]? = some (pc, ins, ln)) : decode cX2_serveGroup pc = .ok (ins, ln) := kX2_serveGroup_p1 (pc, ins, ln) (List.mem_of_getElem? h)
def tX2_allLeft : List zI := [(0, .lconst 0, 1), (1, .lstore_n 1, 1), (2, .iconst 0, 1), (3, .istore_n 3, 1), (4, .iload_n 3, 1), (5, .aload_n 0, 1), (6, .getfield 12, 3), (9, .invokevirtual 38, 3), (12, .if_icmp .ge 26, 3), (15, .lload_n 1, 1), (16, .aload_n 0, 1), (17, .getfield 12, 3), (20, .iload_n 3, 1), (21, .invokevirtual 42, 3), (24, .checkcast 46, 3), (27, .getfield 164, 3), (30, .ladd, 1), (31, .lstore_n 1, 1), (32, .iinc 3 1, 3), (35, .goto (-31), 3), (38, .lload_n 1, 1), (39, .lreturn, 1)]
theorem kX2_allLeft : ∀ x ∈ tX2_allLeft, decode cX2_allLeft x.1 = .ok (x.2.1, x.2.2) := by decide +kernel
theorem dX2_allLeft (i : Nat) {pc ln : Nat} {ins : Instr} (h : tX2_allLeft[i]? = some (pc, ins, ln)) : decode cX2_allLeft pc = .ok (ins, ln) := kX2_allLeft (pc, ins, ln) (List.mem_of_getElem? h)
def tX2_partOf : List zI := [(0, .lconst 0, 1), (1, .lstore_n 3, 1), (2, .iconst 0, 1), (3, .istore 5, 2), (5, .iload 5, 2), (7, .aload_n 0, 1), (8, .getfield 12, 3), (11, .invokevirtual 38, 3), (14, .if_icmp .ge 44, 3), (17, .lload_n 3, 1), (18, .aload_n 0, 1), (19, .getfield 12, 3), (22, .iload 5, 2), (24, .invokevirtual 42, 3), (27, .checkcast 46, 3), (30, .getfield 174, 3), (33, .aload_n 1, 1), (34, .getfield 56, 3), (37, .laload, 1), (38, .aload_n 1, 1), (39, .getfield 178, 3), (42, .iload_n 2, 1), (43, .iaload, 1), (44, .i2l, 1), (45, .lmul, 1), (46, .ldc2_w 181, 3), (49, .ldiv, 1), (50, .ladd, 1), (51, .lstore_n 3, 1), (52, .iinc 5 1, 3), (55, .goto (-50), 3), (58, .lload_n 3, 1), (59, .lreturn, 1)]
theorem kX2_partOf : ∀ x ∈ tX2_partOf, decode cX2_partOf x.1 = .ok (x.2.1, x.2.2) := by decide +kernel
theorem dX2_partOf (i : Nat) {pc ln : Nat} {ins : Instr} (h : tX2_partOf[i]? = some (pc, ins, ln)) : decode cX2_partOf pc = .ok (ins, ln) := kX2_partOf (pc, ins, ln) (List.mem_of_getElem? h)
def tX2_allPartsOf : List zI := [(0, .lconst 0, 1), (1, .lstore_n 2, 1), (2, .iconst 0, 1), (3, .istore 4, 2), (5, .iload 4, 2), (7, .aload_n 0, 1), (8, .getfield 18, 3), (11, .invokevirtual 38, 3), (14, .if_icmp .ge 32, 3), (17, .lload_n 2, 1), (18, .aload_n 0, 1), (19, .aload_n 0, 1), (20, .getfield 18, 3), (23, .iload 4, 2), (25, .invokevirtual 42, 3), (28, .checkcast 68, 3), (31, .getfield 75, 3), (34, .iload_n 1, 1), (35, .invokevirtual 183, 3), (38, .ladd, 1), (39, .lstore_n 2, 1), (40, .iinc 4 1, 3), (43, .goto (-38), 3), (46, .lload_n 2, 1), (47, .lreturn, 1)]
theorem kX2_allPartsOf : ∀ x ∈ tX2_allPartsOf, decode cX2_allPartsOf x.1 = .ok (x.2.1, x.2.2) := by decide +kernel
theorem dX2_allPartsOf (i : Nat) {pc ln : Nat} {ins : Instr} (h : tX2_allPartsOf[i]? = some (pc, ins, ln)) : decode cX2_allPartsOf pc = .ok (ins, ln) := kX2_allPartsOf (pc, ins, ln) (List.mem_of_getElem? h)
def tX2_areLossesWhole : List zI := [(0, .iconst 0, 1), (1, .istore_n 1, 1), (2, .iload_n 1, 1), (3, .aload_n 0, 1), (4, .getfield 12, 3), (7, .invokevirtual 38, 3), (10, .if_icmp .ge 67, 3), (13, .aload_n 0, 1), (14, .getfield 12, 3), (17, .iload_n 1, 1), (18, .invokevirtual 42, 3), (21, .checkcast 46, 3), (24, .astore_n 2, 1), (25, .aload_n 2, 1), (26, .getfield 164, 3), (29, .lstore_n 3, 1), (30, .iconst 0, 1), (31, .istore 5, 2), (33, .iload 5, 2), (35, .aload_n 2, 1), (36, .getfield 174, 3), (39, .arraylength, 1), (40, .if_icmp .ge 19, 3), (43, .lload_n 3, 1), (44, .aload_n 2, 1), (45, .getfield 174, 3), (48, .iload 5, 2), (50, .laload, 1), (51, .ladd, 1), (52, .lstore_n 3, 1), (53, .iinc 5 1, 3), (56, .goto (-23), 3), (59, .lload_n 3, 1), (60, .aload_n 2, 1), (61, .getfield 187, 3), (64, .i2l, 1), (65, .lcmp, 1), (66, .ifCond .eq 5, 3), (69, .iconst 0, 1), (70, .ireturn, 1), (71, .iinc 1 1, 3), (74, .goto (-72), 3), (77, .iconst 1, 1), (78, .ireturn, 1)]
theorem kX2_areLossesWhole : ∀ x ∈ tX2_areLossesWhole, decode cX2_areLossesWhole x.1 = .ok (x.2.1, x.2.2) := by decide +kernel
theorem dX2_areLossesWhole (i : Nat) {pc ln : Nat} {ins : Instr} (h : tX2_areLossesWhole[i]? = some (pc, ins, ln)) : decode cX2_areLossesWhole pc = .ok (ins, ln) := kX2_areLossesWhole (pc, ins, ln) (List.mem_of_getElem? h)
def tX2_areLimitsKept : List zI := [(0, .iconst 0, 1), (1, .istore_n 1, 1), (2, .iload_n 1, 1), (3, .aload_n 0, 1), (4, .getfield 18, 3), (7, .invokevirtual 38, 3), (10, .if_icmp .ge 48, 3), (13, .aload_n 0, 1), (14, .getfield 18, 3), (17, .iload_n 1, 1), (18, .invokevirtual 42, 3), (21, .checkcast 68, 3), (24, .astore_n 2, 1), (25, .aload_n 2, 1), (26, .getfield 75, 3), (29, .getfield 190, 3), (32, .ifCond .ne 20, 3), (35, .aload_n 2, 1), (36, .getfield 193, 3), (39, .aload_n 2, 1), (40, .getfield 75, 3), (43, .invokevirtual 196, 3), (46, .lcmp, 1), (47, .ifCond .le 5, 3), (50, .iconst 0, 1), (51, .ireturn, 1), (52, .iinc 1 1, 3), (55, .goto (-53), 3), (58, .iconst 1, 1), (59, .ireturn, 1)]
theorem kX2_areLimitsKept : ∀ x ∈ tX2_areLimitsKept, decode cX2_areLimitsKept x.1 = .ok (x.2.1, x.2.2) := by decide +kernel
theorem dX2_areLimitsKept (i : Nat) {pc ln : Nat} {ins : Instr} (h : tX2_areLimitsKept[i]? = some (pc, ins, ln)) : decode cX2_areLimitsKept pc = .ok (ins, ln) := kX2_areLimitsKept (pc, ins, ln) (List.mem_of_getElem? h)
def tX3_init : List zI := [(0, .aload_n 0, 1), (1, .invokespecial 3, 3), (4, .aload_n 0, 1), (5, .bipush 30, 2), (7, .newarray .int, 2), (9, .putfield 9, 3), (12, .aload_n 0, 1), (13, .bipush 30, 2), (15, .newarray .long, 2), (17, .putfield 15, 3), (20, .aload_n 0, 1), (21, .bipush 30, 2), (23, .newarray .int, 2), (25, .putfield 19, 3), (28, .aload_n 0, 1), (29, .bipush 31, 2), (31, .newarray .long, 2), (33, .putfield 22, 3), (36, .aload_n 0, 1), (37, .bipush 31, 2), (39, .newarray .int, 2), (41, .putfield 25, 3), (44, .aload_n 0, 1), (45, .iconst 0, 1), (46, .putfield 28, 3), (49, .return_, 1)]
theorem kX3_init : ∀ x ∈ tX3_init, decode cX3_init x.1 = .ok (x.2.1, x.2.2) := by decide +kernel
theorem dX3_init (i : Nat) {pc ln : Nat} {ins : Instr} (h : tX3_init[i]? = some (pc, ins, ln)) : decode cX3_init pc = .ok (ins, ln) := kX3_init (pc, ins, ln) (List.mem_of_getElem? h)
def tX3_add : List zI := [(0, .aload_n 0, 1), (1, .getfield 28, 3), (4, .ifCond .le 42, 3), (7, .aload_n 0, 1), (8, .getfield 9, 3), (11, .aload_n 0, 1), (12, .getfield 28, 3), (15, .iconst 1, 1), (16, .isub, 1), (17, .iaload, 1), (18, .aload_n 1, 1), (19, .getfield 32, 3), (22, .if_icmp .ne 24, 3), (25, .aload_n 0, 1), (26, .getfield 15, 3), (29, .aload_n 0, 1), (30, .getfield 28, 3), (33, .iconst 1, 1), (34, .isub, 1), (35, .dup2, 1), (36, .laload, 1), (37, .aload_n 1, 1), (38, .getfield 37, 3), (41, .ladd, 1), (42, .lastore, 1), (43, .goto 51, 3), (46, .aload_n 0, 1), (47, .getfield 28, 3), (50, .aload_n 0, 1), (51, .getfield 9, 3), (54, .arraylength, 1), (55, .if_icmp .ge 39, 3), (58, .aload_n 0, 1), (59, .getfield 9, 3), (62, .aload_n 0, 1), (63, .getfield 28, 3), (66, .aload_n 1, 1), (67, .getfield 32, 3), (70, .iastore, 1), (71, .aload_n 0, 1), (72, .getfield 15, 3), (75, .aload_n 0, 1), (76, .getfield 28, 3), (79, .aload_n 1, 1), (80, .getfield 37, 3), (83, .lastore, 1), (84, .aload_n 0, 1), (85, .dup, 1), (86, .getfield 28, 3), (89, .iconst 1, 1), (90, .iadd, 1), (91, .putfield 28, 3), (94, .return_, 1)]
theorem kX3_add : ∀ x ∈ tX3_add, decode cX3_add x.1 = .ok (x.2.1, x.2.2) := by decide +kernel
theorem dX3_add (i : Nat) {pc ln : Nat} {ins : Instr} (h : tX3_add[i]? = some (pc, ins, ln)) : decode cX3_add pc = .ok (ins, ln) := kX3_add (pc, ins, ln) (List.mem_of_getElem? h)
def tX3_lay_p0 : List zI := [(0, .aload_n 0, 1), (1, .getfield 22, 3), (4, .aload_n 0, 1), (5, .getfield 28, 3), (8, .lconst 0, 1), (9, .lastore, 1), (10, .aload_n 0, 1), (11, .getfield 25, 3), (14, .aload_n 0, 1), (15, .getfield 28, 3), (18, .iconst 0, 1), (19, .iastore, 1), (20, .aload_n 0, 1), (21, .getfield 28, 3), (24, .iconst 1, 1), (25, .isub, 1), (26, .istore_n 2, 1), (27, .iload_n 2, 1), (28, .ifCond .lt 155, 3), (31, .lconst 0, 1), (32, .lstore_n 3, 1), (33, .iload_n 2, 1), (34, .istore 5, 2), (36, .iload 5, 2), (38, .aload_n 0, 1), (39, .getfield 28, 3), (42, .if_icmp .ge 135, 3), (45, .aload_n 0, 1), (46, .getfield 9, 3), (49, .iload 5, 2), (51, .iaload, 1), (52, .aload_n 0, 1), (53, .getfield 9, 3), (56, .iload_n 2, 1), (57, .iaload, 1), (58, .isub, 1), (59, .aload_n 1, 1), (60, .getfield 41, 3), (63, .if_icmp .ge 114, 3), (66, .lload_n 3, 1), (67, .aload_n 0, 1), (68, .getfield 15, 3), (71, .iload 5, 2), (73, .laload, 1), (74, .ladd, 1), (75, .lstore_n 3, 1), (76, .aload_n 1, 1), (77, .lload_n 3, 1), (78, .invokevirtual 45, 3), (81, .aload_n 0, 1)]
theorem kX3_lay_p0 : ∀ x ∈ tX3_lay_p0, decode cX3_lay x.1 = .ok (x.2.1, x.2.2) := by decide +kernel
theorem dX3_lay_p0 (i : Nat) {pc ln : Nat} {ins : Instr} (h : tX3_lay_p0[i]? = some (pc, ins, ln)) : decode cX3_lay pc = .ok (ins, ln) := kX3_lay_p0 (pc, ins, ln) (List.mem_of_getElem? h)
def tX3_lay_p1 : List zI := [(82, .getfield 22, 3), (85, .iload 5, 2), (87, .iconst 1, 1), (88, .iadd, 1), (89, .laload, 1), (90, .ladd, 1), (91, .lstore 6, 2), (93, .iconst 1, 1), (94, .aload_n 0, 1), (95, .getfield 25, 3), (98, .iload 5, 2), (100, .iconst 1, 1), (101, .iadd, 1), (102, .iaload, 1), (103, .iadd, 1), (104, .istore 8, 2), (106, .iload 5, 2), (108, .iload_n 2, 1), (109, .if_icmp .eq 38, 3), (112, .lload 6, 2), (114, .aload_n 0, 1), (115, .getfield 22, 3), (118, .iload_n 2, 1), (119, .laload, 1), (120, .lcmp, 1), (121, .ifCond .gt 26, 3), (124, .lload 6, 2), (126, .aload_n 0, 1), (127, .getfield 22, 3), (130, .iload_n 2, 1), (131, .laload, 1), (132, .lcmp, 1), (133, .ifCond .ne 38, 3), (136, .iload 8, 2), (138, .aload_n 0, 1), (139, .getfield 25, 3), (142, .iload_n 2, 1), (143, .iaload, 1), (144, .if_icmp .gt 27, 3), (147, .aload_n 0, 1), (148, .getfield 22, 3), (151, .iload_n 2, 1), (152, .lload 6, 2), (154, .lastore, 1), (155, .aload_n 0, 1), (156, .getfield 25, 3), (159, .iload_n 2, 1), (160, .iload 8, 2), (162, .iastore, 1), (163, .aload_n 0, 1)]
theorem kX3_lay_p1 : ∀ x ∈ tX3_lay_p1, decode cX3_lay x.1 = .ok (x.2.1, x.2.2) := by decide +kernel
theorem dX3_lay_p1 (i : Nat) {pc ln : Nat} {ins : Instr} (h : tX3_lay_p1[i]? = some (pc, ins, ln)) : decode cX3_lay pc = .ok (ins, ln) := kX3_lay_p1 (pc, ins, ln) (List.mem_of_getElem? h)
def tX3_lay_p2 : List zI := [(164, .getfield 19, 3), (167, .iload_n 2, 1), (168, .iload 5, 2), (170, .iastore, 1), (171, .iinc 5 1, 3), (174, .goto (-138), 3), (177, .iinc 2 (-1), 3), (180, .goto (-153), 3), (183, .return_, 1)]
theorem kX3_lay_p2 : ∀ x ∈ tX3_lay_p2, decode cX3_lay x.1 = .ok (x.2.1, x.2.2) := by decide +kernel
theorem dX3_lay_p2 (i : Nat) {pc ln : Nat} {ins : Instr} (h : tX3_lay_p2[i]? = some (pc, ins, ln)) : decode cX3_lay pc = .ok (ins, ln) := kX3_lay_p2 (pc, ins, ln) (List.mem_of_getElem? h)
def tX3_isBestOfAll_p0 : List zI := [(0, .aload_n 0, 1), (1, .getfield 28, 3), (4, .ifCond .eq 12, 3), (7, .aload_n 0, 1), (8, .getfield 28, 3), (11, .bipush 12, 2), (13, .if_icmp .le 5, 3), (16, .iconst 1, 1), (17, .ireturn, 1), (18, .iconst 0, 1), (19, .istore_n 2, 1), (20, .iconst 0, 1), (21, .istore_n 3, 1), (22, .ldc2_w 49, 3), (25, .lstore 4, 2), (27, .iconst 1, 1), (28, .aload_n 0, 1), (29, .getfield 28, 3), (32, .iconst 1, 1), (33, .isub, 1), (34, .ishl, 1), (35, .istore 6, 2), (37, .iconst 0, 1), (38, .istore 7, 2), (40, .iload 7, 2), (42, .iload 6, 2), (44, .if_icmp .ge 59, 3), (47, .iconst 1, 1), (48, .iload 7, 2), (50, .invokestatic 51, 3), (53, .iadd, 1), (54, .istore 8, 2), (56, .aload_n 0, 1), (57, .iload 7, 2), (59, .aload_n 1, 1), (60, .invokevirtual 57, 3), (63, .lstore 9, 2), (65, .lload 9, 2), (67, .lload 4, 2), (69, .lcmp, 1), (70, .ifCond .gt 17, 3), (73, .lload 9, 2), (75, .lload 4, 2), (77, .lcmp, 1), (78, .ifCond .ne 19, 3), (81, .iload 8, 2), (83, .iload_n 3, 1), (84, .if_icmp .ge 13, 3), (87, .lload 9, 2), (89, .lstore 4, 2)]
theorem kX3_isBestOfAll_p0 : ∀ x ∈ tX3_isBestOfAll_p0, decode cX3_isBestOfAll x.1 = .ok (x.2.1, x.2.2) := by decide +kernel
theorem dX3_isBestOfAll_p0 (i : Nat) {pc ln : Nat} {ins : Instr} (h : tX3_isBestOfAll_p0[i]? = some (pc, ins, ln)) : decode cX3_isBestOfAll pc = .ok (ins, ln) := kX3_isBestOfAll_p0 (pc, ins, ln) (List.mem_of_getElem? h)
def tX3_isBestOfAll_p1 : List zI := [(91, .iload 8, 2), (93, .istore_n 3, 1), (94, .iload 7, 2), (96, .istore_n 2, 1), (97, .iinc 7 1, 3), (100, .goto (-60), 3), (103, .iload_n 2, 1), (104, .aload_n 0, 1), (105, .invokevirtual 61, 3), (108, .if_icmp .ne 7, 3), (111, .iconst 1, 1), (112, .goto 4, 3), (115, .iconst 0, 1), (116, .ireturn, 1)]
theorem kX3_isBestOfAll_p1 : ∀ x ∈ tX3_isBestOfAll_p1, decode cX3_isBestOfAll x.1 = .ok (x.2.1, x.2.2) := by decide +kernel
theorem dX3_isBestOfAll_p1 (i : Nat) {pc ln : Nat} {ins : Instr} (h : tX3_isBestOfAll_p1[i]? = some (pc, ins, ln)) : decode cX3_isBestOfAll pc = .ok (ins, ln) := kX3_isBestOfAll_p1 (pc, ins, ln) (List.mem_of_getElem? h)
def tX3_isCut : List zI := [(0, .iload_n 2, 1), (1, .aload_n 0, 1), (2, .getfield 28, 3), (5, .iconst 1, 1), (6, .isub, 1), (7, .if_icmp .eq 19, 3), (10, .iload_n 1, 1), (11, .aload_n 0, 1), (12, .getfield 28, 3), (15, .iconst 2, 1), (16, .isub, 1), (17, .iload_n 2, 1), (18, .isub, 1), (19, .ishr, 1), (20, .iconst 1, 1), (21, .iand, 1), (22, .iconst 1, 1), (23, .if_icmp .ne 7, 3), (26, .iconst 1, 1), (27, .goto 4, 3), (30, .iconst 0, 1), (31, .ireturn, 1)]
theorem kX3_isCut : ∀ x ∈ tX3_isCut, decode cX3_isCut x.1 = .ok (x.2.1, x.2.2) := by decide +kernel
theorem dX3_isCut (i : Nat) {pc ln : Nat} {ins : Instr} (h : tX3_isCut[i]? = some (pc, ins, ln)) : decode cX3_isCut pc = .ok (ins, ln) := kX3_isCut (pc, ins, ln) (List.mem_of_getElem? h)
def tX3_worthOf : List zI := [(0, .lconst 0, 1), (1, .lstore_n 3, 1), (2, .lconst 0, 1), (3, .lstore 5, 2), (5, .aload_n 0, 1), (6, .getfield 9, 3), (9, .iconst 0, 1), (10, .iaload, 1), (11, .istore 7, 2), (13, .iconst 0, 1), (14, .istore 8, 2), (16, .iload 8, 2), (18, .aload_n 0, 1), (19, .getfield 28, 3), (22, .if_icmp .ge 80, 3), (25, .lload 5, 2), (27, .lconst 0, 1), (28, .lcmp, 1), (29, .ifCond .ne 12, 3), (32, .aload_n 0, 1), (33, .getfield 9, 3), (36, .iload 8, 2), (38, .iaload, 1), (39, .istore 7, 2), (41, .aload_n 0, 1), (42, .getfield 9, 3), (45, .iload 8, 2), (47, .iaload, 1), (48, .iload 7, 2), (50, .isub, 1), (51, .aload_n 2, 1), (52, .getfield 41, 3), (55, .if_icmp .lt 7, 3), (58, .ldc2_w 49, 3), (61, .lreturn, 1), (62, .lload 5, 2), (64, .aload_n 0, 1), (65, .getfield 15, 3), (68, .iload 8, 2), (70, .laload, 1), (71, .ladd, 1), (72, .lstore 5, 2), (74, .aload_n 0, 1), (75, .iload_n 1, 1), (76, .iload 8, 2), (78, .invokevirtual 65, 3), (81, .ifCond .eq 15, 3), (84, .lload_n 3, 1), (85, .aload_n 2, 1), (86, .lload 5, 2), (88, .invokevirtual 45, 3), (91, .ladd, 1), (92, .lstore_n 3, 1), (93, .lconst 0, 1), (94, .lstore 5, 2), (96, .iinc 8 1, 3), (99, .goto (-83), 3), (102, .lload_n 3, 1), (103, .lreturn, 1)]
theorem kX3_worthOf : ∀ x ∈ tX3_worthOf, decode cX3_worthOf x.1 = .ok (x.2.1, x.2.2) := by decide +kernel
theorem dX3_worthOf (i : Nat) {pc ln : Nat} {ins : Instr} (h : tX3_worthOf[i]? = some (pc, ins, ln)) : decode cX3_worthOf pc = .ok (ins, ln) := kX3_worthOf (pc, ins, ln) (List.mem_of_getElem? h)
def tX3_laidCuts : List zI := [(0, .iconst 0, 1), (1, .istore_n 1, 1), (2, .iconst (-1), 1), (3, .istore_n 2, 1), (4, .iconst 0, 1), (5, .istore_n 3, 1), (6, .iload_n 3, 1), (7, .aload_n 0, 1), (8, .getfield 28, 3), (11, .iconst 1, 1), (12, .isub, 1), (13, .if_icmp .ge 39, 3), (16, .iload_n 3, 1), (17, .iload_n 2, 1), (18, .if_icmp .le 10, 3), (21, .aload_n 0, 1), (22, .getfield 19, 3), (25, .iload_n 3, 1), (26, .iaload, 1), (27, .istore_n 2, 1), (28, .iload_n 3, 1), (29, .iload_n 2, 1), (30, .if_icmp .ne 16, 3), (33, .iload_n 1, 1), (34, .iconst 1, 1), (35, .aload_n 0, 1), (36, .getfield 28, 3), (39, .iconst 2, 1), (40, .isub, 1), (41, .iload_n 3, 1), (42, .isub, 1), (43, .ishl, 1), (44, .ior, 1), (45, .istore_n 1, 1), (46, .iinc 3 1, 3), (49, .goto (-43), 3), (52, .iload_n 1, 1), (53, .ireturn, 1)]
theorem kX3_laidCuts : ∀ x ∈ tX3_laidCuts, decode cX3_laidCuts x.1 = .ok (x.2.1, x.2.2) := by decide +kernel
theorem dX3_laidCuts (i : Nat) {pc ln : Nat} {ins : Instr} (h : tX3_laidCuts[i]? = some (pc, ins, ln)) : decode cX3_laidCuts pc = .ok (ins, ln) := kX3_laidCuts (pc, ins, ln) (List.mem_of_getElem? h)
def tX4_init : List zI := [(0, .aload_n 0, 1), (1, .invokespecial 1, 3), (4, .aload_n 0, 1), (5, .iload_n 1, 1), (6, .putfield 7, 3), (9, .aload_n 0, 1), (10, .iload_n 2, 1), (11, .putfield 13, 3), (14, .aload_n 0, 1), (15, .iload_n 3, 1), (16, .putfield 16, 3), (19, .aload_n 0, 1), (20, .iload 4, 2), (22, .putfield 19, 3), (25, .return_, 1)]
theorem kX4_init : ∀ x ∈ tX4_init, decode cX4_init x.1 = .ok (x.2.1, x.2.2) := by decide +kernel
theorem dX4_init (i : Nat) {pc ln : Nat} {ins : Instr} (h : tX4_init[i]? = some (pc, ins, ln)) : decode cX4_init pc = .ok (ins, ln) := kX4_init (pc, ins, ln) (List.mem_of_getElem? h)
def tX4_isInForce : List zI := [(0, .aload_n 0, 1), (1, .getfield 16, 3), (4, .iload_n 1, 1), (5, .if_icmp .gt 15, 3), (8, .iload_n 1, 1), (9, .aload_n 0, 1), (10, .getfield 19, 3), (13, .if_icmp .gt 7, 3), (16, .iconst 1, 1), (17, .goto 4, 3), (20, .iconst 0, 1), (21, .ireturn, 1)]
theorem kX4_isInForce : ∀ x ∈ tX4_isInForce, decode cX4_isInForce x.1 = .ok (x.2.1, x.2.2) := by decide +kernel
theorem dX4_isInForce (i : Nat) {pc ln : Nat} {ins : Instr} (h : tX4_isInForce[i]? = some (pc, ins, ln)) : decode cX4_isInForce pc = .ok (ins, ln) := kX4_isInForce (pc, ins, ln) (List.mem_of_getElem? h)
def tX5_init : List zI := [(0, .aload_n 0, 1), (1, .invokespecial 3, 3), (4, .aload_n 0, 1), (5, .iconst 5, 1), (6, .newarray .boolean, 2), (8, .putfield 9, 3), (11, .aload_n 0, 1), (12, .iconst 5, 1), (13, .newarray .int, 2), (15, .putfield 15, 3), (18, .aload_n 0, 1), (19, .iconst 5, 1), (20, .newarray .int, 2), (22, .putfield 19, 3), (25, .aload_n 0, 1), (26, .iconst 5, 1), (27, .newarray .int, 2), (29, .putfield 22, 3), (32, .aload_n 0, 1), (33, .iconst 5, 1), (34, .newarray .long, 2), (36, .putfield 25, 3), (39, .aload_n 0, 1), (40, .iconst 5, 1), (41, .newarray .long, 2), (43, .putfield 29, 3), (46, .aload_n 0, 1), (47, .iconst 5, 1), (48, .newarray .long, 2), (50, .putfield 32, 3), (53, .aload_n 0, 1), (54, .iconst 5, 1), (55, .newarray .long, 2), (57, .putfield 35, 3), (60, .aload_n 0, 1), (61, .iconst 5, 1), (62, .newarray .long, 2), (64, .putfield 38, 3), (67, .return_, 1)]
theorem kX5_init : ∀ x ∈ tX5_init, decode cX5_init x.1 = .ok (x.2.1, x.2.2) := by decide +kernel
theorem dX5_init (i : Nat) {pc ln : Nat} {ins : Instr} (h : tX5_init[i]? = some (pc, ins, ln)) : decode cX5_init pc = .ok (ins, ln) := kX5_init (pc, ins, ln) (List.mem_of_getElem? h)
def tX5_handedOn : List zI := [(0, .aload_n 0, 1), (1, .getfield 9, 3), (4, .iload_n 1, 1), (5, .baload, 1), (6, .ifCond .eq 7, 3), (9, .lconst 0, 1), (10, .goto 26, 3), (13, .lconst 0, 1), (14, .lload_n 2, 1), (15, .aload_n 0, 1), (16, .getfield 19, 3), (19, .iload_n 1, 1), (20, .iaload, 1), (21, .i2l, 1), (22, .lsub, 1), (23, .aload_n 0, 1), (24, .getfield 22, 3), (27, .iload_n 1, 1), (28, .iaload, 1), (29, .i2l, 1), (30, .invokestatic 41, 3), (33, .invokestatic 47, 3), (36, .lreturn, 1)]
theorem kX5_handedOn : ∀ x ∈ tX5_handedOn, decode cX5_handedOn x.1 = .ok (x.2.1, x.2.2) := by decide +kernel
theorem dX5_handedOn (i : Nat) {pc ln : Nat} {ins : Instr} (h : tX5_handedOn[i]? = some (pc, ins, ln)) : decode cX5_handedOn pc = .ok (ins, ln) := kX5_handedOn (pc, ins, ln) (List.mem_of_getElem? h)
def tX5_settleRings : List zI := [(0, .aload_n 0, 1), (1, .getfield 29, 3), (4, .lconst 0, 1), (5, .invokestatic 50, 3), (8, .aload_n 0, 1), (9, .aload_n 0, 1), (10, .getfield 29, 3), (13, .bipush 10, 2), (15, .invokevirtual 56, 3), (18, .aload_n 0, 1), (19, .getfield 29, 3), (22, .iconst 0, 1), (23, .aload_n 0, 1), (24, .getfield 32, 3), (27, .iconst 0, 1), (28, .iconst 5, 1), (29, .invokestatic 60, 3), (32, .aload_n 0, 1), (33, .aload_n 0, 1), (34, .getfield 29, 3), (37, .iconst 5, 1), (38, .invokevirtual 56, 3), (41, .aload_n 0, 1), (42, .getfield 35, 3), (45, .ldc2_w 66, 3), (48, .invokestatic 50, 3), (51, .aload_n 0, 1), (52, .aload_n 0, 1), (53, .getfield 35, 3), (56, .bipush 10, 2), (58, .invokevirtual 56, 3), (61, .iconst 0, 1), (62, .istore_n 1, 1), (63, .iload_n 1, 1), (64, .iconst 5, 1), (65, .if_icmp .ge 37, 3), (68, .aload_n 0, 1), (69, .getfield 29, 3), (72, .iload_n 1, 1), (73, .laload, 1), (74, .aload_n 0, 1), (75, .getfield 32, 3), (78, .iload_n 1, 1), (79, .laload, 1), (80, .lcmp, 1), (81, .ifCond .eq 15, 3), (84, .aload_n 0, 1), (85, .getfield 29, 3), (88, .iload_n 1, 1), (89, .aload_n 0, 1), (90, .getfield 35, 3), (93, .iload_n 1, 1), (94, .laload, 1), (95, .lastore, 1), (96, .iinc 1 1, 3), (99, .goto (-36), 3), (102, .return_, 1)]
theorem kX5_settleRings : ∀ x ∈ tX5_settleRings, decode cX5_settleRings x.1 = .ok (x.2.1, x.2.2) := by decide +kernel
theorem dX5_settleRings (i : Nat) {pc ln : Nat} {ins : Instr} (h : tX5_settleRings[i]? = some (pc, ins, ln)) : decode cX5_settleRings pc = .ok (ins, ln) := kX5_settleRings (pc, ins, ln) (List.mem_of_getElem? h)
def tX5_fits : List zI := [(0, .aload_n 0, 1), (1, .getfield 29, 3), (4, .iconst 0, 1), (5, .aload_n 0, 1), (6, .getfield 35, 3), (9, .iconst 0, 1), (10, .iconst 5, 1), (11, .invokestatic 60, 3), (14, .aload_n 0, 1), (15, .aload_n 0, 1), (16, .getfield 35, 3), (19, .iconst 1, 1), (20, .invokevirtual 56, 3), (23, .iconst 0, 1), (24, .istore_n 1, 1), (25, .iload_n 1, 1), (26, .iconst 5, 1), (27, .if_icmp .ge 27, 3), (30, .aload_n 0, 1), (31, .getfield 35, 3), (34, .iload_n 1, 1), (35, .laload, 1), (36, .aload_n 0, 1), (37, .getfield 29, 3), (40, .iload_n 1, 1), (41, .laload, 1), (42, .lcmp, 1), (43, .ifCond .eq 5, 3), (46, .iconst 0, 1), (47, .ireturn, 1), (48, .iinc 1 1, 3), (51, .goto (-26), 3), (54, .iconst 1, 1), (55, .ireturn, 1)]
theorem kX5_fits : ∀ x ∈ tX5_fits, decode cX5_fits x.1 = .ok (x.2.1, x.2.2) := by decide +kernel
theorem dX5_fits (i : Nat) {pc ln : Nat} {ins : Instr} (h : tX5_fits[i]? = some (pc, ins, ln)) : decode cX5_fits pc = .ok (ins, ln) := kX5_fits (pc, ins, ln) (List.mem_of_getElem? h)
def tX5_goRounds : List zI := [(0, .iconst 0, 1), (1, .istore_n 3, 1), (2, .iload_n 3, 1), (3, .iload_n 2, 1), (4, .if_icmp .ge 71, 3), (7, .aload_n 1, 1), (8, .iconst 0, 1), (9, .aload_n 0, 1), (10, .getfield 38, 3), (13, .iconst 0, 1), (14, .iconst 5, 1), (15, .invokestatic 60, 3), (18, .aload_n 0, 1), (19, .getfield 25, 3), (22, .iconst 0, 1), (23, .aload_n 1, 1), (24, .iconst 0, 1), (25, .iconst 5, 1), (26, .invokestatic 60, 3), (29, .iconst 0, 1), (30, .istore 4, 2), (32, .iload 4, 2), (34, .iconst 5, 1), (35, .if_icmp .ge 34, 3), (38, .aload_n 1, 1), (39, .aload_n 0, 1), (40, .getfield 15, 3), (43, .iload 4, 2), (45, .iaload, 1), (46, .dup2, 1), (47, .laload, 1), (48, .aload_n 0, 1), (49, .iload 4, 2), (51, .aload_n 0, 1), (52, .getfield 38, 3), (55, .iload 4, 2), (57, .laload, 1), (58, .invokevirtual 68, 3), (61, .ladd, 1), (62, .lastore, 1), (63, .iinc 4 1, 3), (66, .goto (-34), 3), (69, .iinc 3 1, 3), (72, .goto (-70), 3), (75, .return_, 1)]
theorem kX5_goRounds : ∀ x ∈ tX5_goRounds, decode cX5_goRounds x.1 = .ok (x.2.1, x.2.2) := by decide +kernel
theorem dX5_goRounds (i : Nat) {pc ln : Nat} {ins : Instr} (h : tX5_goRounds[i]? = some (pc, ins, ln)) : decode cX5_goRounds pc = .ok (ins, ln) := kX5_goRounds (pc, ins, ln) (List.mem_of_getElem? h)
def tX6_init : List zI := [(0, .aload_n 0, 1), (1, .invokespecial 3, 3), (4, .aload_n 0, 1), (5, .iconst 4, 1), (6, .newarray .int, 2), (8, .putfield 9, 3), (11, .aload_n 0, 1), (12, .lconst 0, 1), (13, .putfield 15, 3), (16, .aload_n 0, 1), (17, .iload_n 1, 1), (18, .putfield 19, 3), (21, .aload_n 0, 1), (22, .iload_n 2, 1), (23, .putfield 23, 3), (26, .return_, 1)]
theorem kX6_init : ∀ x ∈ tX6_init, decode cX6_init x.1 = .ok (x.2.1, x.2.2) := by decide +kernel
theorem dX6_init (i : Nat) {pc ln : Nat} {ins : Instr} (h : tX6_init[i]? = some (pc, ins, ln)) : decode cX6_init pc = .ok (ins, ln) := kX6_init (pc, ins, ln) (List.mem_of_getElem? h)
def tX6_damageOf : List zI := [(0, .aload_n 1, 1), (1, .aload_n 0, 1), (2, .getfield 19, 3), (5, .invokevirtual 26, 3), (8, .ifCond .eq 27, 3), (11, .aload_n 1, 1), (12, .getfield 32, 3), (15, .i2l, 1), (16, .aload_n 0, 1), (17, .getfield 9, 3), (20, .aload_n 1, 1), (21, .getfield 35, 3), (24, .iaload, 1), (25, .i2l, 1), (26, .lmul, 1), (27, .ldc2_w 38, 3), (30, .ldiv, 1), (31, .l2i, 1), (32, .goto 4, 3), (35, .iconst 0, 1), (36, .ireturn, 1)]
theorem kX6_damageOf : ∀ x ∈ tX6_damageOf, decode cX6_damageOf x.1 = .ok (x.2.1, x.2.2) := by decide +kernel
theorem dX6_damageOf (i : Nat) {pc ln : Nat} {ins : Instr} (h : tX6_damageOf[i]? = some (pc, ins, ln)) : decode cX6_damageOf pc = .ok (ins, ln) := kX6_damageOf (pc, ins, ln) (List.mem_of_getElem? h)
def tX7_init : List zI := [(0, .aload_n 0, 1), (1, .invokespecial 3, 3), (4, .aload_n 0, 1), (5, .iconst 5, 1), (6, .newarray .int, 2), (8, .putfield 9, 3), (11, .aload_n 0, 1), (12, .iconst 3, 1), (13, .putfield 15, 3), (16, .aload_n 0, 1), (17, .iconst 0, 1), (18, .putfield 19, 3), (21, .aload_n 0, 1), (22, .iconst 0, 1), (23, .putfield 22, 3), (26, .aload_n 0, 1), (27, .iconst 0, 1), (28, .putfield 25, 3), (31, .aload_n 0, 1), (32, .iconst 0, 1), (33, .putfield 29, 3), (36, .aload_n 0, 1), (37, .iconst 0, 1), (38, .putfield 32, 3), (41, .aload_n 0, 1), (42, .iconst 0, 1), (43, .putfield 35, 3), (46, .aload_n 0, 1), (47, .iload_n 1, 1), (48, .putfield 38, 3), (51, .aload_n 0, 1), (52, .iload_n 2, 1), (53, .putfield 41, 3), (56, .aload_n 0, 1), (57, .iload_n 3, 1), (58, .putfield 45, 3), (61, .aload_n 0, 1), (62, .iload 4, 2), (64, .putfield 48, 3), (67, .aload_n 0, 1), (68, .iload 5, 2), (70, .putfield 51, 3), (73, .aload_n 0, 1), (74, .iload 6, 2), (76, .putfield 54, 3), (79, .aload_n 0, 1), (80, .iload 7, 2), (82, .putfield 57, 3), (85, .return_, 1)]
theorem kX7_init : ∀ x ∈ tX7_init, decode cX7_init x.1 = .ok (x.2.1, x.2.2) := by decide +kernel
theorem dX7_init (i : Nat) {pc ln : Nat} {ins : Instr} (h : tX7_init[i]? = some (pc, ins, ln)) : decode cX7_init pc = .ok (ins, ln) := kX7_init (pc, ins, ln) (List.mem_of_getElem? h)
def tX7_isLimited : List zI := [(0, .aload_n 0, 1), (1, .getfield 41, 3), (4, .bipush 114, 2), (6, .if_icmp .eq 12, 3), (9, .aload_n 0, 1), (10, .getfield 41, 3), (13, .bipush 101, 2), (15, .if_icmp .ne 7, 3), (18, .iconst 1, 1), (19, .goto 4, 3), (22, .iconst 0, 1), (23, .ireturn, 1)]
theorem kX7_isLimited : ∀ x ∈ tX7_isLimited, decode cX7_isLimited x.1 = .ok (x.2.1, x.2.2) := by decide +kernel
theorem dX7_isLimited (i : Nat) {pc ln : Nat} {ins : Instr} (h : tX7_isLimited[i]? = some (pc, ins, ln)) : decode cX7_isLimited pc = .ok (ins, ln) := kX7_isLimited (pc, ins, ln) (List.mem_of_getElem? h)
def tX7_wholeLimit : List zI := [(0, .aload_n 0, 1), (1, .invokevirtual 60, 3), (4, .ifCond .eq 19, 3), (7, .aload_n 0, 1), (8, .getfield 57, 3), (11, .i2l, 1), (12, .iconst 1, 1), (13, .aload_n 0, 1), (14, .getfield 19, 3), (17, .iadd, 1), (18, .i2l, 1), (19, .lmul, 1), (20, .goto 6, 3), (23, .ldc2_w 64, 3), (26, .lreturn, 1)]
theorem kX7_wholeLimit : ∀ x ∈ tX7_wholeLimit, decode cX7_wholeLimit x.1 = .ok (x.2.1, x.2.2) := by decide +kernel
theorem dX7_wholeLimit (i : Nat) {pc ln : Nat} {ins : Instr} (h : tX7_wholeLimit[i]? = some (pc, ins, ln)) : decode cX7_wholeLimit pc = .ok (ins, ln) := kX7_wholeLimit (pc, ins, ln) (List.mem_of_getElem? h)
def tX7_isForEachLoss : List zI := [(0, .aload_n 0, 1), (1, .getfield 41, 3), (4, .bipush 113, 2), (6, .if_icmp .eq 21, 3), (9, .aload_n 0, 1), (10, .getfield 41, 3), (13, .bipush 115, 2), (15, .if_icmp .eq 12, 3), (18, .aload_n 0, 1), (19, .getfield 41, 3), (22, .bipush 114, 2), (24, .if_icmp .ne 7, 3), (27, .iconst 1, 1), (28, .goto 4, 3), (31, .iconst 0, 1), (32, .ireturn, 1)]
theorem kX7_isForEachLoss : ∀ x ∈ tX7_isForEachLoss, decode cX7_isForEachLoss x.1 = .ok (x.2.1, x.2.2) := by decide +kernel
theorem dX7_isForEachLoss (i : Nat) {pc ln : Nat} {ins : Instr} (h : tX7_isForEachLoss[i]? = some (pc, ins, ln)) : decode cX7_isForEachLoss pc = .ok (ins, ln) := kX7_isForEachLoss (pc, ins, ln) (List.mem_of_getElem? h)
def tX7_coversLoss : List zI := [(0, .aload_n 0, 1), (1, .getfield 45, 3), (4, .bipush 111, 2), (6, .if_icmp .ne 10, 3), (9, .aload_n 1, 1), (10, .getfield 66, 3), (13, .goto 26, 3), (16, .aload_n 0, 1), (17, .getfield 45, 3), (20, .bipush 97, 2), (22, .if_icmp .ne 13, 3), (25, .aload_n 1, 1), (26, .getfield 71, 3), (29, .getfield 75, 3), (32, .goto 7, 3), (35, .aload_n 1, 1), (36, .getfield 78, 3), (39, .istore_n 2, 1), (40, .aload_n 0, 1), (41, .getfield 32, 3), (44, .ifCond .ne 23, 3), (47, .aload_n 0, 1), (48, .getfield 48, 3), (51, .iload_n 2, 1), (52, .if_icmp .gt 15, 3), (55, .iload_n 2, 1), (56, .aload_n 0, 1), (57, .getfield 51, 3), (60, .if_icmp .gt 7, 3), (63, .iconst 1, 1), (64, .goto 4, 3), (67, .iconst 0, 1), (68, .ireturn, 1)]
theorem kX7_coversLoss : ∀ x ∈ tX7_coversLoss, decode cX7_coversLoss x.1 = .ok (x.2.1, x.2.2) := by decide +kernel
theorem dX7_coversLoss (i : Nat) {pc ln : Nat} {ins : Instr} (h : tX7_coversLoss[i]? = some (pc, ins, ln)) : decode cX7_coversLoss pc = .ok (ins, ln) := kX7_coversLoss (pc, ins, ln) (List.mem_of_getElem? h)
def tX7_layerOf : List zI := [(0, .lconst 0, 1), (1, .lload_n 1, 1), (2, .aload_n 0, 1), (3, .getfield 54, 3), (6, .i2l, 1), (7, .lsub, 1), (8, .aload_n 0, 1), (9, .getfield 57, 3), (12, .i2l, 1), (13, .invokestatic 81, 3), (16, .invokestatic 87, 3), (19, .lreturn, 1)]
theorem kX7_layerOf : ∀ x ∈ tX7_layerOf, decode cX7_layerOf x.1 = .ok (x.2.1, x.2.2) := by decide +kernel
theorem dX7_layerOf (i : Nat) {pc ln : Nat} {ins : Instr} (h : tX7_layerOf[i]? = some (pc, ins, ln)) : decode cX7_layerOf pc = .ok (ins, ln) := kX7_layerOf (pc, ins, ln) (List.mem_of_getElem? h)
def tX7_wantedOf : List zI := [(0, .aload_n 0, 1), (1, .getfield 41, 3), (4, .bipush 113, 2), (6, .if_icmp .ne 18, 3), (9, .aload_n 1, 1), (10, .getfield 90, 3), (13, .aload_n 0, 1), (14, .getfield 54, 3), (17, .i2l, 1), (18, .lmul, 1), (19, .ldc2_w 94, 3), (22, .ldiv, 1), (23, .lreturn, 1), (24, .aload_n 0, 1), (25, .getfield 41, 3), (28, .bipush 115, 2), (30, .if_icmp .ne 51, 3), (33, .aload_n 1, 1), (34, .getfield 71, 3), (37, .getfield 96, 3), (40, .istore_n 2, 1), (41, .iload_n 2, 1), (42, .aload_n 0, 1), (43, .getfield 54, 3), (46, .if_icmp .le 33, 3), (49, .aload_n 1, 1), (50, .getfield 90, 3), (53, .iload_n 2, 1), (54, .aload_n 0, 1), (55, .getfield 54, 3), (58, .isub, 1), (59, .aload_n 0, 1), (60, .getfield 54, 3), (63, .aload_n 0, 1), (64, .getfield 57, 3), (67, .imul, 1), (68, .invokestatic 99, 3), (71, .i2l, 1), (72, .lmul, 1), (73, .iload_n 2, 1), (74, .i2l, 1), (75, .ldiv, 1), (76, .goto 4, 3), (79, .lconst 0, 1), (80, .lreturn, 1), (81, .aload_n 0, 1), (82, .aload_n 1, 1), (83, .getfield 90, 3), (86, .invokevirtual 102, 3), (89, .lreturn, 1)]
theorem kX7_wantedOf : ∀ x ∈ tX7_wantedOf, decode cX7_wantedOf x.1 = .ok (x.2.1, x.2.2) := by decide +kernel
theorem dX7_wantedOf (i : Nat) {pc ln : Nat} {ins : Instr} (h : tX7_wantedOf[i]? = some (pc, ins, ln)) : decode cX7_wantedOf pc = .ok (ins, ln) := kX7_wantedOf (pc, ins, ln) (List.mem_of_getElem? h)
def tX7_priceOf : List zI := [(0, .aload_n 0, 1), (1, .getfield 29, 3), (4, .i2l, 1), (5, .lload_n 1, 1), (6, .lmul, 1), (7, .aload_n 0, 1), (8, .getfield 22, 3), (11, .i2l, 1), (12, .lmul, 1), (13, .aload_n 0, 1), (14, .getfield 57, 3), (17, .i2l, 1), (18, .ldc2_w 94, 3), (21, .lmul, 1), (22, .ldiv, 1), (23, .lstore 4, 2), (25, .aload_n 0, 1), (26, .getfield 25, 3), (29, .ifCond .eq 34, 3), (32, .lload 4, 2), (34, .iconst 0, 1), (35, .aload_n 0, 1), (36, .getfield 51, 3), (39, .iload_n 3, 1), (40, .isub, 1), (41, .iconst 1, 1), (42, .iadd, 1), (43, .invokestatic 106, 3), (46, .i2l, 1), (47, .lmul, 1), (48, .aload_n 0, 1), (49, .getfield 51, 3), (52, .aload_n 0, 1), (53, .getfield 48, 3), (56, .isub, 1), (57, .iconst 1, 1), (58, .iadd, 1), (59, .i2l, 1), (60, .ldiv, 1), (61, .lstore 4, 2), (63, .lload 4, 2), (65, .lreturn, 1)]
theorem kX7_priceOf : ∀ x ∈ tX7_priceOf, decode cX7_priceOf x.1 = .ok (x.2.1, x.2.2) := by decide +kernel
theorem dX7_priceOf (i : Nat) {pc ln : Nat} {ins : Instr} (h : tX7_priceOf[i]? = some (pc, ins, ln)) : decode cX7_priceOf pc = .ok (ins, ln) := kX7_priceOf (pc, ins, ln) (List.mem_of_getElem? h)
def tX7_allShares : List zI := [(0, .iconst 0, 1), (1, .istore_n 1, 1), (2, .iconst 0, 1), (3, .istore_n 2, 1), (4, .iload_n 2, 1), (5, .aload_n 0, 1), (6, .getfield 9, 3), (9, .arraylength, 1), (10, .if_icmp .ge 18, 3), (13, .iload_n 1, 1), (14, .aload_n 0, 1), (15, .getfield 9, 3), (18, .iload_n 2, 1), (19, .iaload, 1), (20, .iadd, 1), (21, .istore_n 1, 1), (22, .iinc 2 1, 3), (25, .goto (-21), 3), (28, .iload_n 1, 1), (29, .ireturn, 1)]
theorem kX7_allShares : ∀ x ∈ tX7_allShares, decode cX7_allShares x.1 = .ok (x.2.1, x.2.2) := by decide +kernel
theorem dX7_allShares (i : Nat) {pc ln : Nat} {ins : Instr} (h : tX7_allShares[i]? = some (pc, ins, ln)) : decode cX7_allShares pc = .ok (ins, ln) := kX7_allShares (pc, ins, ln) (List.mem_of_getElem? h)
def tX8_init : List zI := [(0, .aload_n 0, 1), (1, .invokespecial 1, 3), (4, .aload_n 0, 1), (5, .new 7, 3), (8, .dup, 1), (9, .invokespecial 9, 3), (12, .putfield 10, 3), (15, .aload_n 0, 1), (16, .new 7, 3), (19, .dup, 1), (20, .invokespecial 9, 3), (23, .putfield 16, 3), (26, .aload_n 0, 1), (27, .new 7, 3), (30, .dup, 1), (31, .invokespecial 9, 3), (34, .putfield 19, 3), (37, .aload_n 0, 1), (38, .new 7, 3), (41, .dup, 1), (42, .invokespecial 9, 3), (45, .putfield 22, 3), (48, .aload_n 0, 1), (49, .new 7, 3), (52, .dup, 1), (53, .invokespecial 9, 3), (56, .putfield 25, 3), (59, .aload_n 0, 1), (60, .new 28, 3), (63, .dup, 1), (64, .invokespecial 30, 3), (67, .putfield 31, 3), (70, .aload_n 0, 1), (71, .new 28, 3), (74, .dup, 1), (75, .invokespecial 30, 3), (78, .putfield 35, 3), (81, .aload_n 0, 1), (82, .new 38, 3), (85, .dup, 1), (86, .invokespecial 40, 3), (89, .putfield 41, 3), (92, .aload_n 0, 1), (93, .iconst 0, 1), (94, .putfield 45, 3), (97, .return_, 1)]
theorem kX8_init : ∀ x ∈ tX8_init, decode cX8_init x.1 = .ok (x.2.1, x.2.2) := by decide +kernel
theorem dX8_init (i : Nat) {pc ln : Nat} {ins : Instr} (h : tX8_init[i]? = some (pc, ins, ln)) : decode cX8_init pc = .ok (ins, ln) := kX8_init (pc, ins, ln) (List.mem_of_getElem? h)
def tX8_policy : List zI := [(0, .iload_n 1, 1), (1, .iconst 1, 1), (2, .ldc 49, 2), (4, .invokestatic 50, 3), (7, .ifCond .ne 21, 3), (10, .iload_n 2, 1), (11, .iconst 0, 1), (12, .iconst 3, 1), (13, .invokestatic 50, 3), (16, .ifCond .ne 12, 3), (19, .iload_n 3, 1), (20, .iload 4, 2), (22, .invokestatic 54, 3), (25, .ifCond .ne 13, 3), (28, .new 58, 3), (31, .dup, 1), (32, .ldc 60, 2), (34, .invokespecial 62, 3), (37, .athrow, 1), (38, .aload_n 0, 1), (39, .getfield 10, 3), (42, .invokevirtual 65, 3), (45, .bipush 12, 2), (47, .if_icmp .lt 13, 3), (50, .new 69, 3), (53, .dup, 1), (54, .ldc 71, 2), (56, .invokespecial 73, 3), (59, .athrow, 1), (60, .new 74, 3), (63, .dup, 1), (64, .iload_n 1, 1), (65, .iload_n 2, 1), (66, .iload_n 3, 1), (67, .iload 4, 2), (69, .invokespecial 76, 3), (72, .astore 5, 2), (74, .aload_n 0, 1), (75, .getfield 10, 3), (78, .aload 5, 2), (80, .invokevirtual 79, 3), (83, .pop, 1), (84, .aload_n 0, 1), (85, .getfield 25, 3), (88, .new 83, 3), (91, .dup, 1), (92, .aload 5, 2), (94, .invokespecial 85, 3), (97, .invokevirtual 79, 3), (100, .pop, 1), (101, .aload_n 0, 1), (102, .getfield 10, 3), (105, .invokevirtual 65, 3), (108, .iconst 1, 1), (109, .isub, 1), (110, .ireturn, 1)]
theorem kX8_policy : ∀ x ∈ tX8_policy, decode cX8_policy x.1 = .ok (x.2.1, x.2.2) := by decide +kernel
theorem dX8_policy (i : Nat) {pc ln : Nat} {ins : Instr} (h : tX8_policy[i]? = some (pc, ins, ln)) : decode cX8_policy pc = .ok (ins, ln) := kX8_policy (pc, ins, ln) (List.mem_of_getElem? h)
def tX8_loss_p0 : List zI := [(0, .iload_n 1, 1), (1, .iconst 0, 1), (2, .aload_n 0, 1), (3, .getfield 10, 3), (6, .invokevirtual 65, 3), (9, .iconst 1, 1), (10, .isub, 1), (11, .invokestatic 50, 3), (14, .ifCond .eq 13, 3), (17, .new 88, 3), (20, .dup, 1), (21, .ldc 90, 2), (23, .invokespecial 92, 3), (26, .athrow, 1), (27, .iload_n 2, 1), (28, .iload_n 3, 1), (29, .invokestatic 54, 3), (32, .ifCond .eq 14, 3), (35, .iload 4, 2), (37, .iconst 0, 1), (38, .ldc 49, 2), (40, .invokestatic 50, 3), (43, .ifCond .eq 13, 3), (46, .new 58, 3), (49, .dup, 1), (50, .ldc 93, 2), (52, .invokespecial 62, 3), (55, .athrow, 1), (56, .aload_n 0, 1), (57, .getfield 10, 3), (60, .iload_n 1, 1), (61, .invokevirtual 95, 3), (64, .checkcast 74, 3), (67, .astore 5, 2), (69, .aload 5, 2), (71, .iload_n 2, 1), (72, .invokevirtual 99, 3), (75, .ifCond .ne 13, 3), (78, .new 103, 3), (81, .dup, 1), (82, .ldc 105, 2), (84, .invokespecial 107, 3), (87, .athrow, 1), (88, .aload_n 0, 1), (89, .getfield 16, 3), (92, .invokevirtual 65, 3), (95, .bipush 30, 2), (97, .if_icmp .lt 13, 3), (100, .new 69, 3), (103, .dup, 1)]
theorem kX8_loss_p0 : ∀ x ∈ tX8_loss_p0, decode cX8_loss x.1 = .ok (x.2.1, x.2.2) := by decide +kernel
theorem dX8_loss_p0 (i : Nat) {pc ln : Nat} {ins : Instr} (h : tX8_loss_p0[i]? = some (pc, ins, ln)) : decode cX8_loss pc = .ok (ins, ln) := kX8_loss_p0 (pc, ins, ln) (List.mem_of_getElem? h)
def tX8_loss_p1 : List zI := [(104, .ldc 108, 2), (106, .invokespecial 73, 3), (109, .athrow, 1), (110, .new 83, 3), (113, .dup, 1), (114, .aload 5, 2), (116, .invokespecial 85, 3), (119, .astore 6, 2), (121, .aload 6, 2), (123, .iload_n 2, 1), (124, .iload_n 3, 1), (125, .iload 4, 2), (127, .invokevirtual 110, 3), (130, .aload_n 0, 1), (131, .getfield 16, 3), (134, .aload 6, 2), (136, .invokevirtual 79, 3), (139, .pop, 1), (140, .aload_n 0, 1), (141, .getfield 31, 3), (144, .aload 6, 2), (146, .invokevirtual 114, 3), (149, .aload_n 0, 1), (150, .iconst 0, 1), (151, .putfield 45, 3), (154, .aload_n 0, 1), (155, .getfield 16, 3), (158, .invokevirtual 65, 3), (161, .iconst 1, 1), (162, .isub, 1), (163, .ireturn, 1)]
theorem kX8_loss_p1 : ∀ x ∈ tX8_loss_p1, decode cX8_loss x.1 = .ok (x.2.1, x.2.2) := by decide +kernel
theorem dX8_loss_p1 (i : Nat) {pc ln : Nat} {ins : Instr} (h : tX8_loss_p1[i]? = some (pc, ins, ln)) : decode cX8_loss pc = .ok (ins, ln) := kX8_loss_p1 (pc, ins, ln) (List.mem_of_getElem? h)
def tX8_setAmount : List zI := [(0, .aload_n 0, 1), (1, .iload_n 1, 1), (2, .invokevirtual 118, 3), (5, .astore_n 3, 1), (6, .iload_n 2, 1), (7, .iconst 0, 1), (8, .ldc 49, 2), (10, .invokestatic 50, 3), (13, .ifCond .eq 13, 3), (16, .new 58, 3), (19, .dup, 1), (20, .ldc 122, 2), (22, .invokespecial 62, 3), (25, .athrow, 1), (26, .aload_n 3, 1), (27, .getfield 124, 3), (30, .istore 4, 2), (32, .aload_n 3, 1), (33, .iload_n 2, 1), (34, .putfield 124, 3), (37, .aload_n 0, 1), (38, .iconst 0, 1), (39, .putfield 45, 3), (42, .iload 4, 2), (44, .ireturn, 1)]
theorem kX8_setAmount : ∀ x ∈ tX8_setAmount, decode cX8_setAmount x.1 = .ok (x.2.1, x.2.2) := by decide +kernel
theorem dX8_setAmount (i : Nat) {pc ln : Nat} {ins : Instr} (h : tX8_setAmount[i]? = some (pc, ins, ln)) : decode cX8_setAmount pc = .ok (ins, ln) := kX8_setAmount (pc, ins, ln) (List.mem_of_getElem? h)
def tX8_treaty_p0 : List zI := [(0, .iload_n 3, 1), (1, .iload 4, 2), (3, .invokestatic 54, 3), (6, .ifCond .eq 21, 3), (9, .iload_n 2, 1), (10, .invokestatic 128, 3), (13, .ifCond .eq 14, 3), (16, .iload_n 1, 1), (17, .iload 5, 2), (19, .iload 6, 2), (21, .invokestatic 132, 3), (24, .ifCond .ne 13, 3), (27, .new 58, 3), (30, .dup, 1), (31, .ldc 136, 2), (33, .invokespecial 62, 3), (36, .athrow, 1), (37, .aload_n 0, 1), (38, .getfield 19, 3), (41, .invokevirtual 65, 3), (44, .bipush 8, 2), (46, .if_icmp .lt 13, 3), (49, .new 69, 3), (52, .dup, 1), (53, .ldc 138, 2), (55, .invokespecial 73, 3), (58, .athrow, 1), (59, .new 140, 3), (62, .dup, 1), (63, .aload_n 0, 1), (64, .getfield 19, 3), (67, .invokevirtual 65, 3), (70, .iload_n 1, 1), (71, .iload_n 2, 1), (72, .iload_n 3, 1), (73, .iload 4, 2), (75, .iload 5, 2), (77, .iload 6, 2), (79, .invokespecial 142, 3), (82, .astore 7, 2), (84, .aload_n 0, 1), (85, .getfield 19, 3), (88, .aload 7, 2), (90, .invokevirtual 79, 3), (93, .pop, 1), (94, .aload_n 0, 1), (95, .getfield 31, 3), (98, .getfield 145, 3), (101, .new 148, 3), (104, .dup, 1)]
theorem kX8_treaty_p0 : ∀ x ∈ tX8_treaty_p0, decode cX8_treaty x.1 = .ok (x.2.1, x.2.2) := by decide +kernel
theorem dX8_treaty_p0 (i : Nat) {pc ln : Nat} {ins : Instr} (h : tX8_treaty_p0[i]? = some (pc, ins, ln)) : decode cX8_treaty pc = .ok (ins, ln) := kX8_treaty_p0 (pc, ins, ln) (List.mem_of_getElem? h)
def tX8_treaty_p1 : List zI := [(105, .aload 7, 2), (107, .invokespecial 150, 3), (110, .invokevirtual 79, 3), (113, .pop, 1), (114, .aload_n 0, 1), (115, .getfield 35, 3), (118, .getfield 145, 3), (121, .new 148, 3), (124, .dup, 1), (125, .aload 7, 2), (127, .invokespecial 150, 3), (130, .invokevirtual 79, 3), (133, .pop, 1), (134, .aload_n 0, 1), (135, .iconst 0, 1), (136, .putfield 45, 3), (139, .aload 7, 2), (141, .getfield 153, 3), (144, .ireturn, 1)]
theorem kX8_treaty_p1 : ∀ x ∈ tX8_treaty_p1, decode cX8_treaty x.1 = .ok (x.2.1, x.2.2) := by decide +kernel
theorem dX8_treaty_p1 (i : Nat) {pc ln : Nat} {ins : Instr} (h : tX8_treaty_p1[i]? = some (pc, ins, ln)) : decode cX8_treaty pc = .ok (ins, ln) := kX8_treaty_p1 (pc, ins, ln) (List.mem_of_getElem? h)
def tX8_setDays : List zI := [(0, .aload_n 0, 1), (1, .iload_n 1, 1), (2, .invokevirtual 156, 3), (5, .astore_n 3, 1), (6, .iload_n 2, 1), (7, .iconst 1, 1), (8, .bipush 9, 2), (10, .invokestatic 50, 3), (13, .ifCond .eq 13, 3), (16, .new 58, 3), (19, .dup, 1), (20, .ldc 160, 2), (22, .invokespecial 62, 3), (25, .athrow, 1), (26, .aload_n 3, 1), (27, .getfield 162, 3), (30, .istore 4, 2), (32, .aload_n 3, 1), (33, .iload_n 2, 1), (34, .putfield 162, 3), (37, .aload_n 0, 1), (38, .iconst 0, 1), (39, .putfield 45, 3), (42, .iload 4, 2), (44, .ireturn, 1)]
theorem kX8_setDays : ∀ x ∈ tX8_setDays, decode cX8_setDays x.1 = .ok (x.2.1, x.2.2) := by decide +kernel
theorem dX8_setDays (i : Nat) {pc ln : Nat} {ins : Instr} (h : tX8_setDays[i]? = some (pc, ins, ln)) : decode cX8_setDays pc = .ok (ins, ln) := kX8_setDays (pc, ins, ln) (List.mem_of_getElem? h)
def tX8_reinstate : List zI := [(0, .aload_n 0, 1), (1, .iload_n 1, 1), (2, .invokevirtual 156, 3), (5, .astore 5, 2), (7, .iload_n 2, 1), (8, .iconst 0, 1), (9, .iconst 5, 1), (10, .invokestatic 50, 3), (13, .ifCond .ne 14, 3), (16, .iload_n 3, 1), (17, .iconst 0, 1), (18, .sipush 200, 3), (21, .invokestatic 50, 3), (24, .ifCond .eq 13, 3), (27, .new 58, 3), (30, .dup, 1), (31, .ldc 165, 2), (33, .invokespecial 62, 3), (36, .athrow, 1), (37, .aload 5, 2), (39, .invokevirtual 167, 3), (42, .ifCond .ne 13, 3), (45, .new 103, 3), (48, .dup, 1), (49, .ldc 171, 2), (51, .invokespecial 107, 3), (54, .athrow, 1), (55, .aload 5, 2), (57, .getfield 173, 3), (60, .istore 6, 2), (62, .aload 5, 2), (64, .iload_n 2, 1), (65, .putfield 173, 3), (68, .aload 5, 2), (70, .iload_n 3, 1), (71, .putfield 176, 3), (74, .aload 5, 2), (76, .iload 4, 2), (78, .putfield 179, 3), (81, .aload_n 0, 1), (82, .iconst 0, 1), (83, .putfield 45, 3), (86, .iload 6, 2), (88, .ireturn, 1)]
theorem kX8_reinstate : ∀ x ∈ tX8_reinstate, decode cX8_reinstate x.1 = .ok (x.2.1, x.2.2) := by decide +kernel
theorem dX8_reinstate (i : Nat) {pc ln : Nat} {ins : Instr} (h : tX8_reinstate[i]? = some (pc, ins, ln)) : decode cX8_reinstate pc = .ok (ins, ln) := kX8_reinstate (pc, ins, ln) (List.mem_of_getElem? h)
def tX8_setPremium : List zI := [(0, .aload_n 0, 1), (1, .iload_n 1, 1), (2, .invokevirtual 156, 3), (5, .astore_n 3, 1), (6, .iload_n 2, 1), (7, .iconst 0, 1), (8, .ldc 49, 2), (10, .invokestatic 50, 3), (13, .ifCond .eq 13, 3), (16, .new 58, 3), (19, .dup, 1), (20, .ldc 182, 2), (22, .invokespecial 62, 3), (25, .athrow, 1), (26, .aload_n 3, 1), (27, .getfield 184, 3), (30, .istore 4, 2), (32, .aload_n 3, 1), (33, .iload_n 2, 1), (34, .putfield 184, 3), (37, .aload_n 0, 1), (38, .iconst 0, 1), (39, .putfield 45, 3), (42, .iload 4, 2), (44, .ireturn, 1)]
theorem kX8_setPremium : ∀ x ∈ tX8_setPremium, decode cX8_setPremium x.1 = .ok (x.2.1, x.2.2) := by decide +kernel
theorem dX8_setPremium (i : Nat) {pc ln : Nat} {ins : Instr} (h : tX8_setPremium[i]? = some (pc, ins, ln)) : decode cX8_setPremium pc = .ok (ins, ln) := kX8_setPremium (pc, ins, ln) (List.mem_of_getElem? h)
def tX8_share : List zI := [(0, .aload_n 0, 1), (1, .iload_n 1, 1), (2, .invokevirtual 156, 3), (5, .astore 4, 2), (7, .iload_n 2, 1), (8, .invokestatic 187, 3), (11, .iload_n 3, 1), (12, .iconst 0, 1), (13, .bipush 100, 2), (15, .invokestatic 50, 3), (18, .ifCond .eq 13, 3), (21, .new 58, 3), (24, .dup, 1), (25, .ldc 191, 2), (27, .invokespecial 62, 3), (30, .athrow, 1), (31, .aload 4, 2), (33, .getfield 193, 3), (36, .iload_n 2, 1), (37, .iaload, 1), (38, .istore 5, 2), (40, .aload 4, 2), (42, .invokevirtual 197, 3), (45, .iload 5, 2), (47, .isub, 1), (48, .iload_n 3, 1), (49, .iadd, 1), (50, .bipush 100, 2), (52, .if_icmp .le 13, 3), (55, .new 103, 3), (58, .dup, 1), (59, .ldc 200, 2), (61, .invokespecial 107, 3), (64, .athrow, 1), (65, .aload 4, 2), (67, .getfield 193, 3), (70, .iload_n 2, 1), (71, .iload_n 3, 1), (72, .iastore, 1), (73, .iload 5, 2), (75, .ireturn, 1)]
theorem kX8_share : ∀ x ∈ tX8_share, decode cX8_share x.1 = .ok (x.2.1, x.2.2) := by decide +kernel
theorem dX8_share (i : Nat) {pc ln : Nat} {ins : Instr} (h : tX8_share[i]? = some (pc, ins, ln)) : decode cX8_share pc = .ok (ins, ln) := kX8_share (pc, ins, ln) (List.mem_of_getElem? h)
def tX8_fail : List zI := [(0, .iload_n 1, 1), (1, .invokestatic 187, 3), (4, .aload_n 0, 1), (5, .getfield 41, 3), (8, .getfield 202, 3), (11, .iload_n 1, 1), (12, .baload, 1), (13, .istore_n 3, 1), (14, .aload_n 0, 1), (15, .getfield 41, 3), (18, .getfield 202, 3), (21, .iload_n 1, 1), (22, .iload_n 2, 1), (23, .bastore, 1), (24, .iload_n 3, 1), (25, .ireturn, 1)]
theorem kX8_fail : ∀ x ∈ tX8_fail, decode cX8_fail x.1 = .ok (x.2.1, x.2.2) := by decide +kernel
theorem dX8_fail (i : Nat) {pc ln : Nat} {ins : Instr} (h : tX8_fail[i]? = some (pc, ins, ln)) : decode cX8_fail pc = .ok (ins, ln) := kX8_fail (pc, ins, ln) (List.mem_of_getElem? h)
def tX8_handOn : List zI := [(0, .iload_n 1, 1), (1, .invokestatic 187, 3), (4, .iload_n 2, 1), (5, .invokestatic 187, 3), (8, .iload_n 1, 1), (9, .iload_n 2, 1), (10, .if_icmp .eq 24, 3), (13, .iload_n 3, 1), (14, .iconst 0, 1), (15, .ldc 49, 2), (17, .invokestatic 50, 3), (20, .ifCond .ne 14, 3), (23, .iload 4, 2), (25, .iconst 0, 1), (26, .ldc 49, 2), (28, .invokestatic 50, 3), (31, .ifCond .eq 13, 3), (34, .new 58, 3), (37, .dup, 1), (38, .ldc 206, 2), (40, .invokespecial 62, 3), (43, .athrow, 1), (44, .aload_n 0, 1), (45, .getfield 41, 3), (48, .getfield 208, 3), (51, .iload_n 1, 1), (52, .iaload, 1), (53, .ifCond .le 7, 3), (56, .iconst 1, 1), (57, .goto 4, 3), (60, .iconst 0, 1), (61, .istore 5, 2), (63, .aload_n 0, 1), (64, .getfield 41, 3), (67, .getfield 211, 3), (70, .iload_n 1, 1), (71, .iload_n 2, 1), (72, .iastore, 1), (73, .aload_n 0, 1), (74, .getfield 41, 3), (77, .getfield 214, 3), (80, .iload_n 1, 1), (81, .iload_n 3, 1), (82, .iastore, 1), (83, .aload_n 0, 1), (84, .getfield 41, 3), (87, .getfield 208, 3), (90, .iload_n 1, 1), (91, .iload 4, 2), (93, .iastore, 1), (94, .iload 5, 2), (96, .ireturn, 1)]
theorem kX8_handOn : ∀ x ∈ tX8_handOn, decode cX8_handOn x.1 = .ok (x.2.1, x.2.2) := by decide +kernel
theorem dX8_handOn (i : Nat) {pc ln : Nat} {ins : Instr} (h : tX8_handOn[i]? = some (pc, ins, ln)) : decode cX8_handOn pc = .ok (ins, ln) := kX8_handOn (pc, ins, ln) (List.mem_of_getElem? h)
def tX8_commute : List zI := [(0, .aload_n 0, 1), (1, .iload_n 1, 1), (2, .invokevirtual 217, 3), (5, .astore_n 3, 1), (6, .iload_n 2, 1), (7, .iconst 0, 1), (8, .ldc 49, 2), (10, .invokestatic 50, 3), (13, .ifCond .eq 13, 3), (16, .new 58, 3), (19, .dup, 1), (20, .ldc 221, 2), (22, .invokespecial 62, 3), (25, .athrow, 1), (26, .aload_n 3, 1), (27, .getfield 223, 3), (30, .getfield 227, 3), (33, .ifCond .eq 13, 3), (36, .new 103, 3), (39, .dup, 1), (40, .ldc 230, 2), (42, .invokespecial 107, 3), (45, .athrow, 1), (46, .aload_n 0, 1), (47, .invokevirtual 232, 3), (50, .aload_n 3, 1), (51, .getfield 223, 3), (54, .iconst 1, 1), (55, .putfield 227, 3), (58, .aload_n 3, 1), (59, .getfield 223, 3), (62, .iload_n 2, 1), (63, .putfield 235, 3), (66, .aload_n 0, 1), (67, .iconst 0, 1), (68, .putfield 45, 3), (71, .aload_n 3, 1), (72, .getfield 238, 3), (75, .lreturn, 1)]
theorem kX8_commute : ∀ x ∈ tX8_commute, decode cX8_commute x.1 = .ok (x.2.1, x.2.2) := by decide +kernel
theorem dX8_commute (i : Nat) {pc ln : Nat} {ins : Instr} (h : tX8_commute[i]? = some (pc, ins, ln)) : decode cX8_commute pc = .ok (ins, ln) := kX8_commute (pc, ins, ln) (List.mem_of_getElem? h)
def tX8_left : List zI := [(0, .aload_n 0, 1), (1, .iload_n 1, 1), (2, .invokevirtual 118, 3), (5, .astore_n 2, 1), (6, .aload_n 0, 1), (7, .invokevirtual 232, 3), (10, .aload_n 2, 1), (11, .getfield 242, 3), (14, .lreturn, 1)]
theorem kX8_left : ∀ x ∈ tX8_left, decode cX8_left x.1 = .ok (x.2.1, x.2.2) := by decide +kernel
theorem dX8_left (i : Nat) {pc ln : Nat} {ins : Instr} (h : tX8_left[i]? = some (pc, ins, ln)) : decode cX8_left pc = .ok (ins, ln) := kX8_left (pc, ins, ln) (List.mem_of_getElem? h)
def tX8_taken : List zI := [(0, .aload_n 0, 1), (1, .invokevirtual 232, 3), (4, .aload_n 0, 1), (5, .iload_n 1, 1), (6, .invokevirtual 217, 3), (9, .getfield 238, 3), (12, .lreturn, 1)]
theorem kX8_taken : ∀ x ∈ tX8_taken, decode cX8_taken x.1 = .ok (x.2.1, x.2.2) := by decide +kernel
theorem dX8_taken (i : Nat) {pc ln : Nat} {ins : Instr} (h : tX8_taken[i]? = some (pc, ins, ln)) : decode cX8_taken pc = .ok (ins, ln) := kX8_taken (pc, ins, ln) (List.mem_of_getElem? h)
def tX8_takenFrom : List zI := [(0, .aload_n 0, 1), (1, .iload_n 1, 1), (2, .invokevirtual 156, 3), (5, .astore_n 3, 1), (6, .aload_n 0, 1), (7, .iload_n 2, 1), (8, .invokevirtual 118, 3), (11, .astore 4, 2), (13, .aload_n 0, 1), (14, .invokevirtual 232, 3), (17, .aload 4, 2), (19, .getfield 245, 3), (22, .aload_n 3, 1), (23, .getfield 153, 3), (26, .laload, 1), (27, .lreturn, 1)]
theorem kX8_takenFrom : ∀ x ∈ tX8_takenFrom, decode cX8_takenFrom x.1 = .ok (x.2.1, x.2.2) := by decide +kernel
theorem dX8_takenFrom (i : Nat) {pc ln : Nat} {ins : Instr} (h : tX8_takenFrom[i]? = some (pc, ins, ln)) : decode cX8_takenFrom pc = .ok (ins, ln) := kX8_takenFrom (pc, ins, ln) (List.mem_of_getElem? h)
def tX8_limit : List zI := [(0, .aload_n 0, 1), (1, .iload_n 1, 1), (2, .invokevirtual 217, 3), (5, .astore_n 2, 1), (6, .aload_n 2, 1), (7, .getfield 223, 3), (10, .invokevirtual 167, 3), (13, .ifCond .ne 13, 3), (16, .new 103, 3), (19, .dup, 1), (20, .ldc 249, 2), (22, .invokespecial 107, 3), (25, .athrow, 1), (26, .aload_n 2, 1), (27, .getfield 223, 3), (30, .getfield 227, 3), (33, .ifCond .eq 13, 3), (36, .new 69, 3), (39, .dup, 1), (40, .ldc 251, 2), (42, .invokespecial 73, 3), (45, .athrow, 1), (46, .aload_n 0, 1), (47, .invokevirtual 232, 3), (50, .aload_n 2, 1), (51, .getfield 253, 3), (54, .lreturn, 1)]
theorem kX8_limit : ∀ x ∈ tX8_limit, decode cX8_limit x.1 = .ok (x.2.1, x.2.2) := by decide +kernel
theorem dX8_limit (i : Nat) {pc ln : Nat} {ins : Instr} (h : tX8_limit[i]? = some (pc, ins, ln)) : decode cX8_limit pc = .ok (ins, ln) := kX8_limit (pc, ins, ln) (List.mem_of_getElem? h)
def tX8_reinstated : List zI := [(0, .aload_n 0, 1), (1, .invokevirtual 232, 3), (4, .aload_n 0, 1), (5, .iload_n 1, 1), (6, .invokevirtual 217, 3), (9, .getfield 256, 3), (12, .lreturn, 1)]
theorem kX8_reinstated : ∀ x ∈ tX8_reinstated, decode cX8_reinstated x.1 = .ok (x.2.1, x.2.2) := by decide +kernel
theorem dX8_reinstated (i : Nat) {pc ln : Nat} {ins : Instr} (h : tX8_reinstated[i]? = some (pc, ins, ln)) : decode cX8_reinstated pc = .ok (ins, ln) := kX8_reinstated (pc, ins, ln) (List.mem_of_getElem? h)
def tX8_owed : List zI := [(0, .aload_n 0, 1), (1, .invokevirtual 232, 3), (4, .aload_n 0, 1), (5, .iload_n 1, 1), (6, .invokevirtual 217, 3), (9, .getfield 259, 3), (12, .lreturn, 1)]
theorem kX8_owed : ∀ x ∈ tX8_owed, decode cX8_owed x.1 = .ok (x.2.1, x.2.2) := by decide +kernel
theorem dX8_owed (i : Nat) {pc ln : Nat} {ins : Instr} (h : tX8_owed[i]? = some (pc, ins, ln)) : decode cX8_owed pc = .ok (ins, ln) := kX8_owed (pc, ins, ln) (List.mem_of_getElem? h)
def tX8_events : List zI := [(0, .aload_n 0, 1), (1, .iload_n 1, 1), (2, .invokevirtual 217, 3), (5, .astore_n 3, 1), (6, .iload_n 2, 1), (7, .iconst 0, 1), (8, .iconst 3, 1), (9, .invokestatic 50, 3), (12, .ifCond .eq 14, 3), (15, .new 58, 3), (18, .dup, 1), (19, .ldc_w 262, 3), (22, .invokespecial 62, 3), (25, .athrow, 1), (26, .aload_n 3, 1), (27, .getfield 223, 3), (30, .invokestatic 264, 3), (33, .aload_n 0, 1), (34, .invokevirtual 232, 3), (37, .aload_n 3, 1), (38, .getfield 267, 3), (41, .iload_n 2, 1), (42, .iaload, 1), (43, .ireturn, 1)]
theorem kX8_events : ∀ x ∈ tX8_events, decode cX8_events x.1 = .ok (x.2.1, x.2.2) := by decide +kernel
theorem dX8_events (i : Nat) {pc ln : Nat} {ins : Instr} (h : tX8_events[i]? = some (pc, ins, ln)) : decode cX8_events pc = .ok (ins, ln) := kX8_events (pc, ins, ln) (List.mem_of_getElem? h)
def tX8_isSame : List zI := [(0, .aload_n 0, 1), (1, .iload_n 1, 1), (2, .invokevirtual 156, 3), (5, .astore_n 2, 1), (6, .aload_n 2, 1), (7, .invokestatic 264, 3), (10, .aload_n 0, 1), (11, .getfield 31, 3), (14, .aload_n 2, 1), (15, .invokevirtual 276, 3), (18, .ireturn, 1)]
theorem kX8_isSame : ∀ x ∈ tX8_isSame, decode cX8_isSame x.1 = .ok (x.2.1, x.2.2) := by decide +kernel
theorem dX8_isSame (i : Nat) {pc ln : Nat} {ins : Instr} (h : tX8_isSame[i]? = some (pc, ins, ln)) : decode cX8_isSame pc = .ok (ins, ln) := kX8_isSame (pc, ins, ln) (List.mem_of_getElem? h)
def tX8_paid : List zI := [(0, .aload_n 0, 1), (1, .iload_n 1, 1), (2, .invokevirtual 156, 3), (5, .astore_n 3, 1), (6, .iload_n 2, 1), (7, .invokestatic 187, 3), (10, .aload_n 0, 1), (11, .invokevirtual 232, 3), (14, .aload_n 0, 1), (15, .getfield 41, 3), (18, .getfield 202, 3), (21, .iload_n 2, 1), (22, .baload, 1), (23, .ifCond .eq 7, 3), (26, .lconst 0, 1), (27, .goto 12, 3), (30, .aload_n 0, 1), (31, .getfield 31, 3), (34, .aload_n 3, 1), (35, .iload_n 2, 1), (36, .invokevirtual 280, 3), (39, .lreturn, 1)]
theorem kX8_paid : ∀ x ∈ tX8_paid, decode cX8_paid x.1 = .ok (x.2.1, x.2.2) := by decide +kernel
theorem dX8_paid (i : Nat) {pc ln : Nat} {ins : Instr} (h : tX8_paid[i]? = some (pc, ins, ln)) : decode cX8_paid pc = .ok (ins, ln) := kX8_paid (pc, ins, ln) (List.mem_of_getElem? h)
def tX8_lost : List zI := [(0, .iload_n 1, 1), (1, .invokestatic 187, 3), (4, .aload_n 0, 1), (5, .invokevirtual 232, 3), (8, .aload_n 0, 1), (9, .getfield 41, 3), (12, .getfield 202, 3), (15, .iload_n 1, 1), (16, .baload, 1), (17, .ifCond .eq 14, 3), (20, .aload_n 0, 1), (21, .getfield 31, 3), (24, .iload_n 1, 1), (25, .invokevirtual 284, 3), (28, .goto 4, 3), (31, .lconst 0, 1), (32, .lreturn, 1)]
theorem kX8_lost : ∀ x ∈ tX8_lost, decode cX8_lost x.1 = .ok (x.2.1, x.2.2) := by decide +kernel
theorem dX8_lost (i : Nat) {pc ln : Nat} {ins : Instr} (h : tX8_lost[i]? = some (pc, ins, ln)) : decode cX8_lost pc = .ok (ins, ln) := kX8_lost (pc, ins, ln) (List.mem_of_getElem? h)
def tX8_comes : List zI := [(0, .iload_n 1, 1), (1, .invokestatic 187, 3), (4, .aload_n 0, 1), (5, .invokevirtual 288, 3), (8, .aload_n 0, 1), (9, .getfield 41, 3), (12, .getfield 291, 3), (15, .iload_n 1, 1), (16, .laload, 1), (17, .lreturn, 1)]
theorem kX8_comes : ∀ x ∈ tX8_comes, decode cX8_comes x.1 = .ok (x.2.1, x.2.2) := by decide +kernel
theorem dX8_comes (i : Nat) {pc ln : Nat} {ins : Instr} (h : tX8_comes[i]? = some (pc, ins, ln)) : decode cX8_comes pc = .ok (ins, ln) := kX8_comes (pc, ins, ln) (List.mem_of_getElem? h)
def tX8_stays : List zI := [(0, .iload_n 1, 1), (1, .invokestatic 187, 3), (4, .aload_n 0, 1), (5, .invokevirtual 288, 3), (8, .aload_n 0, 1), (9, .getfield 41, 3), (12, .getfield 291, 3), (15, .iload_n 1, 1), (16, .laload, 1), (17, .aload_n 0, 1), (18, .getfield 41, 3), (21, .iload_n 1, 1), (22, .aload_n 0, 1), (23, .getfield 41, 3), (26, .getfield 291, 3), (29, .iload_n 1, 1), (30, .laload, 1), (31, .invokevirtual 294, 3), (34, .lsub, 1), (35, .lreturn, 1)]
theorem kX8_stays : ∀ x ∈ tX8_stays, decode cX8_stays x.1 = .ok (x.2.1, x.2.2) := by decide +kernel
theorem dX8_stays (i : Nat) {pc ln : Nat} {ins : Instr} (h : tX8_stays[i]? = some (pc, ins, ln)) : decode cX8_stays pc = .ok (ins, ln) := kX8_stays (pc, ins, ln) (List.mem_of_getElem? h)
def tX8_net_p0 : List zI := [(0, .aload_n 0, 1), (1, .invokevirtual 232, 3), (4, .aload_n 0, 1), (5, .getfield 31, 3), (8, .invokevirtual 298, 3), (11, .lstore_n 1, 1), (12, .iconst 0, 1), (13, .istore_n 3, 1), (14, .iload_n 3, 1), (15, .aload_n 0, 1), (16, .getfield 31, 3), (19, .getfield 145, 3), (22, .invokevirtual 65, 3), (25, .if_icmp .ge 73, 3), (28, .aload_n 0, 1), (29, .getfield 31, 3), (32, .getfield 145, 3), (35, .iload_n 3, 1), (36, .invokevirtual 95, 3), (39, .checkcast 148, 3), (42, .astore 4, 2), (44, .lload_n 1, 1), (45, .aload 4, 2), (47, .getfield 259, 3), (50, .ladd, 1), (51, .lstore_n 1, 1), (52, .aload 4, 2), (54, .getfield 223, 3), (57, .getfield 227, 3), (60, .ifCond .eq 24, 3), (63, .lload_n 1, 1), (64, .aload 4, 2), (66, .getfield 238, 3), (69, .aload 4, 2), (71, .getfield 223, 3), (74, .getfield 235, 3), (77, .i2l, 1), (78, .ladd, 1), (79, .lsub, 1), (80, .lstore_n 1, 1), (81, .goto 11, 3), (84, .lload_n 1, 1), (85, .aload 4, 2), (87, .getfield 238, 3), (90, .ladd, 1), (91, .lstore_n 1, 1), (92, .iinc 3 1, 3), (95, .goto (-81), 3), (98, .iconst 0, 1), (99, .istore_n 3, 1)]
theorem kX8_net_p0 : ∀ x ∈ tX8_net_p0, decode cX8_net x.1 = .ok (x.2.1, x.2.2) := by decide +kernel
theorem dX8_net_p0 (i : Nat) {pc ln : Nat} {ins : Instr} (h : tX8_net_p0[i]? = some (pc, ins, ln)) : decode cX8_net pc = .ok (ins, ln) := kX8_net_p0 (pc, ins, ln) (List.mem_of_getElem? h)
def tX8_net_p1 : List zI := [(100, .iload_n 3, 1), (101, .iconst 5, 1), (102, .if_icmp .ge 32, 3), (105, .aload_n 0, 1), (106, .getfield 41, 3), (109, .getfield 202, 3), (112, .iload_n 3, 1), (113, .baload, 1), (114, .ifCond .ne 14, 3), (117, .lload_n 1, 1), (118, .aload_n 0, 1), (119, .getfield 31, 3), (122, .iload_n 3, 1), (123, .invokevirtual 284, 3), (126, .lsub, 1), (127, .lstore_n 1, 1), (128, .iinc 3 1, 3), (131, .goto (-31), 3), (134, .lload_n 1, 1), (135, .lreturn, 1)]
theorem kX8_net_p1 : ∀ x ∈ tX8_net_p1, decode cX8_net x.1 = .ok (x.2.1, x.2.2) := by decide +kernel
theorem dX8_net_p1 (i : Nat) {pc ln : Nat} {ins : Instr} (h : tX8_net_p1[i]? = some (pc, ins, ln)) : decode cX8_net pc = .ok (ins, ln) := kX8_net_p1 (pc, ins, ln) (List.mem_of_getElem? h)
def tX8_scenario : List zI := [(0, .iload_n 1, 1), (1, .iconst 0, 1), (2, .sipush 999, 3), (5, .invokestatic 50, 3), (8, .ifCond .ne 13, 3), (11, .iload_n 2, 1), (12, .iconst 1, 1), (13, .bipush 9, 2), (15, .invokestatic 50, 3), (18, .ifCond .eq 14, 3), (21, .new 58, 3), (24, .dup, 1), (25, .ldc_w 302, 3), (28, .invokespecial 62, 3), (31, .athrow, 1), (32, .aload_n 0, 1), (33, .getfield 22, 3), (36, .invokevirtual 65, 3), (39, .bipush 12, 2), (41, .if_icmp .lt 14, 3), (44, .new 69, 3), (47, .dup, 1), (48, .ldc_w 304, 3), (51, .invokespecial 73, 3), (54, .athrow, 1), (55, .aload_n 0, 1), (56, .getfield 22, 3), (59, .new 306, 3), (62, .dup, 1), (63, .iload_n 1, 1), (64, .iload_n 2, 1), (65, .invokespecial 308, 3), (68, .invokevirtual 79, 3), (71, .pop, 1), (72, .aload_n 0, 1), (73, .getfield 22, 3), (76, .invokevirtual 65, 3), (79, .iconst 1, 1), (80, .isub, 1), (81, .ireturn, 1)]
theorem kX8_scenario : ∀ x ∈ tX8_scenario, decode cX8_scenario x.1 = .ok (x.2.1, x.2.2) := by decide +kernel
theorem dX8_scenario (i : Nat) {pc ln : Nat} {ins : Instr} (h : tX8_scenario[i]? = some (pc, ins, ln)) : decode cX8_scenario pc = .ok (ins, ln) := kX8_scenario (pc, ins, ln) (List.mem_of_getElem? h)
def tX8_damage : List zI := [(0, .aload_n 0, 1), (1, .iload_n 1, 1), (2, .invokevirtual 311, 3), (5, .astore 4, 2), (7, .iload_n 2, 1), (8, .iconst 0, 1), (9, .iconst 3, 1), (10, .invokestatic 50, 3), (13, .ifCond .ne 13, 3), (16, .iload_n 3, 1), (17, .iconst 0, 1), (18, .bipush 100, 2), (20, .invokestatic 50, 3), (23, .ifCond .eq 14, 3), (26, .new 58, 3), (29, .dup, 1), (30, .ldc_w 315, 3), (33, .invokespecial 62, 3), (36, .athrow, 1), (37, .aload 4, 2), (39, .getfield 317, 3), (42, .iload_n 2, 1), (43, .iaload, 1), (44, .istore 5, 2), (46, .aload 4, 2), (48, .getfield 317, 3), (51, .iload_n 2, 1), (52, .iload_n 3, 1), (53, .iastore, 1), (54, .iload 5, 2), (56, .ireturn, 1)]
theorem kX8_damage : ∀ x ∈ tX8_damage, decode cX8_damage x.1 = .ok (x.2.1, x.2.2) := by decide +kernel
theorem dX8_damage (i : Nat) {pc ln : Nat} {ins : Instr} (h : tX8_damage[i]? = some (pc, ins, ln)) : decode cX8_damage pc = .ok (ins, ln) := kX8_damage (pc, ins, ln) (List.mem_of_getElem? h)
def tX8_scenarioNet : List zI := [(0, .aload_n 0, 1), (1, .iload_n 1, 1), (2, .invokevirtual 311, 3), (5, .astore_n 2, 1), (6, .aload_n 0, 1), (7, .aload_n 2, 1), (8, .invokevirtual 319, 3), (11, .aload_n 2, 1), (12, .getfield 323, 3), (15, .lreturn, 1)]
theorem kX8_scenarioNet : ∀ x ∈ tX8_scenarioNet, decode cX8_scenarioNet x.1 = .ok (x.2.1, x.2.2) := by decide +kernel
theorem dX8_scenarioNet (i : Nat) {pc ln : Nat} {ins : Instr} (h : tX8_scenarioNet[i]? = some (pc, ins, ln)) : decode cX8_scenarioNet pc = .ok (ins, ln) := kX8_scenarioNet (pc, ins, ln) (List.mem_of_getElem? h)
def tX8_tail : List zI := [(0, .iload_n 1, 1), (1, .iconst 0, 1), (2, .bipush 99, 2), (4, .invokestatic 50, 3), (7, .ifCond .eq 14, 3), (10, .new 58, 3), (13, .dup, 1), (14, .ldc_w 326, 3), (17, .invokespecial 62, 3), (20, .athrow, 1), (21, .aload_n 0, 1), (22, .getfield 22, 3), (25, .invokevirtual 328, 3), (28, .ifCond .eq 14, 3), (31, .new 271, 3), (34, .dup, 1), (35, .ldc_w 331, 3), (38, .invokespecial 275, 3), (41, .athrow, 1), (42, .aload_n 0, 1), (43, .invokevirtual 333, 3), (46, .iload_n 1, 1), (47, .aload_n 0, 1), (48, .ldc2_w 336, 3), (51, .invokevirtual 338, 3), (54, .imul, 1), (55, .istore_n 2, 1), (56, .ldc2_w 342, 3), (59, .lstore_n 3, 1), (60, .iconst 0, 1), (61, .istore 5, 2), (63, .iload 5, 2), (65, .aload_n 0, 1), (66, .getfield 22, 3), (69, .invokevirtual 65, 3), (72, .if_icmp .ge 49, 3), (75, .aload_n 0, 1), (76, .getfield 22, 3), (79, .iload 5, 2), (81, .invokevirtual 95, 3), (84, .checkcast 306, 3), (87, .getfield 323, 3), (90, .lstore 6, 2), (92, .lload 6, 2), (94, .lload_n 3, 1), (95, .lcmp, 1), (96, .ifCond .ge 19, 3), (99, .aload_n 0, 1), (100, .lload 6, 2), (102, .invokevirtual 338, 3), (105, .bipush 100, 2), (107, .imul, 1), (108, .iload_n 2, 1), (109, .if_icmp .gt 6, 3), (112, .lload 6, 2), (114, .lstore_n 3, 1), (115, .iinc 5 1, 3), (118, .goto (-55), 3), (121, .lload_n 3, 1), (122, .lreturn, 1)]
theorem kX8_tail : ∀ x ∈ tX8_tail, decode cX8_tail x.1 = .ok (x.2.1, x.2.2) := by decide +kernel
theorem dX8_tail (i : Nat) {pc ln : Nat} {ins : Instr} (h : tX8_tail[i]? = some (pc, ins, ln)) : decode cX8_tail pc = .ok (ins, ln) := kX8_tail (pc, ins, ln) (List.mem_of_getElem? h)
def tX8_losses : List zI := [(0, .aload_n 0, 1), (1, .getfield 16, 3), (4, .invokevirtual 65, 3), (7, .ireturn, 1)]
theorem kX8_losses : ∀ x ∈ tX8_losses, decode cX8_losses x.1 = .ok (x.2.1, x.2.2) := by decide +kernel
theorem dX8_losses (i : Nat) {pc ln : Nat} {ins : Instr} (h : tX8_losses[i]? = some (pc, ins, ln)) : decode cX8_losses pc = .ok (ins, ln) := kX8_losses (pc, ins, ln) (List.mem_of_getElem? h)
def tX8_allLosses : List zI := [(0, .lconst 0, 1), (1, .lstore_n 1, 1), (2, .iconst 0, 1), (3, .istore_n 3, 1), (4, .iload_n 3, 1), (5, .aload_n 0, 1), (6, .getfield 16, 3), (9, .invokevirtual 65, 3), (12, .if_icmp .ge 27, 3), (15, .lload_n 1, 1), (16, .aload_n 0, 1), (17, .getfield 16, 3), (20, .iload_n 3, 1), (21, .invokevirtual 95, 3), (24, .checkcast 83, 3), (27, .getfield 124, 3), (30, .i2l, 1), (31, .ladd, 1), (32, .lstore_n 1, 1), (33, .iinc 3 1, 3), (36, .goto (-32), 3), (39, .lload_n 1, 1), (40, .lreturn, 1)]
theorem kX8_allLosses : ∀ x ∈ tX8_allLosses, decode cX8_allLosses x.1 = .ok (x.2.1, x.2.2) := by decide +kernel
theorem dX8_allLosses (i : Nat) {pc ln : Nat} {ins : Instr} (h : tX8_allLosses[i]? = some (pc, ins, ln)) : decode cX8_allLosses pc = .ok (ins, ln) := kX8_allLosses (pc, ins, ln) (List.mem_of_getElem? h)
def tX8_meanNet : List zI := [(0, .aload_n 0, 1), (1, .getfield 22, 3), (4, .invokevirtual 328, 3), (7, .ifCond .eq 14, 3), (10, .new 347, 3), (13, .dup, 1), (14, .ldc_w 331, 3), (17, .invokespecial 351, 3), (20, .athrow, 1), (21, .aload_n 0, 1), (22, .invokevirtual 333, 3), (25, .lconst 0, 1), (26, .lstore_n 1, 1), (27, .lconst 0, 1), (28, .lstore_n 3, 1), (29, .iconst 0, 1), (30, .istore 5, 2), (32, .iload 5, 2), (34, .aload_n 0, 1), (35, .getfield 22, 3), (38, .invokevirtual 65, 3), (41, .if_icmp .ge 47, 3), (44, .aload_n 0, 1), (45, .getfield 22, 3), (48, .iload 5, 2), (50, .invokevirtual 95, 3), (53, .checkcast 306, 3), (56, .astore 6, 2), (58, .lload_n 1, 1), (59, .aload 6, 2), (61, .getfield 323, 3), (64, .aload 6, 2), (66, .getfield 352, 3), (69, .i2l, 1), (70, .lmul, 1), (71, .ladd, 1), (72, .lstore_n 1, 1), (73, .lload_n 3, 1), (74, .aload 6, 2), (76, .getfield 352, 3), (79, .i2l, 1), (80, .ladd, 1), (81, .lstore_n 3, 1), (82, .iinc 5 1, 3), (85, .goto (-53), 3), (88, .lload_n 1, 1), (89, .l2d, 1), (90, .lload_n 3, 1), (91, .l2d, 1), (92, .ddiv, 1), (93, .dreturn, 1)]
theorem kX8_meanNet : ∀ x ∈ tX8_meanNet, decode cX8_meanNet x.1 = .ok (x.2.1, x.2.2) := by decide +kernel
theorem dX8_meanNet (i : Nat) {pc ln : Nat} {ins : Instr} (h : tX8_meanNet[i]? = some (pc, ins, ln)) : decode cX8_meanNet pc = .ok (ins, ln) := kX8_meanNet (pc, ins, ln) (List.mem_of_getElem? h)
def tX8_isSound : List zI := [(0, .aload_n 0, 1), (1, .invokevirtual 288, 3), (4, .aload_n 0, 1), (5, .getfield 31, 3), (8, .invokevirtual 355, 3), (11, .ifCond .eq 27, 3), (14, .aload_n 0, 1), (15, .getfield 31, 3), (18, .invokevirtual 358, 3), (21, .ifCond .eq 17, 3), (24, .aload_n 0, 1), (25, .getfield 41, 3), (28, .invokevirtual 361, 3), (31, .ifCond .eq 7, 3), (34, .iconst 1, 1), (35, .goto 4, 3), (38, .iconst 0, 1), (39, .ireturn, 1)]
theorem kX8_isSound : ∀ x ∈ tX8_isSound, decode cX8_isSound x.1 = .ok (x.2.1, x.2.2) := by decide +kernel
theorem dX8_isSound (i : Nat) {pc ln : Nat} {ins : Instr} (h : tX8_isSound[i]? = some (pc, ins, ln)) : decode cX8_isSound pc = .ok (ins, ln) := kX8_isSound (pc, ins, ln) (List.mem_of_getElem? h)
def tX8_isOut : List zI := [(0, .iload_n 0, 1), (1, .iload_n 1, 1), (2, .if_icmp .lt 8, 3), (5, .iload_n 0, 1), (6, .iload_n 2, 1), (7, .if_icmp .le 7, 3), (10, .iconst 1, 1), (11, .goto 4, 3), (14, .iconst 0, 1), (15, .ireturn, 1)]
theorem kX8_isOut : ∀ x ∈ tX8_isOut, decode cX8_isOut x.1 = .ok (x.2.1, x.2.2) := by decide +kernel
theorem dX8_isOut (i : Nat) {pc ln : Nat} {ins : Instr} (h : tX8_isOut[i]? = some (pc, ins, ln)) : decode cX8_isOut pc = .ok (ins, ln) := kX8_isOut (pc, ins, ln) (List.mem_of_getElem? h)
def tX8_isSpan : List zI := [(0, .iload_n 0, 1), (1, .ifCond .lt 19, 3), (4, .iload_n 0, 1), (5, .iload_n 1, 1), (6, .if_icmp .gt 14, 3), (9, .iload_n 1, 1), (10, .sipush 999, 3), (13, .if_icmp .gt 7, 3), (16, .iconst 1, 1), (17, .goto 4, 3), (20, .iconst 0, 1), (21, .ireturn, 1)]
theorem kX8_isSpan : ∀ x ∈ tX8_isSpan, decode cX8_isSpan x.1 = .ok (x.2.1, x.2.2) := by decide +kernel
theorem dX8_isSpan (i : Nat) {pc ln : Nat} {ins : Instr} (h : tX8_isSpan[i]? = some (pc, ins, ln)) : decode cX8_isSpan pc = .ok (ins, ln) := kX8_isSpan (pc, ins, ln) (List.mem_of_getElem? h)
def tX8_isBasis : List zI := [(0, .iload_n 0, 1), (1, .bipush 111, 2), (3, .if_icmp .eq 15, 3), (6, .iload_n 0, 1), (7, .bipush 97, 2), (9, .if_icmp .eq 9, 3), (12, .iload_n 0, 1), (13, .bipush 99, 2), (15, .if_icmp .ne 7, 3), (18, .iconst 1, 1), (19, .goto 4, 3), (22, .iconst 0, 1), (23, .ireturn, 1)]
theorem kX8_isBasis : ∀ x ∈ tX8_isBasis, decode cX8_isBasis x.1 = .ok (x.2.1, x.2.2) := by decide +kernel
theorem dX8_isBasis (i : Nat) {pc ln : Nat} {ins : Instr} (h : tX8_isBasis[i]? = some (pc, ins, ln)) : decode cX8_isBasis pc = .ok (ins, ln) := kX8_isBasis (pc, ins, ln) (List.mem_of_getElem? h)
def tX8_fitsKind : List zI := [(0, .iload_n 0, 1), (1, .bipush 113, 2), (3, .if_icmp .ne 19, 3), (6, .iload_n 1, 1), (7, .iconst 0, 1), (8, .bipush 100, 2), (10, .invokestatic 50, 3), (13, .ifCond .ne 7, 3), (16, .iconst 1, 1), (17, .goto 4, 3), (20, .iconst 0, 1), (21, .ireturn, 1), (22, .iload_n 0, 1), (23, .bipush 115, 2), (25, .if_icmp .ne 29, 3), (28, .iload_n 1, 1), (29, .iconst 1, 1), (30, .ldc 49, 2), (32, .invokestatic 50, 3), (35, .ifCond .ne 17, 3), (38, .iload_n 2, 1), (39, .iconst 1, 1), (40, .bipush 20, 2), (42, .invokestatic 50, 3), (45, .ifCond .ne 7, 3), (48, .iconst 1, 1), (49, .goto 4, 3), (52, .iconst 0, 1), (53, .ireturn, 1), (54, .iload_n 0, 1), (55, .bipush 114, 2), (57, .if_icmp .eq 15, 3), (60, .iload_n 0, 1), (61, .bipush 101, 2), (63, .if_icmp .eq 9, 3), (66, .iload_n 0, 1), (67, .bipush 97, 2), (69, .if_icmp .ne 27, 3), (72, .iload_n 1, 1), (73, .iconst 0, 1), (74, .ldc 49, 2), (76, .invokestatic 50, 3), (79, .ifCond .ne 17, 3), (82, .iload_n 2, 1), (83, .iconst 1, 1), (84, .ldc 49, 2), (86, .invokestatic 50, 3), (89, .ifCond .ne 7, 3), (92, .iconst 1, 1), (93, .goto 4, 3), (96, .iconst 0, 1), (97, .ireturn, 1)]
theorem kX8_fitsKind : ∀ x ∈ tX8_fitsKind, decode cX8_fitsKind x.1 = .ok (x.2.1, x.2.2) := by decide +kernel
theorem dX8_fitsKind (i : Nat) {pc ln : Nat} {ins : Instr} (h : tX8_fitsKind[i]? = some (pc, ins, ln)) : decode cX8_fitsKind pc = .ok (ins, ln) := kX8_fitsKind (pc, ins, ln) (List.mem_of_getElem? h)
def tX8_claimAt : List zI := [(0, .iload_n 1, 1), (1, .iconst 0, 1), (2, .aload_n 0, 1), (3, .getfield 16, 3), (6, .invokevirtual 65, 3), (9, .iconst 1, 1), (10, .isub, 1), (11, .invokestatic 50, 3), (14, .ifCond .eq 14, 3), (17, .new 88, 3), (20, .dup, 1), (21, .ldc_w 364, 3), (24, .invokespecial 92, 3), (27, .athrow, 1), (28, .aload_n 0, 1), (29, .getfield 16, 3), (32, .iload_n 1, 1), (33, .invokevirtual 95, 3), (36, .checkcast 83, 3), (39, .areturn, 1)]
theorem kX8_claimAt : ∀ x ∈ tX8_claimAt, decode cX8_claimAt x.1 = .ok (x.2.1, x.2.2) := by decide +kernel
theorem dX8_claimAt (i : Nat) {pc ln : Nat} {ins : Instr} (h : tX8_claimAt[i]? = some (pc, ins, ln)) : decode cX8_claimAt pc = .ok (ins, ln) := kX8_claimAt (pc, ins, ln) (List.mem_of_getElem? h)
def tX8_treatyAt : List zI := [(0, .iload_n 1, 1), (1, .iconst 0, 1), (2, .aload_n 0, 1), (3, .getfield 19, 3), (6, .invokevirtual 65, 3), (9, .iconst 1, 1), (10, .isub, 1), (11, .invokestatic 50, 3), (14, .ifCond .eq 13, 3), (17, .new 88, 3), (20, .dup, 1), (21, .ldc 136, 2), (23, .invokespecial 92, 3), (26, .athrow, 1), (27, .aload_n 0, 1), (28, .getfield 19, 3), (31, .iload_n 1, 1), (32, .invokevirtual 95, 3), (35, .checkcast 140, 3), (38, .areturn, 1)]
theorem kX8_treatyAt : ∀ x ∈ tX8_treatyAt, decode cX8_treatyAt x.1 = .ok (x.2.1, x.2.2) := by decide +kernel
theorem dX8_treatyAt (i : Nat) {pc ln : Nat} {ins : Instr} (h : tX8_treatyAt[i]? = some (pc, ins, ln)) : decode cX8_treatyAt pc = .ok (ins, ln) := kX8_treatyAt (pc, ins, ln) (List.mem_of_getElem? h)
def tX8_coverAt : List zI := [(0, .iload_n 1, 1), (1, .iconst 0, 1), (2, .aload_n 0, 1), (3, .getfield 31, 3), (6, .getfield 145, 3), (9, .invokevirtual 65, 3), (12, .iconst 1, 1), (13, .isub, 1), (14, .invokestatic 50, 3), (17, .ifCond .eq 13, 3), (20, .new 88, 3), (23, .dup, 1), (24, .ldc 136, 2), (26, .invokespecial 92, 3), (29, .athrow, 1), (30, .aload_n 0, 1), (31, .getfield 31, 3), (34, .getfield 145, 3), (37, .iload_n 1, 1), (38, .invokevirtual 95, 3), (41, .checkcast 148, 3), (44, .areturn, 1)]
theorem kX8_coverAt : ∀ x ∈ tX8_coverAt, decode cX8_coverAt x.1 = .ok (x.2.1, x.2.2) := by decide +kernel
theorem dX8_coverAt (i : Nat) {pc ln : Nat} {ins : Instr} (h : tX8_coverAt[i]? = some (pc, ins, ln)) : decode cX8_coverAt pc = .ok (ins, ln) := kX8_coverAt (pc, ins, ln) (List.mem_of_getElem? h)
def tX8_scenarioAt : List zI := [(0, .iload_n 1, 1), (1, .iconst 0, 1), (2, .aload_n 0, 1), (3, .getfield 22, 3), (6, .invokevirtual 65, 3), (9, .iconst 1, 1), (10, .isub, 1), (11, .invokestatic 50, 3), (14, .ifCond .eq 14, 3), (17, .new 88, 3), (20, .dup, 1), (21, .ldc_w 366, 3), (24, .invokespecial 92, 3), (27, .athrow, 1), (28, .aload_n 0, 1), (29, .getfield 22, 3), (32, .iload_n 1, 1), (33, .invokevirtual 95, 3), (36, .checkcast 306, 3), (39, .areturn, 1)]
theorem kX8_scenarioAt : ∀ x ∈ tX8_scenarioAt, decode cX8_scenarioAt x.1 = .ok (x.2.1, x.2.2) := by decide +kernel
theorem dX8_scenarioAt (i : Nat) {pc ln : Nat} {ins : Instr} (h : tX8_scenarioAt[i]? = some (pc, ins, ln)) : decode cX8_scenarioAt pc = .ok (ins, ln) := kX8_scenarioAt (pc, ins, ln) (List.mem_of_getElem? h)
def tX8_checkReinsurer : List zI := [(0, .iload_n 0, 1), (1, .iconst 0, 1), (2, .iconst 4, 1), (3, .invokestatic 50, 3), (6, .ifCond .eq 14, 3), (9, .new 88, 3), (12, .dup, 1), (13, .ldc_w 368, 3), (16, .invokespecial 92, 3), (19, .athrow, 1), (20, .return_, 1)]
theorem kX8_checkReinsurer : ∀ x ∈ tX8_checkReinsurer, decode cX8_checkReinsurer x.1 = .ok (x.2.1, x.2.2) := by decide +kernel
theorem dX8_checkReinsurer (i : Nat) {pc ln : Nat} {ins : Instr} (h : tX8_checkReinsurer[i]? = some (pc, ins, ln)) : decode cX8_checkReinsurer pc = .ok (ins, ln) := kX8_checkReinsurer (pc, ins, ln) (List.mem_of_getElem? h)
def tX8_checkHasEvents : List zI := [(0, .aload_n 0, 1), (1, .getfield 370, 3), (4, .bipush 101, 2), (6, .if_icmp .eq 14, 3), (9, .new 103, 3), (12, .dup, 1), (13, .ldc_w 374, 3), (16, .invokespecial 107, 3), (19, .athrow, 1), (20, .return_, 1)]
theorem kX8_checkHasEvents : ∀ x ∈ tX8_checkHasEvents, decode cX8_checkHasEvents x.1 = .ok (x.2.1, x.2.2) := by decide +kernel
theorem dX8_checkHasEvents (i : Nat) {pc ln : Nat} {ins : Instr} (h : tX8_checkHasEvents[i]? = some (pc, ins, ln)) : decode cX8_checkHasEvents pc = .ok (ins, ln) := kX8_checkHasEvents (pc, ins, ln) (List.mem_of_getElem? h)
def tX8_settle : List zI := [(0, .aload_n 0, 1), (1, .getfield 45, 3), (4, .ifCond .ne 16, 3), (7, .aload_n 0, 1), (8, .getfield 31, 3), (11, .iconst (-1), 1), (12, .invokevirtual 376, 3), (15, .aload_n 0, 1), (16, .iconst 1, 1), (17, .putfield 45, 3), (20, .return_, 1)]
theorem kX8_settle : ∀ x ∈ tX8_settle, decode cX8_settle x.1 = .ok (x.2.1, x.2.2) := by decide +kernel
theorem dX8_settle (i : Nat) {pc ln : Nat} {ins : Instr} (h : tX8_settle[i]? = some (pc, ins, ln)) : decode cX8_settle pc = .ok (ins, ln) := kX8_settle (pc, ins, ln) (List.mem_of_getElem? h)
def tX8_settlePool : List zI := [(0, .aload_n 0, 1), (1, .invokevirtual 232, 3), (4, .iconst 0, 1), (5, .istore_n 1, 1), (6, .iload_n 1, 1), (7, .iconst 5, 1), (8, .if_icmp .ge 42, 3), (11, .aload_n 0, 1), (12, .getfield 41, 3), (15, .getfield 379, 3), (18, .iload_n 1, 1), (19, .aload_n 0, 1), (20, .getfield 41, 3), (23, .getfield 202, 3), (26, .iload_n 1, 1), (27, .baload, 1), (28, .ifCond .eq 7, 3), (31, .lconst 0, 1), (32, .goto 11, 3), (35, .aload_n 0, 1), (36, .getfield 31, 3), (39, .iload_n 1, 1), (40, .invokevirtual 284, 3), (43, .lastore, 1), (44, .iinc 1 1, 3), (47, .goto (-41), 3), (50, .aload_n 0, 1), (51, .getfield 41, 3), (54, .invokevirtual 382, 3), (57, .return_, 1)]
theorem kX8_settlePool : ∀ x ∈ tX8_settlePool, decode cX8_settlePool x.1 = .ok (x.2.1, x.2.2) := by decide +kernel
theorem dX8_settlePool (i : Nat) {pc ln : Nat} {ins : Instr} (h : tX8_settlePool[i]? = some (pc, ins, ln)) : decode cX8_settlePool pc = .ok (ins, ln) := kX8_settlePool (pc, ins, ln) (List.mem_of_getElem? h)
def tX8_playAll : List zI := [(0, .iconst 0, 1), (1, .istore_n 1, 1), (2, .iload_n 1, 1), (3, .aload_n 0, 1), (4, .getfield 22, 3), (7, .invokevirtual 65, 3), (10, .if_icmp .ge 24, 3), (13, .aload_n 0, 1), (14, .aload_n 0, 1), (15, .getfield 22, 3), (18, .iload_n 1, 1), (19, .invokevirtual 95, 3), (22, .checkcast 306, 3), (25, .invokevirtual 319, 3), (28, .iinc 1 1, 3), (31, .goto (-29), 3), (34, .return_, 1)]
theorem kX8_playAll : ∀ x ∈ tX8_playAll, decode cX8_playAll x.1 = .ok (x.2.1, x.2.2) := by decide +kernel
theorem dX8_playAll (i : Nat) {pc ln : Nat} {ins : Instr} (h : tX8_playAll[i]? = some (pc, ins, ln)) : decode cX8_playAll pc = .ok (ins, ln) := kX8_playAll (pc, ins, ln) (List.mem_of_getElem? h)
def tX8_play : List zI := [(0, .aload_n 0, 1), (1, .getfield 35, 3), (4, .getfield 385, 3), (7, .invokevirtual 386, 3), (10, .iconst 0, 1), (11, .istore_n 2, 1), (12, .iload_n 2, 1), (13, .aload_n 0, 1), (14, .getfield 25, 3), (17, .invokevirtual 65, 3), (20, .if_icmp .ge 62, 3), (23, .aload_n 0, 1), (24, .getfield 25, 3), (27, .iload_n 2, 1), (28, .invokevirtual 95, 3), (31, .checkcast 83, 3), (34, .astore_n 3, 1), (35, .aload_n 1, 1), (36, .aload_n 3, 1), (37, .getfield 389, 3), (40, .invokevirtual 393, 3), (43, .istore 4, 2), (45, .iload 4, 2), (47, .ifCond .le 29, 3), (50, .aload_n 3, 1), (51, .aload_n 1, 1), (52, .getfield 397, 3), (55, .aload_n 1, 1), (56, .getfield 397, 3), (59, .iload 4, 2), (61, .invokevirtual 110, 3), (64, .aload_n 0, 1), (65, .getfield 35, 3), (68, .getfield 385, 3), (71, .aload_n 3, 1), (72, .invokevirtual 79, 3), (75, .pop, 1), (76, .iinc 2 1, 3), (79, .goto (-67), 3), (82, .aload_n 0, 1), (83, .getfield 35, 3), (86, .iconst (-1), 1), (87, .invokevirtual 376, 3), (90, .aload_n 1, 1), (91, .aload_n 0, 1), (92, .getfield 35, 3), (95, .invokevirtual 298, 3), (98, .putfield 323, 3), (101, .return_, 1)]
theorem kX8_play : ∀ x ∈ tX8_play, decode cX8_play x.1 = .ok (x.2.1, x.2.2) := by decide +kernel
theorem dX8_play (i : Nat) {pc ln : Nat} {ins : Instr} (h : tX8_play[i]? = some (pc, ins, ln)) : decode cX8_play pc = .ok (ins, ln) := kX8_play (pc, ins, ln) (List.mem_of_getElem? h)
def tX8_weightAbove : List zI := [(0, .iconst 0, 1), (1, .istore_n 3, 1), (2, .iconst 0, 1), (3, .istore 4, 2), (5, .iload 4, 2), (7, .aload_n 0, 1), (8, .getfield 22, 3), (11, .invokevirtual 65, 3), (14, .if_icmp .ge 47, 3), (17, .aload_n 0, 1), (18, .getfield 22, 3), (21, .iload 4, 2), (23, .invokevirtual 95, 3), (26, .checkcast 306, 3), (29, .getfield 323, 3), (32, .lload_n 1, 1), (33, .lcmp, 1), (34, .ifCond .le 21, 3), (37, .iload_n 3, 1), (38, .aload_n 0, 1), (39, .getfield 22, 3), (42, .iload 4, 2), (44, .invokevirtual 95, 3), (47, .checkcast 306, 3), (50, .getfield 352, 3), (53, .iadd, 1), (54, .istore_n 3, 1), (55, .iinc 4 1, 3), (58, .goto (-53), 3), (61, .iload_n 3, 1), (62, .ireturn, 1)]
theorem kX8_weightAbove : ∀ x ∈ tX8_weightAbove, decode cX8_weightAbove x.1 = .ok (x.2.1, x.2.2) := by decide +kernel
theorem dX8_weightAbove (i : Nat) {pc ln : Nat} {ins : Instr} (h : tX8_weightAbove[i]? = some (pc, ins, ln)) : decode cX8_weightAbove pc = .ok (ins, ln) := kX8_weightAbove (pc, ins, ln) (List.mem_of_getElem? h)
def tJ6_bitCount_0f7a4 : List zI := [(0, .iload_n 0, 1), (1, .iload_n 0, 1), (2, .iconst 1, 1), (3, .iushr, 1), (4, .ldc_w 265, 3), (7, .iand, 1), (8, .isub, 1), (9, .istore_n 0, 1), (10, .iload_n 0, 1), (11, .ldc_w 266, 3), (14, .iand, 1), (15, .iload_n 0, 1), (16, .iconst 2, 1), (17, .iushr, 1), (18, .ldc_w 266, 3), (21, .iand, 1), (22, .iadd, 1), (23, .istore_n 0, 1), (24, .iload_n 0, 1), (25, .iload_n 0, 1), (26, .iconst 4, 1), (27, .iushr, 1), (28, .iadd, 1), (29, .ldc_w 267, 3), (32, .iand, 1), (33, .istore_n 0, 1), (34, .iload_n 0, 1), (35, .iload_n 0, 1), (36, .bipush 8, 2), (38, .iushr, 1), (39, .iadd, 1), (40, .istore_n 0, 1), (41, .iload_n 0, 1), (42, .iload_n 0, 1), (43, .bipush 16, 2), (45, .iushr, 1), (46, .iadd, 1), (47, .istore_n 0, 1), (48, .iload_n 0, 1), (49, .bipush 63, 2), (51, .iand, 1), (52, .ireturn, 1)]
theorem kJ6_bitCount_0f7a4 : ∀ x ∈ tJ6_bitCount_0f7a4, decode cJ6_bitCount_0f7a4 x.1 = .ok (x.2.1, x.2.2) := by decide +kernel
theorem dJ6_bitCount_0f7a4 (i : Nat) {pc ln : Nat} {ins : Instr} (h : tJ6_bitCount_0f7a4[i]? = some (pc, ins, ln)) : decode cJ6_bitCount_0f7a4 pc = .ok (ins, ln) := kJ6_bitCount_0f7a4 (pc, ins, ln) (List.mem_of_getElem? h)
def tJ0_charAt_5068e : List zI := [(0, .aload_n 0, 1), (1, .invokevirtual 492, 3), (4, .ifCond .eq 12, 3), (7, .aload_n 0, 1), (8, .getfield 9, 3), (11, .iload_n 1, 1), (12, .invokestatic 495, 3), (15, .ireturn, 1), (16, .aload_n 0, 1), (17, .getfield 9, 3), (20, .iload_n 1, 1), (21, .invokestatic 498, 3), (24, .ireturn, 1)]
theorem kJ0_charAt_5068e : ∀ x ∈ tJ0_charAt_5068e, decode cJ0_charAt_5068e x.1 = .ok (x.2.1, x.2.2) := by decide +kernel
theorem dJ0_charAt_5068e (i : Nat) {pc ln : Nat} {ins : Instr} (h : tJ0_charAt_5068e[i]? = some (pc, ins, ln)) : decode cJ0_charAt_5068e pc = .ok (ins, ln) := kJ0_charAt_5068e (pc, ins, ln) (List.mem_of_getElem? h)
def tJ0_isLatin1_aae02 : List zI := [(0, .getstatic 38, 3), (3, .ifCond .eq 14, 3), (6, .aload_n 0, 1), (7, .getfield 15, 3), (10, .ifCond .ne 7, 3), (13, .iconst 1, 1), (14, .goto 4, 3), (17, .iconst 0, 1), (18, .ireturn, 1)]
theorem kJ0_isLatin1_aae02 : ∀ x ∈ tJ0_isLatin1_aae02, decode cJ0_isLatin1_aae02 x.1 = .ok (x.2.1, x.2.2) := by decide +kernel
theorem dJ0_isLatin1_aae02 (i : Nat) {pc ln : Nat} {ins : Instr} (h : tJ0_isLatin1_aae02[i]? = some (pc, ins, ln)) : decode cJ0_isLatin1_aae02 pc = .ok (ins, ln) := kJ0_isLatin1_aae02 (pc, ins, ln) (List.mem_of_getElem? h)
def tJ0_checkIndex_df160 : List zI := [(0, .iload_n 0, 1), (1, .iload_n 1, 1), (2, .getstatic 1053, 3), (5, .invokestatic 1059, 3), (8, .pop, 1), (9, .return_, 1)]
theorem kJ0_checkIndex_df160 : ∀ x ∈ tJ0_checkIndex_df160, decode cJ0_checkIndex_df160 x.1 = .ok (x.2.1, x.2.2) := by decide +kernel
theorem dJ0_checkIndex_df160 (i : Nat) {pc ln : Nat} {ins : Instr} (h : tJ0_checkIndex_df160[i]? = some (pc, ins, ln)) : decode cJ0_checkIndex_df160 pc = .ok (ins, ln) := kJ0_checkIndex_df160 (pc, ins, ln) (List.mem_of_getElem? h)
def tJ1_charAt_3b067 : List zI := [(0, .iload_n 1, 1), (1, .aload_n 0, 1), (2, .arraylength, 1), (3, .invokestatic 9, 3), (6, .aload_n 0, 1), (7, .iload_n 1, 1), (8, .baload, 1), (9, .sipush 255, 3), (12, .iand, 1), (13, .i2c, 1), (14, .ireturn, 1)]
theorem kJ1_charAt_3b067 : ∀ x ∈ tJ1_charAt_3b067, decode cJ1_charAt_3b067 x.1 = .ok (x.2.1, x.2.2) := by decide +kernel
theorem dJ1_charAt_3b067 (i : Nat) {pc ln : Nat} {ins : Instr} (h : tJ1_charAt_3b067[i]? = some (pc, ins, ln)) : decode cJ1_charAt_3b067 pc = .ok (ins, ln) := kJ1_charAt_3b067 (pc, ins, ln) (List.mem_of_getElem? h)
def tJxa1e45_init_da8c8 : List zI := [(0, .aload_n 0, 1), (1, .invokespecial 1, 3), (4, .return_, 1)]
theorem kJxa1e45_init_da8c8 : ∀ x ∈ tJxa1e45_init_da8c8, decode cJxa1e45_init_da8c8 x.1 = .ok (x.2.1, x.2.2) := by decide +kernel
theorem dJxa1e45_init_da8c8 (i : Nat) {pc ln : Nat} {ins : Instr} (h : tJxa1e45_init_da8c8[i]? = some (pc, ins, ln)) : decode cJxa1e45_init_da8c8 pc = .ok (ins, ln) := kJxa1e45_init_da8c8 (pc, ins, ln) (List.mem_of_getElem? h)
def tJxc12de_init_da8c8 : List zI := [(0, .aload_n 0, 1), (1, .invokespecial 1, 3), (4, .aload_n 0, 1), (5, .iconst 0, 1), (6, .putfield 7, 3), (9, .return_, 1)]
theorem kJxc12de_init_da8c8 : ∀ x ∈ tJxc12de_init_da8c8, decode cJxc12de_init_da8c8 x.1 = .ok (x.2.1, x.2.2) := by decide +kernel
theorem dJxc12de_init_da8c8 (i : Nat) {pc ln : Nat} {ins : Instr} (h : tJxc12de_init_da8c8[i]? = some (pc, ins, ln)) : decode cJxc12de_init_da8c8 pc = .ok (ins, ln) := kJxc12de_init_da8c8 (pc, ins, ln) (List.mem_of_getElem? h)
def tJx4a65c_init_da8c8 : List zI := [(0, .aload_n 0, 1), (1, .invokespecial 1, 3), (4, .aload_n 0, 1), (5, .getstatic 39, 3), (8, .putfield 9, 3), (11, .return_, 1)]
theorem kJx4a65c_init_da8c8 : ∀ x ∈ tJx4a65c_init_da8c8, decode cJx4a65c_init_da8c8 x.1 = .ok (x.2.1, x.2.2) := by decide +kernel
theorem dJx4a65c_init_da8c8 (i : Nat) {pc ln : Nat} {ins : Instr} (h : tJx4a65c_init_da8c8[i]? = some (pc, ins, ln)) : decode cJx4a65c_init_da8c8 pc = .ok (ins, ln) := kJx4a65c_init_da8c8 (pc, ins, ln) (List.mem_of_getElem? h)
def tJx4a65c_grow_92f84 : List zI := [(0, .aload_n 0, 1), (1, .getfield 9, 3), (4, .arraylength, 1), (5, .istore_n 2, 1), (6, .iload_n 2, 1), (7, .ifCond .gt 13, 3), (10, .aload_n 0, 1), (11, .getfield 9, 3), (14, .getstatic 39, 3), (17, .if_acmp .eq 28, 3), (20, .iload_n 2, 1), (21, .iload_n 1, 1), (22, .iload_n 2, 1), (23, .isub, 1), (24, .iload_n 2, 1), (25, .iconst 1, 1), (26, .ishr, 1), (27, .invokestatic 73, 3), (30, .istore_n 3, 1), (31, .aload_n 0, 1), (32, .aload_n 0, 1), (33, .getfield 9, 3), (36, .iload_n 3, 1), (37, .invokestatic 66, 3), (40, .dup_x1, 1), (41, .putfield 9, 3), (44, .areturn, 1), (45, .aload_n 0, 1), (46, .bipush 10, 2), (48, .iload_n 1, 1), (49, .invokestatic 79, 3), (52, .anewarray 7, 3), (55, .dup_x1, 1), (56, .putfield 9, 3), (59, .areturn, 1)]
theorem kJx4a65c_grow_92f84 : ∀ x ∈ tJx4a65c_grow_92f84, decode cJx4a65c_grow_92f84 x.1 = .ok (x.2.1, x.2.2) := by decide +kernel
theorem dJx4a65c_grow_92f84 (i : Nat) {pc ln : Nat} {ins : Instr} (h : tJx4a65c_grow_92f84[i]? = some (pc, ins, ln)) : decode cJx4a65c_grow_92f84 pc = .ok (ins, ln) := kJx4a65c_grow_92f84 (pc, ins, ln) (List.mem_of_getElem? h)
def tJx4a65c_grow_d5877 : List zI := [(0, .aload_n 0, 1), (1, .aload_n 0, 1), (2, .getfield 48, 3), (5, .iconst 1, 1), (6, .iadd, 1), (7, .invokevirtual 69, 3), (10, .areturn, 1)]
theorem kJx4a65c_grow_d5877 : ∀ x ∈ tJx4a65c_grow_d5877, decode cJx4a65c_grow_d5877 x.1 = .ok (x.2.1, x.2.2) := by decide +kernel
theorem dJx4a65c_grow_d5877 (i : Nat) {pc ln : Nat} {ins : Instr} (h : tJx4a65c_grow_d5877[i]? = some (pc, ins, ln)) : decode cJx4a65c_grow_d5877 pc = .ok (ins, ln) := kJx4a65c_grow_d5877 (pc, ins, ln) (List.mem_of_getElem? h)
def tJx4a65c_size_8abf5 : List zI := [(0, .aload_n 0, 1), (1, .getfield 48, 3), (4, .ireturn, 1)]
theorem kJx4a65c_size_8abf5 : ∀ x ∈ tJx4a65c_size_8abf5, decode cJx4a65c_size_8abf5 x.1 = .ok (x.2.1, x.2.2) := by decide +kernel
theorem dJx4a65c_size_8abf5 (i : Nat) {pc ln : Nat} {ins : Instr} (h : tJx4a65c_size_8abf5[i]? = some (pc, ins, ln)) : decode cJx4a65c_size_8abf5 pc = .ok (ins, ln) := kJx4a65c_size_8abf5 (pc, ins, ln) (List.mem_of_getElem? h)
def tJx4a65c_isEmpty_aae02 : List zI := [(0, .aload_n 0, 1), (1, .getfield 48, 3), (4, .ifCond .ne 7, 3), (7, .iconst 1, 1), (8, .goto 4, 3), (11, .iconst 0, 1), (12, .ireturn, 1)]
theorem kJx4a65c_isEmpty_aae02 : ∀ x ∈ tJx4a65c_isEmpty_aae02, decode cJx4a65c_isEmpty_aae02 x.1 = .ok (x.2.1, x.2.2) := by decide +kernel
theorem dJx4a65c_isEmpty_aae02 (i : Nat) {pc ln : Nat} {ins : Instr} (h : tJx4a65c_isEmpty_aae02[i]? = some (pc, ins, ln)) : decode cJx4a65c_isEmpty_aae02 pc = .ok (ins, ln) := kJx4a65c_isEmpty_aae02 (pc, ins, ln) (List.mem_of_getElem? h)
def tJx4a65c_elementData_915e3 : List zI := [(0, .aload_n 0, 1), (1, .getfield 9, 3), (4, .iload_n 1, 1), (5, .aaload, 1), (6, .areturn, 1)]
theorem kJx4a65c_elementData_915e3 : ∀ x ∈ tJx4a65c_elementData_915e3, decode cJx4a65c_elementData_915e3 x.1 = .ok (x.2.1, x.2.2) := by decide +kernel
theorem dJx4a65c_elementData_915e3 (i : Nat) {pc ln : Nat} {ins : Instr} (h : tJx4a65c_elementData_915e3[i]? = some (pc, ins, ln)) : decode cJx4a65c_elementData_915e3 pc = .ok (ins, ln) := kJx4a65c_elementData_915e3 (pc, ins, ln) (List.mem_of_getElem? h)
def tJx4a65c_get_915e3 : List zI := [(0, .iload_n 1, 1), (1, .aload_n 0, 1), (2, .getfield 48, 3), (5, .invokestatic 118, 3), (8, .pop, 1), (9, .aload_n 0, 1), (10, .iload_n 1, 1), (11, .invokevirtual 123, 3), (14, .areturn, 1)]
theorem kJx4a65c_get_915e3 : ∀ x ∈ tJx4a65c_get_915e3, decode cJx4a65c_get_915e3 x.1 = .ok (x.2.1, x.2.2) := by decide +kernel
theorem dJx4a65c_get_915e3 (i : Nat) {pc ln : Nat} {ins : Instr} (h : tJx4a65c_get_915e3[i]? = some (pc, ins, ln)) : decode cJx4a65c_get_915e3 pc = .ok (ins, ln) := kJx4a65c_get_915e3 (pc, ins, ln) (List.mem_of_getElem? h)
def tJx4a65c_add_72be8 : List zI := [(0, .iload_n 3, 1), (1, .aload_n 2, 1), (2, .arraylength, 1), (3, .if_icmp .ne 8, 3), (6, .aload_n 0, 1), (7, .invokevirtual 129, 3), (10, .astore_n 2, 1), (11, .aload_n 2, 1), (12, .iload_n 3, 1), (13, .aload_n 1, 1), (14, .aastore, 1), (15, .aload_n 0, 1), (16, .iload_n 3, 1), (17, .iconst 1, 1), (18, .iadd, 1), (19, .putfield 48, 3), (22, .return_, 1)]
theorem kJx4a65c_add_72be8 : ∀ x ∈ tJx4a65c_add_72be8, decode cJx4a65c_add_72be8 x.1 = .ok (x.2.1, x.2.2) := by decide +kernel
theorem dJx4a65c_add_72be8 (i : Nat) {pc ln : Nat} {ins : Instr} (h : tJx4a65c_add_72be8[i]? = some (pc, ins, ln)) : decode cJx4a65c_add_72be8 pc = .ok (ins, ln) := kJx4a65c_add_72be8 (pc, ins, ln) (List.mem_of_getElem? h)
def tJx4a65c_add_9ea2d : List zI := [(0, .aload_n 0, 1), (1, .dup, 1), (2, .getfield 63, 3), (5, .iconst 1, 1), (6, .iadd, 1), (7, .putfield 63, 3), (10, .aload_n 0, 1), (11, .aload_n 1, 1), (12, .aload_n 0, 1), (13, .getfield 9, 3), (16, .aload_n 0, 1), (17, .getfield 48, 3), (20, .invokevirtual 131, 3), (23, .iconst 1, 1), (24, .ireturn, 1)]
theorem kJx4a65c_add_9ea2d : ∀ x ∈ tJx4a65c_add_9ea2d, decode cJx4a65c_add_9ea2d x.1 = .ok (x.2.1, x.2.2) := by decide +kernel
theorem dJx4a65c_add_9ea2d (i : Nat) {pc ln : Nat} {ins : Instr} (h : tJx4a65c_add_9ea2d[i]? = some (pc, ins, ln)) : decode cJx4a65c_add_9ea2d pc = .ok (ins, ln) := kJx4a65c_add_9ea2d (pc, ins, ln) (List.mem_of_getElem? h)
def tJx4a65c_add_7a177 : List zI := [(0, .aload_n 0, 1), (1, .iload_n 1, 1), (2, .invokevirtual 135, 3), (5, .aload_n 0, 1), (6, .dup, 1), (7, .getfield 63, 3), (10, .iconst 1, 1), (11, .iadd, 1), (12, .putfield 63, 3), (15, .aload_n 0, 1), (16, .getfield 48, 3), (19, .dup, 1), (20, .istore_n 3, 1), (21, .aload_n 0, 1), (22, .getfield 9, 3), (25, .dup, 1), (26, .astore 4, 2), (28, .arraylength, 1), (29, .if_icmp .ne 9, 3), (32, .aload_n 0, 1), (33, .invokevirtual 129, 3), (36, .astore 4, 2), (38, .aload 4, 2), (40, .iload_n 1, 1), (41, .aload 4, 2), (43, .iload_n 1, 1), (44, .iconst 1, 1), (45, .iadd, 1), (46, .iload_n 3, 1), (47, .iload_n 1, 1), (48, .isub, 1), (49, .invokestatic 112, 3), (52, .aload 4, 2), (54, .iload_n 1, 1), (55, .aload_n 2, 1), (56, .aastore, 1), (57, .aload_n 0, 1), (58, .iload_n 3, 1), (59, .iconst 1, 1), (60, .iadd, 1), (61, .putfield 48, 3), (64, .return_, 1)]
theorem kJx4a65c_add_7a177 : ∀ x ∈ tJx4a65c_add_7a177, decode cJx4a65c_add_7a177 x.1 = .ok (x.2.1, x.2.2) := by decide +kernel
theorem dJx4a65c_add_7a177 (i : Nat) {pc ln : Nat} {ins : Instr} (h : tJx4a65c_add_7a177[i]? = some (pc, ins, ln)) : decode cJx4a65c_add_7a177 pc = .ok (ins, ln) := kJx4a65c_add_7a177 (pc, ins, ln) (List.mem_of_getElem? h)
def tJx4a65c_clear_da8c8 : List zI := [(0, .aload_n 0, 1), (1, .dup, 1), (2, .getfield 63, 3), (5, .iconst 1, 1), (6, .iadd, 1), (7, .putfield 63, 3), (10, .aload_n 0, 1), (11, .getfield 9, 3), (14, .astore_n 1, 1), (15, .aload_n 0, 1), (16, .getfield 48, 3), (19, .istore_n 2, 1), (20, .aload_n 0, 1), (21, .iconst 0, 1), (22, .dup_x1, 1), (23, .putfield 48, 3), (26, .istore_n 3, 1), (27, .iload_n 3, 1), (28, .iload_n 2, 1), (29, .if_icmp .ge 13, 3), (32, .aload_n 1, 1), (33, .iload_n 3, 1), (34, .aconst_null, 1), (35, .aastore, 1), (36, .iinc 3 1, 3), (39, .goto (-12), 3), (42, .return_, 1)]
theorem kJx4a65c_clear_da8c8 : ∀ x ∈ tJx4a65c_clear_da8c8, decode cJx4a65c_clear_da8c8 x.1 = .ok (x.2.1, x.2.2) := by decide +kernel
theorem dJx4a65c_clear_da8c8 (i : Nat) {pc ln : Nat} {ins : Instr} (h : tJx4a65c_clear_da8c8[i]? = some (pc, ins, ln)) : decode cJx4a65c_clear_da8c8 pc = .ok (ins, ln) := kJx4a65c_clear_da8c8 (pc, ins, ln) (List.mem_of_getElem? h)
def tJx4a65c_rangeCheckForAdd_d00df : List zI := [(0, .iload_n 1, 1), (1, .aload_n 0, 1), (2, .getfield 48, 3), (5, .if_icmp .gt 7, 3), (8, .iload_n 1, 1), (9, .ifCond .ge 16, 3), (12, .new 187, 3), (15, .dup, 1), (16, .aload_n 0, 1), (17, .iload_n 1, 1), (18, .invokevirtual 198, 3), (21, .invokespecial 193, 3), (24, .athrow, 1), (25, .return_, 1)]
theorem kJx4a65c_rangeCheckForAdd_d00df : ∀ x ∈ tJx4a65c_rangeCheckForAdd_d00df, decode cJx4a65c_rangeCheckForAdd_d00df x.1 = .ok (x.2.1, x.2.2) := by decide +kernel
theorem dJx4a65c_rangeCheckForAdd_d00df (i : Nat) {pc ln : Nat} {ins : Instr} (h : tJx4a65c_rangeCheckForAdd_d00df[i]? = some (pc, ins, ln)) : decode cJx4a65c_rangeCheckForAdd_d00df pc = .ok (ins, ln) := kJx4a65c_rangeCheckForAdd_d00df (pc, ins, ln) (List.mem_of_getElem? h)
def tJ7_fill_d0a16 : List zI := [(0, .iconst 0, 1), (1, .istore_n 3, 1), (2, .aload_n 0, 1), (3, .arraylength, 1), (4, .istore 4, 2), (6, .iload_n 3, 1), (7, .iload 4, 2), (9, .if_icmp .ge 13, 3), (12, .aload_n 0, 1), (13, .iload_n 3, 1), (14, .lload_n 1, 1), (15, .lastore, 1), (16, .iinc 3 1, 3), (19, .goto (-13), 3), (22, .return_, 1)]
theorem kJ7_fill_d0a16 : ∀ x ∈ tJ7_fill_d0a16, decode cJ7_fill_d0a16 x.1 = .ok (x.2.1, x.2.2) := by decide +kernel
theorem dJ7_fill_d0a16 (i : Nat) {pc ln : Nat} {ins : Instr} (h : tJ7_fill_d0a16[i]? = some (pc, ins, ln)) : decode cJ7_fill_d0a16 pc = .ok (ins, ln) := kJ7_fill_d0a16 (pc, ins, ln) (List.mem_of_getElem? h)
def tJ7_fill_53178 : List zI := [(0, .iconst 0, 1), (1, .istore_n 2, 1), (2, .aload_n 0, 1), (3, .arraylength, 1), (4, .istore_n 3, 1), (5, .iload_n 2, 1), (6, .iload_n 3, 1), (7, .if_icmp .ge 13, 3), (10, .aload_n 0, 1), (11, .iload_n 2, 1), (12, .iload_n 1, 1), (13, .iastore, 1), (14, .iinc 2 1, 3), (17, .goto (-12), 3), (20, .return_, 1)]
theorem kJ7_fill_53178 : ∀ x ∈ tJ7_fill_53178, decode cJ7_fill_53178 x.1 = .ok (x.2.1, x.2.2) := by decide +kernel
theorem dJ7_fill_53178 (i : Nat) {pc ln : Nat} {ins : Instr} (h : tJ7_fill_53178[i]? = some (pc, ins, ln)) : decode cJ7_fill_53178 pc = .ok (ins, ln) := kJ7_fill_53178 (pc, ins, ln) (List.mem_of_getElem? h)
def tJ7_copyOf_1904c : List zI := [(0, .aload_n 0, 1), (1, .iload_n 1, 1), (2, .aload_n 0, 1), (3, .invokevirtual 86, 3), (6, .invokestatic 300, 3), (9, .areturn, 1)]
theorem kJ7_copyOf_1904c : ∀ x ∈ tJ7_copyOf_1904c, decode cJ7_copyOf_1904c x.1 = .ok (x.2.1, x.2.2) := by decide +kernel
theorem dJ7_copyOf_1904c (i : Nat) {pc ln : Nat} {ins : Instr} (h : tJ7_copyOf_1904c[i]? = some (pc, ins, ln)) : decode cJ7_copyOf_1904c pc = .ok (ins, ln) := kJ7_copyOf_1904c (pc, ins, ln) (List.mem_of_getElem? h)
def tJ7_copyOf_6403c : List zI := [(0, .aload_n 2, 1), (1, .ldc 110, 2), (3, .if_acmp .ne 10, 3), (6, .iload_n 1, 1), (7, .anewarray 2, 3), (10, .goto 14, 3), (13, .aload_n 2, 1), (14, .invokevirtual 90, 3), (17, .iload_n 1, 1), (18, .invokestatic 95, 3), (21, .checkcast 110, 3), (24, .astore_n 3, 1), (25, .aload_n 0, 1), (26, .iconst 0, 1), (27, .aload_n 3, 1), (28, .iconst 0, 1), (29, .aload_n 0, 1), (30, .arraylength, 1), (31, .iload_n 1, 1), (32, .invokestatic 304, 3), (35, .invokestatic 150, 3), (38, .aload_n 3, 1), (39, .areturn, 1)]
theorem kJ7_copyOf_6403c : ∀ x ∈ tJ7_copyOf_6403c, decode cJ7_copyOf_6403c x.1 = .ok (x.2.1, x.2.2) := by decide +kernel
theorem dJ7_copyOf_6403c (i : Nat) {pc ln : Nat} {ins : Instr} (h : tJ7_copyOf_6403c[i]? = some (pc, ins, ln)) : decode cJ7_copyOf_6403c pc = .ok (ins, ln) := kJ7_copyOf_6403c (pc, ins, ln) (List.mem_of_getElem? h)
def tJ15_checkIndex_7cf53 : List zI := [(0, .iload_n 0, 1), (1, .iload_n 1, 1), (2, .aconst_null, 1), (3, .invokestatic 105, 3), (6, .ireturn, 1)]
theorem kJ15_checkIndex_7cf53 : ∀ x ∈ tJ15_checkIndex_7cf53, decode cJ15_checkIndex_7cf53 x.1 = .ok (x.2.1, x.2.2) := by decide +kernel
theorem dJ15_checkIndex_7cf53 (i : Nat) {pc ln : Nat} {ins : Instr} (h : tJ15_checkIndex_7cf53[i]? = some (pc, ins, ln)) : decode cJ15_checkIndex_7cf53 pc = .ok (ins, ln) := kJ15_checkIndex_7cf53 (pc, ins, ln) (List.mem_of_getElem? h)
def tJ8_newLength_cabcc : List zI := [(0, .iload_n 0, 1), (1, .iload_n 1, 1), (2, .iload_n 2, 1), (3, .invokestatic 194, 3), (6, .iadd, 1), (7, .istore_n 3, 1), (8, .iconst 0, 1), (9, .iload_n 3, 1), (10, .if_icmp .ge 11, 3), (13, .iload_n 3, 1), (14, .ldc 200, 2), (16, .if_icmp .gt 5, 3), (19, .iload_n 3, 1), (20, .ireturn, 1), (21, .iload_n 0, 1), (22, .iload_n 1, 1), (23, .invokestatic 201, 3), (26, .ireturn, 1)]
theorem kJ8_newLength_cabcc : ∀ x ∈ tJ8_newLength_cabcc, decode cJ8_newLength_cabcc x.1 = .ok (x.2.1, x.2.2) := by decide +kernel
theorem dJ8_newLength_cabcc (i : Nat) {pc ln : Nat} {ins : Instr} (h : tJ8_newLength_cabcc[i]? = some (pc, ins, ln)) : decode cJ8_newLength_cabcc pc = .ok (ins, ln) := kJ8_newLength_cabcc (pc, ins, ln) (List.mem_of_getElem? h)
def tJ3_checkIndex_8e157 : List zI := [(0, .iload_n 0, 1), (1, .ifCond .lt 8, 3), (4, .iload_n 0, 1), (5, .iload_n 1, 1), (6, .if_icmp .lt 10, 3), (9, .aload_n 2, 1), (10, .iload_n 0, 1), (11, .iload_n 1, 1), (12, .invokestatic 95, 3), (15, .athrow, 1), (16, .iload_n 0, 1), (17, .ireturn, 1)]
theorem kJ3_checkIndex_8e157 : ∀ x ∈ tJ3_checkIndex_8e157, decode cJ3_checkIndex_8e157 x.1 = .ok (x.2.1, x.2.2) := by decide +kernel
theorem dJ3_checkIndex_8e157 (i : Nat) {pc ln : Nat} {ins : Instr} (h : tJ3_checkIndex_8e157[i]? = some (pc, ins, ln)) : decode cJ3_checkIndex_8e157 pc = .ok (ins, ln) := kJ3_checkIndex_8e157 (pc, ins, ln) (List.mem_of_getElem? h)
