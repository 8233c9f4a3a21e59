/-! ===== BEGIN words of one list among another's, by their places ===== -/
theorem goodIn_r {big : List Cond} (ws : List Cond) (ps : List Nat) (hp : ws = ps.filterMap (fun i => big[i]?)) (h : ws.all goodWord = true) : GoodIn big ws := by
  intro w hw
  have h1 := List.all_eq_true.mp h w hw
  rw [hp] at hw
  obtain ⟨i, -, hi⟩ := List.mem_filterMap.mp hw
  have hm : w ∈ big := by first | exact List.mem_of_getElem? hi | exact List.getElem?_mem hi
  exact ⟨hm, good_of_word h1⟩
theorem goodIn_app {big a b : List Cond} (ha : GoodIn big a) (hb : GoodIn big b) : GoodIn big (a ++ b) := fun w h => (List.mem_append.mp h).elim (ha w) (hb w)
theorem goodIn_ca {big a b : List Cond} {c : Cond} (ha : GoodIn big (c :: a)) (hb : GoodIn big b) : GoodIn big (c :: (a ++ b)) := fun w h => (List.mem_cons.mp h).elim (fun e => ha w (List.mem_cons.mpr (Or.inl e))) (fun h => (List.mem_append.mp h).elim (fun h => ha w (List.mem_cons.mpr (Or.inr h))) (hb w))
theorem goodIn_sub {big ws : List Cond} (hm : ∀ w ∈ ws, w ∈ big) (h : ws.all goodWord = true) : GoodIn big ws := fun w hw => ⟨hm w hw, good_of_word (List.all_eq_true.mp h w hw)⟩
/-! ===== END ===== -/

/-! ===== BEGIN printed: names, fields, word lists, decode rows ===== -/
def RX0 : String := "EvenTen$Apart"
def TX0 : u_T := fun k => match k with
  | 0 => ("EvenTen$Apart", "heaps", "LEvenTen$Heaps;", true)
  | 1 => ("EvenTen$Apart", "packed", "[I", true)
  | _ => ("EvenTen$Apart", "rests", "[I", true)
def tyX0 : Nat → FieldType := fun k => match k with
  | 0 => .object "EvenTen$Heaps"
  | 1 => .array .int
  | _ => .array .int
abbrev wsX00 : List Cond := u_ws RX0 TX0 3
theorem nmX0 : ∀ a, a < 3 → ∀ b, b < 3 → a ≠ b → (TX0 a).2.1 ≠ (TX0 b).2.1 := by decide +kernel
theorem tyX0_ok : ∀ k, k < 3 → parseFieldDescriptor (TX0 k).2.2.1 = some (tyX0 k) := by decide +kernel
abbrev cX0_init : ByteArray := prog_2_method_1_code
def yX0_init : MethodName := ⟨RX0, "<init>", "(LEvenTen$Heaps;[I)V"⟩
abbrev cX0_mostOf : ByteArray := prog_2_method_2_code
def yX0_mostOf : MethodName := ⟨RX0, "mostOf", "(I)I"⟩
abbrev cX0_lotOfRow : ByteArray := prog_2_method_3_code
def yX0_lotOfRow : MethodName := ⟨RX0, "lotOfRow", "(II)I"⟩
abbrev cX0_pack : ByteArray := prog_2_method_4_code
def yX0_pack : MethodName := ⟨RX0, "pack", "(II)I"⟩
abbrev cX0_restOf : ByteArray := prog_2_method_5_code
def yX0_restOf : MethodName := ⟨RX0, "restOf", "(I)I"⟩
abbrev cX0_asLot : ByteArray := prog_2_method_6_code
def yX0_asLot : MethodName := ⟨RX0, "asLot", "(I)I"⟩
def RX1 : String := "EvenTen$Book"
def TX1 : u_T := fun k => match k with
  | 0 => ("EvenTen$Book", "lots", "[I", true)
  | 1 => ("EvenTen$Book", "size", "I", false)
  | 2 => ("EvenTen$Book", "keptLots", "[[I", true)
  | _ => ("EvenTen$Book", "keptSizes", "[I", true)
def tyX1 : Nat → FieldType := fun k => match k with
  | 0 => .array .int
  | 1 => .int
  | 2 => .array (.array .int)
  | _ => .array .int
abbrev wsX10 : List Cond := u_ws RX1 TX1 4
theorem nmX1 : ∀ a, a < 4 → ∀ b, b < 4 → a ≠ b → (TX1 a).2.1 ≠ (TX1 b).2.1 := by decide +kernel
theorem tyX1_ok : ∀ k, k < 4 → parseFieldDescriptor (TX1 k).2.2.1 = some (tyX1 k) := by decide +kernel
abbrev cX1_init : ByteArray := prog_3_method_1_code
def yX1_init : MethodName := ⟨RX1, "<init>", "()V"⟩
abbrev cX1_enter : ByteArray := prog_3_method_2_code
def yX1_enter : MethodName := ⟨RX1, "enter", "(I)Z"⟩
abbrev cX1_save : ByteArray := prog_3_method_3_code
def yX1_save : MethodName := ⟨RX1, "save", "(I)V"⟩
abbrev cX1_restore : ByteArray := prog_3_method_4_code
def yX1_restore : MethodName := ⟨RX1, "restore", "(I)Z"⟩
abbrev cX1_forget : ByteArray := prog_3_method_5_code
def yX1_forget : MethodName := ⟨RX1, "forget", "()V"⟩
def RX2 : String := "EvenTen$Coming"
def TX2 : u_T := fun k => match k with
  | 0 => ("EvenTen$Coming", "heaps", "LEvenTen$Heaps;", true)
  | 1 => ("EvenTen$Coming", "sizes", "[[I", true)
  | 2 => ("EvenTen$Coming", "supply", "[I", true)
  | _ => ("EvenTen$Coming", "most", "I", false)
def tyX2 : Nat → FieldType := fun k => match k with
  | 0 => .object "EvenTen$Heaps"
  | 1 => .array (.array .int)
  | 2 => .array .int
  | _ => .int
abbrev wsX20 : List Cond := u_ws RX2 TX2 4
theorem nmX2 : ∀ a, a < 4 → ∀ b, b < 4 → a ≠ b → (TX2 a).2.1 ≠ (TX2 b).2.1 := by decide +kernel
theorem tyX2_ok : ∀ k, k < 4 → parseFieldDescriptor (TX2 k).2.2.1 = some (tyX2 k) := by decide +kernel
abbrev cX2_init : ByteArray := prog_4_method_1_code
def yX2_init : MethodName := ⟨RX2, "<init>", "(LEvenTen$Heaps;)V"⟩
abbrev cX2_firstWith : ByteArray := prog_4_method_2_code
def yX2_firstWith : MethodName := ⟨RX2, "firstWith", "(I)I"⟩
abbrev cX2_mostWithout : ByteArray := prog_4_method_3_code
def yX2_mostWithout : MethodName := ⟨RX2, "mostWithout", "(I)I"⟩
abbrev cX2_hand : ByteArray := prog_4_method_4_code
def yX2_hand : MethodName := ⟨RX2, "hand", "(IIII)V"⟩
abbrev cX2_supplyAbove : ByteArray := prog_4_method_5_code
def yX2_supplyAbove : MethodName := ⟨RX2, "supplyAbove", "(I)I"⟩
abbrev cX2_addOne : ByteArray := prog_4_method_6_code
def yX2_addOne : MethodName := ⟨RX2, "addOne", "(II)V"⟩
abbrev cX2_hasTen : ByteArray := prog_4_method_7_code
def yX2_hasTen : MethodName := ⟨RX2, "hasTen", "(II)Z"⟩
def RX3 : String := "EvenTen$Finder"
def TX3 : u_T := fun k => match k with
  | 0 => ("EvenTen$Finder", "heaps", "LEvenTen$Heaps;", true)
  | 1 => ("EvenTen$Finder", "sizes", "[I", true)
  | 2 => ("EvenTen$Finder", "kind", "I", false)
  | _ => ("EvenTen$Finder", "sides", "I", false)
def tyX3 : Nat → FieldType := fun k => match k with
  | 0 => .object "EvenTen$Heaps"
  | 1 => .array .int
  | 2 => .int
  | _ => .int
abbrev wsX30 : List Cond := u_ws RX3 TX3 4
theorem nmX3 : ∀ a, a < 4 → ∀ b, b < 4 → a ≠ b → (TX3 a).2.1 ≠ (TX3 b).2.1 := by decide +kernel
theorem tyX3_ok : ∀ k, k < 4 → parseFieldDescriptor (TX3 k).2.2.1 = some (tyX3 k) := by decide +kernel
abbrev cX3_init : ByteArray := prog_5_method_1_code
def yX3_init : MethodName := ⟨RX3, "<init>", "(LEvenTen$Heaps;[I)V"⟩
abbrev cX3_fits : ByteArray := prog_5_method_2_code
def yX3_fits : MethodName := ⟨RX3, "fits", "(III)Z"⟩
abbrev cX3_firstOf : ByteArray := prog_5_method_3_code
def yX3_firstOf : MethodName := ⟨RX3, "firstOf", "(II)I"⟩
abbrev cX3_isUnbroken : ByteArray := prog_5_method_4_code
def yX3_isUnbroken : MethodName := ⟨RX3, "isUnbroken", "(I)Z"⟩
abbrev cX3_firstRun : ByteArray := prog_5_method_5_code
def yX3_firstRun : MethodName := ⟨RX3, "firstRun", "(I)I"⟩
abbrev cX3_fillSizes : ByteArray := prog_5_method_6_code
def yX3_fillSizes : MethodName := ⟨RX3, "fillSizes", "()V"⟩
abbrev cX3_pick : ByteArray := prog_5_method_7_code
def yX3_pick : MethodName := ⟨RX3, "pick", "(I)I"⟩
abbrev cX3_place : ByteArray := prog_5_method_8_code
def yX3_place : MethodName := ⟨RX3, "place", "(III)I"⟩
abbrev cX3_sideWith : ByteArray := prog_5_method_9_code
def yX3_sideWith : MethodName := ⟨RX3, "sideWith", "(II)I"⟩
def RX4 : String := "EvenTen$Heaps"
def TX4 : u_T := fun k => match k with
  | 0 => ("EvenTen$Heaps", "numbers", "[J", true)
  | 1 => ("EvenTen$Heaps", "seconds", "[J", true)
  | 2 => ("EvenTen$Heaps", "colours", "[J", true)
  | 3 => ("EvenTen$Heaps", "costs", "[J", true)
  | 4 => ("EvenTen$Heaps", "size", "I", false)
  | _ => ("EvenTen$Heaps", "parts", "I", false)
def tyX4 : Nat → FieldType := fun k => match k with
  | 0 => .array .long
  | 1 => .array .long
  | 2 => .array .long
  | 3 => .array .long
  | 4 => .int
  | _ => .int
abbrev wsX40 : List Cond := u_ws RX4 TX4 6
theorem nmX4 : ∀ a, a < 6 → ∀ b, b < 6 → a ≠ b → (TX4 a).2.1 ≠ (TX4 b).2.1 := by decide +kernel
theorem tyX4_ok : ∀ k, k < 6 → parseFieldDescriptor (TX4 k).2.2.1 = some (tyX4 k) := by decide +kernel
abbrev cX4_init : ByteArray := prog_6_method_1_code
def yX4_init : MethodName := ⟨RX4, "<init>", "()V"⟩
abbrev cX4_know : ByteArray := prog_6_method_2_code
def yX4_know : MethodName := ⟨RX4, "know", "(I)Z"⟩
abbrev cX4_restOfNumber : ByteArray := prog_6_method_3_code
def yX4_restOfNumber : MethodName := ⟨RX4, "restOfNumber", "(I)I"⟩
abbrev cX4_restOfSecond : ByteArray := prog_6_method_4_code
def yX4_restOfSecond : MethodName := ⟨RX4, "restOfSecond", "(I)I"⟩
abbrev cX4_restOfNumbers : ByteArray := prog_6_method_5_code
def yX4_restOfNumbers : MethodName := ⟨RX4, "restOfNumbers", "(I)I"⟩
abbrev cX4_restOfSeconds : ByteArray := prog_6_method_6_code
def yX4_restOfSeconds : MethodName := ⟨RX4, "restOfSeconds", "(I)I"⟩
abbrev cX4_hasColour : ByteArray := prog_6_method_7_code
def yX4_hasColour : MethodName := ⟨RX4, "hasColour", "(II)Z"⟩
abbrev cX4_firstInstead : ByteArray := prog_6_method_8_code
def yX4_firstInstead : MethodName := ⟨RX4, "firstInstead", "(III)I"⟩
abbrev cX4_obey : ByteArray := prog_6_method_9_code
def yX4_obey : MethodName := ⟨RX4, "obey", "(I[J)V"⟩
abbrev cX4_add : ByteArray := prog_6_method_10_code
def yX4_add : MethodName := ⟨RX4, "add", "([J)V"⟩
abbrev cX4_takeAway : ByteArray := prog_6_method_11_code
def yX4_takeAway : MethodName := ⟨RX4, "takeAway", "(I)V"⟩
abbrev cX4_together : ByteArray := prog_6_method_12_code
def yX4_together : MethodName := ⟨RX4, "together", "([JI)J"⟩
abbrev cX4_restOf : ByteArray := prog_6_method_13_code
def yX4_restOf : MethodName := ⟨RX4, "restOf", "(J)I"⟩
def RX5 : String := "EvenTen$Lightest"
def TX5 : u_T := fun k => match k with
  | 0 => ("EvenTen$Lightest", "heaps", "LEvenTen$Heaps;", true)
  | 1 => ("EvenTen$Lightest", "lots", "[[I", true)
  | _ => ("EvenTen$Lightest", "sums", "[[J", true)
def tyX5 : Nat → FieldType := fun k => match k with
  | 0 => .object "EvenTen$Heaps"
  | 1 => .array (.array .int)
  | _ => .array (.array .long)
abbrev wsX50 : List Cond := u_ws RX5 TX5 3
theorem nmX5 : ∀ a, a < 3 → ∀ b, b < 3 → a ≠ b → (TX5 a).2.1 ≠ (TX5 b).2.1 := by decide +kernel
theorem tyX5_ok : ∀ k, k < 3 → parseFieldDescriptor (TX5 k).2.2.1 = some (tyX5 k) := by decide +kernel
abbrev cX5_init : ByteArray := prog_7_method_1_code
def yX5_init : MethodName := ⟨RX5, "<init>", "(LEvenTen$Heaps;)V"⟩
abbrev cX5_answer : ByteArray := prog_7_method_2_code
def yX5_answer : MethodName := ⟨RX5, "answer", "([JII)J"⟩
abbrev cX5_fillLots : ByteArray := prog_7_method_3_code
def yX5_fillLots : MethodName := ⟨RX5, "fillLots", "([JI)V"⟩
abbrev cX5_extend : ByteArray := prog_7_method_4_code
def yX5_extend : MethodName := ⟨RX5, "extend", "(IIJ)V"⟩
abbrev cX5_offer : ByteArray := prog_7_method_5_code
def yX5_offer : MethodName := ⟨RX5, "offer", "(IIIJ)V"⟩
def RX6 : String := "EvenTen$Reader"
def TX6 : u_T := fun k => match k with
  | 0 => ("EvenTen$Reader", "words", "[I", true)
  | 1 => ("EvenTen$Reader", "told", "[[J", true)
  | 2 => ("EvenTen$Reader", "lines", "I", false)
  | 3 => ("EvenTen$Reader", "text", "LEvenTen$Text;", true)
  | 4 => ("EvenTen$Reader", "from", "I", false)
  | 5 => ("EvenTen$Reader", "to", "I", false)
  | _ => ("EvenTen$Reader", "there", "I", false)
def tyX6 : Nat → FieldType := fun k => match k with
  | 0 => .array .int
  | 1 => .array (.array .long)
  | 2 => .int
  | 3 => .object "EvenTen$Text"
  | 4 => .int
  | 5 => .int
  | _ => .int
abbrev wsX60 : List Cond := u_ws RX6 TX6 7
theorem nmX6 : ∀ a, a < 7 → ∀ b, b < 7 → a ≠ b → (TX6 a).2.1 ≠ (TX6 b).2.1 := by decide +kernel
theorem tyX6_ok : ∀ k, k < 7 → parseFieldDescriptor (TX6 k).2.2.1 = some (tyX6 k) := by decide +kernel
abbrev cX6_init : ByteArray := prog_8_method_1_code
def yX6_init : MethodName := ⟨RX6, "<init>", "(LEvenTen$Text;)V"⟩
abbrev cX6_faultIn : ByteArray := prog_8_method_2_code
def yX6_faultIn : MethodName := ⟨RX6, "faultIn", "(I)I"⟩
abbrev cX6_readLine : ByteArray := prog_8_method_3_code
def yX6_readLine : MethodName := ⟨RX6, "readLine", "(I)Z"⟩
abbrev cX6_readHeap : ByteArray := prog_8_method_4_code
def yX6_readHeap : MethodName := ⟨RX6, "readHeap", "(I)Z"⟩
abbrev cX6_readNumber : ByteArray := prog_8_method_5_code
def yX6_readNumber : MethodName := ⟨RX6, "readNumber", "(IIIJJ)Z"⟩
abbrev cX6_readColour : ByteArray := prog_8_method_6_code
def yX6_readColour : MethodName := ⟨RX6, "readColour", "(I)Z"⟩
abbrev cX6_wordHere : ByteArray := prog_8_method_7_code
def yX6_wordHere : MethodName := ⟨RX6, "wordHere", "()I"⟩
abbrev cX6_isHere : ByteArray := prog_8_method_8_code
def yX6_isHere : MethodName := ⟨RX6, "isHere", "(Ljava/lang/String;)Z"⟩
abbrev cX6_nextToken : ByteArray := prog_8_method_9_code
def yX6_nextToken : MethodName := ⟨RX6, "nextToken", "()V"⟩
abbrev cX6_isDigitHere : ByteArray := prog_8_method_10_code
def yX6_isDigitHere : MethodName := ⟨RX6, "isDigitHere", "()Z"⟩
abbrev cX6_isDigit : ByteArray := prog_8_method_11_code
def yX6_isDigit : MethodName := ⟨RX6, "isDigit", "(I)Z"⟩
abbrev cX6_isLetter : ByteArray := prog_8_method_12_code
def yX6_isLetter : MethodName := ⟨RX6, "isLetter", "(I)Z"⟩
def RX7 : String := "EvenTen$Tally"
def TX7 : u_T := fun k => match k with
  | 0 => ("EvenTen$Tally", "heaps", "LEvenTen$Heaps;", true)
  | _ => ("EvenTen$Tally", "lots", "[[I", true)
def tyX7 : Nat → FieldType := fun k => match k with
  | 0 => .object "EvenTen$Heaps"
  | _ => .array (.array .int)
abbrev wsX70 : List Cond := u_ws RX7 TX7 2
theorem nmX7 : ∀ a, a < 2 → ∀ b, b < 2 → a ≠ b → (TX7 a).2.1 ≠ (TX7 b).2.1 := by decide +kernel
theorem tyX7_ok : ∀ k, k < 2 → parseFieldDescriptor (TX7 k).2.2.1 = some (tyX7 k) := by decide +kernel
abbrev cX7_init : ByteArray := prog_9_method_1_code
def yX7_init : MethodName := ⟨RX7, "<init>", "(LEvenTen$Heaps;)V"⟩
abbrev cX7_lotsOf : ByteArray := prog_9_method_2_code
def yX7_lotsOf : MethodName := ⟨RX7, "lotsOf", "(II)I"⟩
abbrev cX7_fillLots : ByteArray := prog_9_method_3_code
def yX7_fillLots : MethodName := ⟨RX7, "fillLots", "(I)V"⟩
def RX8 : String := "EvenTen$Text"
def TX8 : u_T := fun k => match k with
  | 0 => ("EvenTen$Text", "bytes", "[I", true)
  | _ => ("EvenTen$Text", "length", "I", false)
def tyX8 : Nat → FieldType := fun k => match k with
  | 0 => .array .int
  | _ => .int
abbrev wsX80 : List Cond := u_ws RX8 TX8 2
theorem nmX8 : ∀ a, a < 2 → ∀ b, b < 2 → a ≠ b → (TX8 a).2.1 ≠ (TX8 b).2.1 := by decide +kernel
theorem tyX8_ok : ∀ k, k < 2 → parseFieldDescriptor (TX8 k).2.2.1 = some (tyX8 k) := by decide +kernel
abbrev cX8_init : ByteArray := prog_10_method_1_code
def yX8_init : MethodName := ⟨RX8, "<init>", "()V"⟩
abbrev cX8_put : ByteArray := prog_10_method_2_code
def yX8_put : MethodName := ⟨RX8, "put", "(JI)Z"⟩
abbrev cX8_at : ByteArray := prog_10_method_3_code
def yX8_at : MethodName := ⟨RX8, "at", "(I)I"⟩
def RX9 : String := "EvenTen$Turns"
def TX9 : u_T := fun k => match k with
  | 0 => ("EvenTen$Turns", "heaps", "LEvenTen$Heaps;", true)
  | 1 => ("EvenTen$Turns", "hasTen", "[Z", true)
  | 2 => ("EvenTen$Turns", "figures", "[I", true)
  | _ => ("EvenTen$Turns", "known", "[I", true)
def tyX9 : Nat → FieldType := fun k => match k with
  | 0 => .object "EvenTen$Heaps"
  | 1 => .array .boolean
  | 2 => .array .int
  | _ => .array .int
abbrev wsX90 : List Cond := u_ws RX9 TX9 4
theorem nmX9 : ∀ a, a < 4 → ∀ b, b < 4 → a ≠ b → (TX9 a).2.1 ≠ (TX9 b).2.1 := by decide +kernel
theorem tyX9_ok : ∀ k, k < 4 → parseFieldDescriptor (TX9 k).2.2.1 = some (tyX9 k) := by decide +kernel
abbrev cX9_init : ByteArray := prog_11_method_1_code
def yX9_init : MethodName := ⟨RX9, "<init>", "(LEvenTen$Heaps;[I)V"⟩
abbrev cX9_open : ByteArray := prog_11_method_2_code
def yX9_open : MethodName := ⟨RX9, "open", "(I)V"⟩
abbrev cX9_firstComesTo : ByteArray := prog_11_method_3_code
def yX9_firstComesTo : MethodName := ⟨RX9, "firstComesTo", "()I"⟩
abbrev cX9_leastBest : ByteArray := prog_11_method_4_code
def yX9_leastBest : MethodName := ⟨RX9, "leastBest", "()I"⟩
abbrev cX9_comesTo : ByteArray := prog_11_method_5_code
def yX9_comesTo : MethodName := ⟨RX9, "comesTo", "(III)I"⟩
abbrev cX9_bestOf : ByteArray := prog_11_method_6_code
def yX9_bestOf : MethodName := ⟨RX9, "bestOf", "(III)I"⟩
abbrev cX9_afterTaking : ByteArray := prog_11_method_7_code
def yX9_afterTaking : MethodName := ⟨RX9, "afterTaking", "(IIII)I"⟩
def RX10 : String := "EvenTen$Whatever"
def TX10 : u_T := fun k => match k with
  | 0 => ("EvenTen$Whatever", "staying", "[J", true)
  | 1 => ("EvenTen$Whatever", "parts", "I", false)
  | 2 => ("EvenTen$Whatever", "k", "I", false)
  | 3 => ("EvenTen$Whatever", "wanted", "I", false)
  | 4 => ("EvenTen$Whatever", "found", "I", false)
  | _ => ("EvenTen$Whatever", "answer", "I", false)
def tyX10 : Nat → FieldType := fun k => match k with
  | 0 => .array .long
  | 1 => .int
  | 2 => .int
  | 3 => .int
  | 4 => .int
  | _ => .int
abbrev wsX100 : List Cond := u_ws RX10 TX10 6
theorem nmX10 : ∀ a, a < 6 → ∀ b, b < 6 → a ≠ b → (TX10 a).2.1 ≠ (TX10 b).2.1 := by decide +kernel
theorem tyX10_ok : ∀ k, k < 6 → parseFieldDescriptor (TX10 k).2.2.1 = some (tyX10 k) := by decide +kernel
abbrev cX10_init : ByteArray := prog_12_method_1_code
def yX10_init : MethodName := ⟨RX10, "<init>", "()V"⟩
abbrev cX10_isAlways : ByteArray := prog_12_method_2_code
def yX10_isAlways : MethodName := ⟨RX10, "isAlways", "(III)Z"⟩
abbrev cX10_howMany : ByteArray := prog_12_method_3_code
def yX10_howMany : MethodName := ⟨RX10, "howMany", "(III)I"⟩
abbrev cX10_without : ByteArray := prog_12_method_4_code
def yX10_without : MethodName := ⟨RX10, "without", "(IIII)I"⟩
abbrev cX10_fillStaying : ByteArray := prog_12_method_5_code
def yX10_fillStaying : MethodName := ⟨RX10, "fillStaying", "()V"⟩
abbrev cX10_hand : ByteArray := prog_12_method_6_code
def yX10_hand : MethodName := ⟨RX10, "hand", "(IIIJ)V"⟩
abbrev cX10_handLast : ByteArray := prog_12_method_7_code
def yX10_handLast : MethodName := ⟨RX10, "handLast", "(IIJ)V"⟩
abbrev cX10_withOneMore : ByteArray := prog_12_method_8_code
def yX10_withOneMore : MethodName := ⟨RX10, "withOneMore", "(JI)J"⟩
abbrev cX10_hasTen : ByteArray := prog_12_method_9_code
def yX10_hasTen : MethodName := ⟨RX10, "hasTen", "(J)Z"⟩
def RX11 : String := "EvenTen"
def TX11 : u_T := fun k => match k with
  | 0 => ("EvenTen", "heaps", "LEvenTen$Heaps;", true)
  | 1 => ("EvenTen", "text", "LEvenTen$Text;", true)
  | 2 => ("EvenTen", "reader", "LEvenTen$Reader;", true)
  | 3 => ("EvenTen", "book", "LEvenTen$Book;", true)
  | 4 => ("EvenTen", "finder", "LEvenTen$Finder;", true)
  | 5 => ("EvenTen", "tally", "LEvenTen$Tally;", true)
  | 6 => ("EvenTen", "lightest", "LEvenTen$Lightest;", true)
  | 7 => ("EvenTen", "whatever", "LEvenTen$Whatever;", true)
  | 8 => ("EvenTen", "coming", "LEvenTen$Coming;", true)
  | 9 => ("EvenTen", "packing", "LEvenTen$Apart;", true)
  | _ => ("EvenTen", "game", "LEvenTen$Turns;", true)
def tyX11 : Nat → FieldType := fun k => match k with
  | 0 => .object "EvenTen$Heaps"
  | 1 => .object "EvenTen$Text"
  | 2 => .object "EvenTen$Reader"
  | 3 => .object "EvenTen$Book"
  | 4 => .object "EvenTen$Finder"
  | 5 => .object "EvenTen$Tally"
  | 6 => .object "EvenTen$Lightest"
  | 7 => .object "EvenTen$Whatever"
  | 8 => .object "EvenTen$Coming"
  | 9 => .object "EvenTen$Apart"
  | _ => .object "EvenTen$Turns"
abbrev wsX110 : List Cond := u_ws RX11 TX11 11
theorem nmX11 : ∀ a, a < 11 → ∀ b, b < 11 → a ≠ b → (TX11 a).2.1 ≠ (TX11 b).2.1 := by decide +kernel
theorem tyX11_ok : ∀ k, k < 11 → parseFieldDescriptor (TX11 k).2.2.1 = some (tyX11 k) := by decide +kernel
abbrev cX11_init : ByteArray := prog_1_method_1_code
def yX11_init : MethodName := ⟨RX11, "<init>", "()V"⟩
abbrev cX11_write : ByteArray := prog_1_method_2_code
def yX11_write : MethodName := ⟨RX11, "write", "(JI)I"⟩
abbrev cX11_erase : ByteArray := prog_1_method_3_code
def yX11_erase : MethodName := ⟨RX11, "erase", "()I"⟩
abbrev cX11_fault : ByteArray := prog_1_method_4_code
def yX11_fault : MethodName := ⟨RX11, "fault", "()I"⟩
abbrev cX11_market : ByteArray := prog_1_method_5_code
def yX11_market : MethodName := ⟨RX11, "market", "()I"⟩
abbrev cX11_heap : ByteArray := prog_1_method_6_code
def yX11_heap : MethodName := ⟨RX11, "heap", "(II)J"⟩
abbrev cX11_rest : ByteArray := prog_1_method_7_code
def yX11_rest : MethodName := ⟨RX11, "rest", "(II)I"⟩
abbrev cX11_as : ByteArray := prog_1_method_8_code
def yX11_as : MethodName := ⟨RX11, "as", "(IIII)I"⟩
abbrev cX11_find : ByteArray := prog_1_method_9_code
def yX11_find : MethodName := ⟨RX11, "find", "(II)I"⟩
abbrev cX11_many : ByteArray := prog_1_method_10_code
def yX11_many : MethodName := ⟨RX11, "many", "(II)I"⟩
abbrev cX11_light : ByteArray := prog_1_method_11_code
def yX11_light : MethodName := ⟨RX11, "light", "(II)J"⟩
abbrev cX11_cheap : ByteArray := prog_1_method_12_code
def yX11_cheap : MethodName := ⟨RX11, "cheap", "(II)I"⟩
abbrev cX11_mends : ByteArray := prog_1_method_13_code
def yX11_mends : MethodName := ⟨RX11, "mends", "(I)I"⟩
abbrev cX11_swap : ByteArray := prog_1_method_14_code
def yX11_swap : MethodName := ⟨RX11, "swap", "(II)I"⟩
abbrev cX11_always : ByteArray := prog_1_method_15_code
def yX11_always : MethodName := ⟨RX11, "always", "(III)I"⟩
abbrev cX11_need : ByteArray := prog_1_method_16_code
def yX11_need : MethodName := ⟨RX11, "need", "(II)I"⟩
abbrev cX11_worst : ByteArray := prog_1_method_17_code
def yX11_worst : MethodName := ⟨RX11, "worst", "(IIII)I"⟩
abbrev cX11_come : ByteArray := prog_1_method_18_code
def yX11_come : MethodName := ⟨RX11, "come", "(I)I"⟩
abbrev cX11_badly : ByteArray := prog_1_method_19_code
def yX11_badly : MethodName := ⟨RX11, "badly", "(I)I"⟩
abbrev cX11_apart : ByteArray := prog_1_method_20_code
def yX11_apart : MethodName := ⟨RX11, "apart", "(II)I"⟩
abbrev cX11_turns : ByteArray := prog_1_method_21_code
def yX11_turns : MethodName := ⟨RX11, "turns", "(II)I"⟩
abbrev cX11_sale : ByteArray := prog_1_method_22_code
def yX11_sale : MethodName := ⟨RX11, "sale", "(I)I"⟩
abbrev cX11_burn : ByteArray := prog_1_method_23_code
def yX11_burn : MethodName := ⟨RX11, "burn", "()I"⟩
abbrev cX11_judge : ByteArray := prog_1_method_24_code
def yX11_judge : MethodName := ⟨RX11, "judge", "(I)I"⟩
abbrev cX11_keep : ByteArray := prog_1_method_25_code
def yX11_keep : MethodName := ⟨RX11, "keep", "(I)I"⟩
abbrev cX11_back : ByteArray := prog_1_method_26_code
def yX11_back : MethodName := ⟨RX11, "back", "(I)I"⟩
abbrev cX11_count : ByteArray := prog_1_method_27_code
def yX11_count : MethodName := ⟨RX11, "count", "(I)I"⟩
abbrev cX11_within : ByteArray := prog_1_method_28_code
def yX11_within : MethodName := ⟨RX11, "within", "(III)Z"⟩
abbrev cX11_isSize : ByteArray := prog_1_method_29_code
def yX11_isSize : MethodName := ⟨RX11, "isSize", "(I)Z"⟩
abbrev cX11_isHanded : ByteArray := prog_1_method_30_code
def yX11_isHanded : MethodName := ⟨RX11, "isHanded", "(II)Z"⟩
abbrev cX11_turned : ByteArray := prog_1_method_31_code
def yX11_turned : MethodName := ⟨RX11, "turned", "(II)I"⟩
abbrev cX11_isAhead : ByteArray := prog_1_method_32_code
def yX11_isAhead : MethodName := ⟨RX11, "isAhead", "(II)Z"⟩
def RX12 : String := "EvenTenModel"
def TX12 : u_T := fun k => match k with
  | 0 => ("EvenTenModel", "numbers", "[J", true)
  | 1 => ("EvenTenModel", "others", "[I", true)
  | 2 => ("EvenTenModel", "counts", "[I", true)
  | 3 => ("EvenTenModel", "sales", "[I", true)
  | 4 => ("EvenTenModel", "isKept", "[Z", true)
  | 5 => ("EvenTenModel", "text", "[I", true)
  | 6 => ("EvenTenModel", "length", "I", false)
  | 7 => ("EvenTenModel", "read", "[I", true)
  | 8 => ("EvenTenModel", "readNumber", "[J", true)
  | 9 => ("EvenTenModel", "readMany", "I", false)
  | 10 => ("EvenTenModel", "at", "I", false)
  | 11 => ("EvenTenModel", "place", "I", false)
  | 12 => ("EvenTenModel", "end", "I", false)
  | 13 => ("EvenTenModel", "readHeaps", "I", false)
  | 14 => ("EvenTenModel", "can", "[Z", true)
  | 15 => ("EvenTenModel", "ways", "[I", true)
  | 16 => ("EvenTenModel", "least", "[J", true)
  | 17 => ("EvenTenModel", "often", "[I", true)
  | 18 => ("EvenTenModel", "have", "[Z", true)
  | 19 => ("EvenTenModel", "most", "[I", true)
  | 20 => ("EvenTenModel", "aparts", "[I", true)
  | 21 => ("EvenTenModel", "tens", "[Z", true)
  | 22 => ("EvenTenModel", "worths", "[I", true)
  | _ => ("EvenTenModel", "wins", "[Z", true)
def tyX12 : Nat → FieldType := fun k => match k with
  | 0 => .array .long
  | 1 => .array .int
  | 2 => .array .int
  | 3 => .array .int
  | 4 => .array .boolean
  | 5 => .array .int
  | 6 => .int
  | 7 => .array .int
  | 8 => .array .long
  | 9 => .int
  | 10 => .int
  | 11 => .int
  | 12 => .int
  | 13 => .int
  | 14 => .array .boolean
  | 15 => .array .int
  | 16 => .array .long
  | 17 => .array .int
  | 18 => .array .boolean
  | 19 => .array .int
  | 20 => .array .int
  | 21 => .array .boolean
  | 22 => .array .int
  | _ => .array .boolean
abbrev wsX120 : List Cond := u_ws RX12 TX12 24
theorem nmX12 : ∀ a, a < 24 → ∀ b, b < 24 → a ≠ b → (TX12 a).2.1 ≠ (TX12 b).2.1 := by decide +kernel
theorem tyX12_ok : ∀ k, k < 24 → parseFieldDescriptor (TX12 k).2.2.1 = some (tyX12 k) := by decide +kernel
abbrev cX12_init : ByteArray := prog_14_method_1_code
def yX12_init : MethodName := ⟨RX12, "<init>", "()V"⟩
abbrev cX12_in : ByteArray := prog_14_method_2_code
def yX12_in : MethodName := ⟨RX12, "in", "(JJJ)Z"⟩
abbrev cX12_has : ByteArray := prog_14_method_3_code
def yX12_has : MethodName := ⟨RX12, "has", "(II)Z"⟩
abbrev cX12_heaps : ByteArray := prog_14_method_4_code
def yX12_heaps : MethodName := ⟨RX12, "heaps", "()I"⟩
abbrev cX12_parts : ByteArray := prog_14_method_5_code
def yX12_parts : MethodName := ⟨RX12, "parts", "()I"⟩
abbrev cX12_write : ByteArray := prog_14_method_6_code
def yX12_write : MethodName := ⟨RX12, "write", "(JI)I"⟩
abbrev cX12_erase : ByteArray := prog_14_method_7_code
def yX12_erase : MethodName := ⟨RX12, "erase", "()I"⟩
abbrev cX12_sort : ByteArray := prog_14_method_8_code
def yX12_sort : MethodName := ⟨RX12, "sort", "(I)I"⟩
abbrev cX12_token : ByteArray := prog_14_method_9_code
def yX12_token : MethodName := ⟨RX12, "token", "()V"⟩
abbrev cX12_isWord : ByteArray := prog_14_method_10_code
def yX12_isWord : MethodName := ⟨RX12, "isWord", "(II)Z"⟩
abbrev cX12_wordOf : ByteArray := prog_14_method_11_code
def yX12_wordOf : MethodName := ⟨RX12, "wordOf", "()I"⟩
abbrev cX12_isNumber : ByteArray := prog_14_method_12_code
def yX12_isNumber : MethodName := ⟨RX12, "isNumber", "()Z"⟩
abbrev cX12_numberHere : ByteArray := prog_14_method_13_code
def yX12_numberHere : MethodName := ⟨RX12, "numberHere", "(I)J"⟩
abbrev cX12_reads : ByteArray := prog_14_method_14_code
def yX12_reads : MethodName := ⟨RX12, "reads", "(III)Z"⟩
abbrev cX12_colourHere : ByteArray := prog_14_method_15_code
def yX12_colourHere : MethodName := ⟨RX12, "colourHere", "()I"⟩
abbrev cX12_readsHeap : ByteArray := prog_14_method_16_code
def yX12_readsHeap : MethodName := ⟨RX12, "readsHeap", "()Z"⟩
abbrev cX12_readsRest : ByteArray := prog_14_method_17_code
def yX12_readsRest : MethodName := ⟨RX12, "readsRest", "(I)Z"⟩
abbrev cX12_readsLine : ByteArray := prog_14_method_18_code
def yX12_readsLine : MethodName := ⟨RX12, "readsLine", "()Z"⟩
abbrev cX12_fault : ByteArray := prog_14_method_19_code
def yX12_fault : MethodName := ⟨RX12, "fault", "()I"⟩
abbrev cX12_away : ByteArray := prog_14_method_20_code
def yX12_away : MethodName := ⟨RX12, "away", "(I)V"⟩
abbrev cX12_tell : ByteArray := prog_14_method_21_code
def yX12_tell : MethodName := ⟨RX12, "tell", "(I)V"⟩
abbrev cX12_market : ByteArray := prog_14_method_22_code
def yX12_market : MethodName := ⟨RX12, "market", "()I"⟩
abbrev cX12_restOf : ByteArray := prog_14_method_23_code
def yX12_restOf : MethodName := ⟨RX12, "restOf", "(I)I"⟩
abbrev cX12_heap : ByteArray := prog_14_method_24_code
def yX12_heap : MethodName := ⟨RX12, "heap", "(II)J"⟩
abbrev cX12_isLot : ByteArray := prog_14_method_25_code
def yX12_isLot : MethodName := ⟨RX12, "isLot", "(I)Z"⟩
abbrev cX12_bits : ByteArray := prog_14_method_26_code
def yX12_bits : MethodName := ⟨RX12, "bits", "(I)I"⟩
abbrev cX12_restOfLot : ByteArray := prog_14_method_27_code
def yX12_restOfLot : MethodName := ⟨RX12, "restOfLot", "(IZ)I"⟩
abbrev cX12_rest : ByteArray := prog_14_method_28_code
def yX12_rest : MethodName := ⟨RX12, "rest", "(II)I"⟩
abbrev cX12_isSize : ByteArray := prog_14_method_29_code
def yX12_isSize : MethodName := ⟨RX12, "isSize", "(I)Z"⟩
abbrev cX12_isTen : ByteArray := prog_14_method_30_code
def yX12_isTen : MethodName := ⟨RX12, "isTen", "(II)Z"⟩
abbrev cX12_isRow : ByteArray := prog_14_method_31_code
def yX12_isRow : MethodName := ⟨RX12, "isRow", "(I)Z"⟩
abbrev cX12_hasColour : ByteArray := prog_14_method_32_code
def yX12_hasColour : MethodName := ⟨RX12, "hasColour", "(II)Z"⟩
abbrev cX12_isOf : ByteArray := prog_14_method_33_code
def yX12_isOf : MethodName := ⟨RX12, "isOf", "(III)Z"⟩
abbrev cX12_isKind : ByteArray := prog_14_method_34_code
def yX12_isKind : MethodName := ⟨RX12, "isKind", "(I)Z"⟩
abbrev cX12_as : ByteArray := prog_14_method_35_code
def yX12_as : MethodName := ⟨RX12, "as", "(IIII)I"⟩
abbrev cX12_placeOf : ByteArray := prog_14_method_36_code
def yX12_placeOf : MethodName := ⟨RX12, "placeOf", "(IIIII)I"⟩
abbrev cX12_behind : ByteArray := prog_14_method_37_code
def yX12_behind : MethodName := ⟨RX12, "behind", "(IIIIII)I"⟩
abbrev cX12_layCan : ByteArray := prog_14_method_38_code
def yX12_layCan : MethodName := ⟨RX12, "layCan", "(I)V"⟩
abbrev cX12_findBy : ByteArray := prog_14_method_39_code
def yX12_findBy : MethodName := ⟨RX12, "findBy", "(II)I"⟩
abbrev cX12_findRun : ByteArray := prog_14_method_40_code
def yX12_findRun : MethodName := ⟨RX12, "findRun", "(I)I"⟩
abbrev cX12_find : ByteArray := prog_14_method_41_code
def yX12_find : MethodName := ⟨RX12, "find", "(II)I"⟩
abbrev cX12_layWays : ByteArray := prog_14_method_42_code
def yX12_layWays : MethodName := ⟨RX12, "layWays", "()V"⟩
abbrev cX12_many : ByteArray := prog_14_method_43_code
def yX12_many : MethodName := ⟨RX12, "many", "(II)I"⟩
abbrev cX12_ownOf : ByteArray := prog_14_method_44_code
def yX12_ownOf : MethodName := ⟨RX12, "ownOf", "(IZ)J"⟩
abbrev cX12_layLeast : ByteArray := prog_14_method_45_code
def yX12_layLeast : MethodName := ⟨RX12, "layLeast", "(Z)V"⟩
abbrev cX12_withOf : ByteArray := prog_14_method_46_code
def yX12_withOf : MethodName := ⟨RX12, "withOf", "(IIIZ)J"⟩
abbrev cX12_leastOf : ByteArray := prog_14_method_47_code
def yX12_leastOf : MethodName := ⟨RX12, "leastOf", "(IZZ)J"⟩
abbrev cX12_light : ByteArray := prog_14_method_48_code
def yX12_light : MethodName := ⟨RX12, "light", "(II)J"⟩
abbrev cX12_cheap : ByteArray := prog_14_method_49_code
def yX12_cheap : MethodName := ⟨RX12, "cheap", "(II)I"⟩
abbrev cX12_mends : ByteArray := prog_14_method_50_code
def yX12_mends : MethodName := ⟨RX12, "mends", "(I)I"⟩
abbrev cX12_swap : ByteArray := prog_14_method_51_code
def yX12_swap : MethodName := ⟨RX12, "swap", "(II)I"⟩
abbrev cX12_hasTen : ByteArray := prog_14_method_52_code
def yX12_hasTen : MethodName := ⟨RX12, "hasTen", "(II)Z"⟩
abbrev cX12_layOften : ByteArray := prog_14_method_53_code
def yX12_layOften : MethodName := ⟨RX12, "layOften", "(II)Z"⟩
abbrev cX12_rowsOf : ByteArray := prog_14_method_54_code
def yX12_rowsOf : MethodName := ⟨RX12, "rowsOf", "(I)I"⟩
abbrev cX12_areSmall : ByteArray := prog_14_method_55_code
def yX12_areSmall : MethodName := ⟨RX12, "areSmall", "(III)Z"⟩
abbrev cX12_worstOf : ByteArray := prog_14_method_56_code
def yX12_worstOf : MethodName := ⟨RX12, "worstOf", "(IIII)I"⟩
abbrev cX12_always : ByteArray := prog_14_method_57_code
def yX12_always : MethodName := ⟨RX12, "always", "(III)I"⟩
abbrev cX12_need : ByteArray := prog_14_method_58_code
def yX12_need : MethodName := ⟨RX12, "need", "(II)I"⟩
abbrev cX12_worst : ByteArray := prog_14_method_59_code
def yX12_worst : MethodName := ⟨RX12, "worst", "(IIII)I"⟩
abbrev cX12_come : ByteArray := prog_14_method_60_code
def yX12_come : MethodName := ⟨RX12, "come", "(I)I"⟩
abbrev cX12_badly : ByteArray := prog_14_method_61_code
def yX12_badly : MethodName := ⟨RX12, "badly", "(I)I"⟩
abbrev cX12_layAparts : ByteArray := prog_14_method_62_code
def yX12_layAparts : MethodName := ⟨RX12, "layAparts", "(I)V"⟩
abbrev cX12_isAhead : ByteArray := prog_14_method_63_code
def yX12_isAhead : MethodName := ⟨RX12, "isAhead", "(II)Z"⟩
abbrev cX12_apart : ByteArray := prog_14_method_64_code
def yX12_apart : MethodName := ⟨RX12, "apart", "(II)I"⟩
abbrev cX12_takenBy : ByteArray := prog_14_method_65_code
def yX12_takenBy : MethodName := ⟨RX12, "takenBy", "(II)I"⟩
abbrev cX12_unitOf : ByteArray := prog_14_method_66_code
def yX12_unitOf : MethodName := ⟨RX12, "unitOf", "(I)I"⟩
abbrev cX12_hasLot : ByteArray := prog_14_method_67_code
def yX12_hasLot : MethodName := ⟨RX12, "hasLot", "(II)Z"⟩
abbrev cX12_layWorths : ByteArray := prog_14_method_68_code
def yX12_layWorths : MethodName := ⟨RX12, "layWorths", "(I)V"⟩
abbrev cX12_bestOf : ByteArray := prog_14_method_69_code
def yX12_bestOf : MethodName := ⟨RX12, "bestOf", "(II)I"⟩
abbrev cX12_turns : ByteArray := prog_14_method_70_code
def yX12_turns : MethodName := ⟨RX12, "turns", "(II)I"⟩
abbrev cX12_sale : ByteArray := prog_14_method_71_code
def yX12_sale : MethodName := ⟨RX12, "sale", "(I)I"⟩
abbrev cX12_burn : ByteArray := prog_14_method_72_code
def yX12_burn : MethodName := ⟨RX12, "burn", "()I"⟩
abbrev cX12_judge : ByteArray := prog_14_method_73_code
def yX12_judge : MethodName := ⟨RX12, "judge", "(I)I"⟩
abbrev cX12_copy : ByteArray := prog_14_method_74_code
def yX12_copy : MethodName := ⟨RX12, "copy", "(II)V"⟩
abbrev cX12_keep : ByteArray := prog_14_method_75_code
def yX12_keep : MethodName := ⟨RX12, "keep", "(I)I"⟩
abbrev cX12_back : ByteArray := prog_14_method_76_code
def yX12_back : MethodName := ⟨RX12, "back", "(I)I"⟩
abbrev cX12_count : ByteArray := prog_14_method_77_code
def yX12_count : MethodName := ⟨RX12, "count", "(I)I"⟩
def RJx145de : String := "java/io/Serializable"
def TJx145de : u_T := fun k => match k with
  | _ => ("", "", "", false)
def tyJx145de : Nat → FieldType := fun k => match k with
  | _ => .int
abbrev wsJx145de0 : List Cond := u_ws RJx145de TJx145de 0
theorem nmJx145de : ∀ a, a < 0 → ∀ b, b < 0 → a ≠ b → (TJx145de a).2.1 ≠ (TJx145de b).2.1 := by decide +kernel
theorem tyJx145de_ok : ∀ k, k < 0 → parseFieldDescriptor (TJx145de k).2.2.1 = some (tyJx145de k) := by decide +kernel
def RJx9f9b0 : String := "java/lang/CharSequence"
def TJx9f9b0 : u_T := fun k => match k with
  | _ => ("", "", "", false)
def tyJx9f9b0 : Nat → FieldType := fun k => match k with
  | _ => .int
abbrev wsJx9f9b00 : List Cond := u_ws RJx9f9b0 TJx9f9b0 0
theorem nmJx9f9b0 : ∀ a, a < 0 → ∀ b, b < 0 → a ≠ b → (TJx9f9b0 a).2.1 ≠ (TJx9f9b0 b).2.1 := by decide +kernel
theorem tyJx9f9b0_ok : ∀ k, k < 0 → parseFieldDescriptor (TJx9f9b0 k).2.2.1 = some (tyJx9f9b0 k) := by decide +kernel
def RJ11 : String := "java/lang/Character"
def TJ11 : u_T := fun k => match k with
  | _ => ("", "", "", false)
def tyJ11 : Nat → FieldType := fun k => match k with
  | _ => .int
abbrev wsJ110 : List Cond := u_ws RJ11 TJ11 0
theorem nmJ11 : ∀ a, a < 0 → ∀ b, b < 0 → a ≠ b → (TJ11 a).2.1 ≠ (TJ11 b).2.1 := by decide +kernel
theorem tyJ11_ok : ∀ k, k < 0 → parseFieldDescriptor (TJ11 k).2.2.1 = some (tyJ11 k) := by decide +kernel
abbrev cJ11_isValidCodePoint_9a6ad : ByteArray := prog_15_method_11_code
def yJ11_isValidCodePoint_9a6ad : MethodName := ⟨RJ11, "isValidCodePoint", "(I)Z"⟩
abbrev cJ11_highSurrogate_5068e : ByteArray := prog_15_method_28_code
def yJ11_highSurrogate_5068e : MethodName := ⟨RJ11, "highSurrogate", "(I)C"⟩
abbrev cJ11_lowSurrogate_5068e : ByteArray := prog_15_method_29_code
def yJ11_lowSurrogate_5068e : MethodName := ⟨RJ11, "lowSurrogate", "(I)C"⟩
def RJxb160c : String := "java/lang/Comparable"
def TJxb160c : u_T := fun k => match k with
  | _ => ("", "", "", false)
def tyJxb160c : Nat → FieldType := fun k => match k with
  | _ => .int
abbrev wsJxb160c0 : List Cond := u_ws RJxb160c TJxb160c 0
theorem nmJxb160c : ∀ a, a < 0 → ∀ b, b < 0 → a ≠ b → (TJxb160c a).2.1 ≠ (TJxb160c b).2.1 := by decide +kernel
theorem tyJxb160c_ok : ∀ k, k < 0 → parseFieldDescriptor (TJxb160c k).2.2.1 = some (tyJxb160c k) := by decide +kernel
def RJ6 : String := "java/lang/Integer"
def TJ6 : u_T := fun k => match k with
  | _ => ("", "", "", false)
def tyJ6 : Nat → FieldType := fun k => match k with
  | _ => .int
abbrev wsJ60 : List Cond := u_ws RJ6 TJ6 0
theorem nmJ6 : ∀ a, a < 0 → ∀ b, b < 0 → a ≠ b → (TJ6 a).2.1 ≠ (TJ6 b).2.1 := by decide +kernel
theorem tyJ6_ok : ∀ k, k < 0 → parseFieldDescriptor (TJ6 k).2.2.1 = some (tyJ6 k) := by decide +kernel
abbrev cJ6_bitCount_0f7a4 : ByteArray := prog_16_method_49_code
def yJ6_bitCount_0f7a4 : MethodName := ⟨RJ6, "bitCount", "(I)I"⟩
def RJ9 : String := "java/lang/Math"
def TJ9 : u_T := fun k => match k with
  | _ => ("", "", "", false)
def tyJ9 : Nat → FieldType := fun k => match k with
  | _ => .int
abbrev wsJ90 : List Cond := u_ws RJ9 TJ9 0
theorem nmJ9 : ∀ a, a < 0 → ∀ b, b < 0 → a ≠ b → (TJ9 a).2.1 ≠ (TJ9 b).2.1 := by decide +kernel
theorem tyJ9_ok : ∀ k, k < 0 → parseFieldDescriptor (TJ9 k).2.2.1 = some (tyJ9 k) := by decide +kernel
abbrev cJ9_max_7cf53 : ByteArray := prog_17_method_65_code
def yJ9_max_7cf53 : MethodName := ⟨RJ9, "max", "(II)I"⟩
abbrev cJ9_min_7cf53 : ByteArray := prog_17_method_69_code
def yJ9_min_7cf53 : MethodName := ⟨RJ9, "min", "(II)I"⟩
def RJ0 : String := "java/lang/String"
def TJ0 : u_T := fun k => match k with
  | _ => ("", "", "", false)
def tyJ0 : Nat → FieldType := fun k => match k with
  | _ => .int
abbrev wsJ00 : List Cond := u_ws RJ0 TJ0 0
theorem nmJ0 : ∀ a, a < 0 → ∀ b, b < 0 → a ≠ b → (TJ0 a).2.1 ≠ (TJ0 b).2.1 := by decide +kernel
theorem tyJ0_ok : ∀ k, k < 0 → parseFieldDescriptor (TJ0 k).2.2.1 = some (tyJ0 k) := by decide +kernel
abbrev cJ0_length_8abf5 : ByteArray := prog_18_method_54_code
def yJ0_length_8abf5 : MethodName := ⟨RJ0, "length", "()I"⟩
abbrev cJ0_charAt_5068e : ByteArray := prog_18_method_56_code
def yJ0_charAt_5068e : MethodName := ⟨RJ0, "charAt", "(I)C"⟩
abbrev cJ0_indexOf_0f7a4 : ByteArray := prog_18_method_79_code
def yJ0_indexOf_0f7a4 : MethodName := ⟨RJ0, "indexOf", "(I)I"⟩
abbrev cJ0_indexOf_7cf53 : ByteArray := prog_18_method_80_code
def yJ0_indexOf_7cf53 : MethodName := ⟨RJ0, "indexOf", "(II)I"⟩
abbrev cJ0_coder_7d493 : ByteArray := prog_18_method_152_code
def yJ0_coder_7d493 : MethodName := ⟨RJ0, "coder", "()B"⟩
abbrev cJ0_isLatin1_aae02 : ByteArray := prog_18_method_154_code
def yJ0_isLatin1_aae02 : MethodName := ⟨RJ0, "isLatin1", "()Z"⟩
abbrev cJ0_checkIndex_df160 : ByteArray := prog_18_method_155_code
def yJ0_checkIndex_df160 : MethodName := ⟨RJ0, "checkIndex", "(II)V"⟩
abbrev cJ0_checkBoundsBeginEnd_23922 : ByteArray := prog_18_method_158_code
def yJ0_checkBoundsBeginEnd_23922 : MethodName := ⟨RJ0, "checkBoundsBeginEnd", "(III)V"⟩
def RJ1 : String := "java/lang/StringLatin1"
def TJ1 : u_T := fun k => match k with
  | _ => ("", "", "", false)
def tyJ1 : Nat → FieldType := fun k => match k with
  | _ => .int
abbrev wsJ10 : List Cond := u_ws RJ1 TJ1 0
theorem nmJ1 : ∀ a, a < 0 → ∀ b, b < 0 → a ≠ b → (TJ1 a).2.1 ≠ (TJ1 b).2.1 := by decide +kernel
theorem tyJ1_ok : ∀ k, k < 0 → parseFieldDescriptor (TJ1 k).2.2.1 = some (tyJ1 k) := by decide +kernel
abbrev cJ1_charAt_3b067 : ByteArray := prog_19_method_2_code
def yJ1_charAt_3b067 : MethodName := ⟨RJ1, "charAt", "([BI)C"⟩
abbrev cJ1_canEncode_9a6ad : ByteArray := prog_19_method_4_code
def yJ1_canEncode_9a6ad : MethodName := ⟨RJ1, "canEncode", "(I)Z"⟩
abbrev cJ1_indexOf_4cfef : ByteArray := prog_19_method_22_code
def yJ1_indexOf_4cfef : MethodName := ⟨RJ1, "indexOf", "([BIII)I"⟩
abbrev cJ1_indexOfChar_4cfef : ByteArray := prog_19_method_23_code
def yJ1_indexOfChar_4cfef : MethodName := ⟨RJ1, "indexOfChar", "([BIII)I"⟩
def RJ2 : String := "java/lang/StringUTF16"
def TJ2 : u_T := fun k => match k with
  | _ => ("", "", "", false)
def tyJ2 : Nat → FieldType := fun k => match k with
  | _ => .int
abbrev wsJ20 : List Cond := u_ws RJ2 TJ2 0
theorem nmJ2 : ∀ a, a < 0 → ∀ b, b < 0 → a ≠ b → (TJ2 a).2.1 ≠ (TJ2 b).2.1 := by decide +kernel
theorem tyJ2_ok : ∀ k, k < 0 → parseFieldDescriptor (TJ2 k).2.2.1 = some (tyJ2 k) := by decide +kernel
abbrev cJ2_getChar_3b067 : ByteArray := prog_20_method_5_code
def yJ2_getChar_3b067 : MethodName := ⟨RJ2, "getChar", "([BI)C"⟩
abbrev cJ2_length_9d52b : ByteArray := prog_20_method_6_code
def yJ2_length_9d52b : MethodName := ⟨RJ2, "length", "([B)I"⟩
abbrev cJ2_indexOf_4cfef : ByteArray := prog_20_method_40_code
def yJ2_indexOf_4cfef : MethodName := ⟨RJ2, "indexOf", "([BIII)I"⟩
abbrev cJ2_indexOfChar_4cfef : ByteArray := prog_20_method_47_code
def yJ2_indexOfChar_4cfef : MethodName := ⟨RJ2, "indexOfChar", "([BIII)I"⟩
abbrev cJ2_indexOfCharUnsafe_4cfef : ByteArray := prog_20_method_48_code
def yJ2_indexOfCharUnsafe_4cfef : MethodName := ⟨RJ2, "indexOfCharUnsafe", "([BIII)I"⟩
abbrev cJ2_indexOfSupplementary_4cfef : ByteArray := prog_20_method_49_code
def yJ2_indexOfSupplementary_4cfef : MethodName := ⟨RJ2, "indexOfSupplementary", "([BIII)I"⟩
abbrev cJ2_charAt_3b067 : ByteArray := prog_20_method_83_code
def yJ2_charAt_3b067 : MethodName := ⟨RJ2, "charAt", "([BI)C"⟩
abbrev cJ2_checkIndex_2214a : ByteArray := prog_20_method_91_code
def yJ2_checkIndex_2214a : MethodName := ⟨RJ2, "checkIndex", "(I[B)V"⟩
abbrev cJ2_checkBoundsBeginEnd_d044e : ByteArray := prog_20_method_93_code
def yJ2_checkBoundsBeginEnd_d044e : MethodName := ⟨RJ2, "checkBoundsBeginEnd", "(II[B)V"⟩
def RJ10 : String := "java/lang/System"
def TJ10 : u_T := fun k => match k with
  | _ => ("", "", "", false)
def tyJ10 : Nat → FieldType := fun k => match k with
  | _ => .int
abbrev wsJ100 : List Cond := u_ws RJ10 TJ10 0
theorem nmJ10 : ∀ a, a < 0 → ∀ b, b < 0 → a ≠ b → (TJ10 a).2.1 ≠ (TJ10 b).2.1 := by decide +kernel
theorem tyJ10_ok : ∀ k, k < 0 → parseFieldDescriptor (TJ10 k).2.2.1 = some (tyJ10 k) := by decide +kernel
def RJxfd54e : String := "java/lang/constant/Constable"
def TJxfd54e : u_T := fun k => match k with
  | _ => ("", "", "", false)
def tyJxfd54e : Nat → FieldType := fun k => match k with
  | _ => .int
abbrev wsJxfd54e0 : List Cond := u_ws RJxfd54e TJxfd54e 0
theorem nmJxfd54e : ∀ a, a < 0 → ∀ b, b < 0 → a ≠ b → (TJxfd54e a).2.1 ≠ (TJxfd54e b).2.1 := by decide +kernel
theorem tyJxfd54e_ok : ∀ k, k < 0 → parseFieldDescriptor (TJxfd54e k).2.2.1 = some (tyJxfd54e k) := by decide +kernel
def RJx3cf43 : String := "java/lang/constant/ConstantDesc"
def TJx3cf43 : u_T := fun k => match k with
  | _ => ("", "", "", false)
def tyJx3cf43 : Nat → FieldType := fun k => match k with
  | _ => .int
abbrev wsJx3cf430 : List Cond := u_ws RJx3cf43 TJx3cf43 0
theorem nmJx3cf43 : ∀ a, a < 0 → ∀ b, b < 0 → a ≠ b → (TJx3cf43 a).2.1 ≠ (TJx3cf43 b).2.1 := by decide +kernel
theorem tyJx3cf43_ok : ∀ k, k < 0 → parseFieldDescriptor (TJx3cf43 k).2.2.1 = some (tyJx3cf43 k) := by decide +kernel
def RJ7 : String := "java/util/Arrays"
def TJ7 : u_T := fun k => match k with
  | _ => ("", "", "", false)
def tyJ7 : Nat → FieldType := fun k => match k with
  | _ => .int
abbrev wsJ70 : List Cond := u_ws RJ7 TJ7 0
theorem nmJ7 : ∀ a, a < 0 → ∀ b, b < 0 → a ≠ b → (TJ7 a).2.1 ≠ (TJ7 b).2.1 := by decide +kernel
theorem tyJ7_ok : ∀ k, k < 0 → parseFieldDescriptor (TJ7 k).2.2.1 = some (tyJ7 k) := by decide +kernel
abbrev cJ7_rangeCheck_23922 : ByteArray := prog_22_method_30_code
def yJ7_rangeCheck_23922 : MethodName := ⟨RJ7, "rangeCheck", "(III)V"⟩
abbrev cJ7_fill_d0a16 : ByteArray := prog_22_method_101_code
def yJ7_fill_d0a16 : MethodName := ⟨RJ7, "fill", "([JJ)V"⟩
abbrev cJ7_fill_53178 : ByteArray := prog_22_method_103_code
def yJ7_fill_53178 : MethodName := ⟨RJ7, "fill", "([II)V"⟩
abbrev cJ7_fill_fda19 : ByteArray := prog_22_method_104_code
def yJ7_fill_fda19 : MethodName := ⟨RJ7, "fill", "([IIII)V"⟩
def RJ3 : String := "jdk/internal/util/Preconditions"
def TJ3 : u_T := fun k => match k with
  | _ => ("", "", "", false)
def tyJ3 : Nat → FieldType := fun k => match k with
  | _ => .int
abbrev wsJ30 : List Cond := u_ws RJ3 TJ3 0
theorem nmJ3 : ∀ a, a < 0 → ∀ b, b < 0 → a ≠ b → (TJ3 a).2.1 ≠ (TJ3 b).2.1 := by decide +kernel
theorem tyJ3_ok : ∀ k, k < 0 → parseFieldDescriptor (TJ3 k).2.2.1 = some (tyJ3 k) := by decide +kernel
abbrev cJ3_checkIndex_8e157 : ByteArray := prog_23_method_11_code
def yJ3_checkIndex_8e157 : MethodName := ⟨RJ3, "checkIndex", "(IILjava/util/function/BiFunction;)I"⟩
abbrev cJ3_checkFromToIndex_8c36e : ByteArray := prog_23_method_12_code
def yJ3_checkFromToIndex_8c36e : MethodName := ⟨RJ3, "checkFromToIndex", "(IIILjava/util/function/BiFunction;)I"⟩
def RL : String := "EvenTenLaw"
abbrev cL_law : ByteArray := code
def yL_law : MethodName := ⟨RL, "law", "([I)Z"⟩
abbrev vwCl : List vw_C := [(RX0, TX0, 3), (RX1, TX1, 4), (RX2, TX2, 4), (RX3, TX3, 4), (RX4, TX4, 6), (RX5, TX5, 3), (RX6, TX6, 7), (RX7, TX7, 2), (RX8, TX8, 2), (RX9, TX9, 4), (RX10, TX10, 6), (RX11, TX11, 11), (RX12, TX12, 24)]
