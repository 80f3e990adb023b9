section
-- ===== PART A: goes FIRST, ahead of the names: the tables' words, and 'selects' of the private methods out of them =====
/-- a private method of a class that the tables say can be made, by its rows of tables_1 -/
def lw_okq (q : MethodName × Nat) : Prop := (q.1.cls ≠ "java/lang/invoke/MethodHandle" ∧ q.1.cls ≠ "java/lang/invoke/VarHandle") ∧ Cond.instantiable q.1.cls q.2 ∈ tables_1 ∧ Cond.privateMethod q.1 ∈ tables_1 ∧ Cond.instanceMethod q.1 ∈ tables_1
theorem lw_p0 : lw_okq (⟨"OutboxHouse$Source", "finish", "(II)V"⟩, 6) := ⟨⟨by decide +kernel, by decide +kernel⟩, List.mem_of_getElem? (i := 47) (by decide +kernel), List.mem_of_getElem? (i := 289) (by decide +kernel), List.mem_of_getElem? (i := 290) (by decide +kernel)⟩
theorem lw_p1 : lw_okq (⟨"OutboxHouse$Relay", "readOne", "()Z"⟩, 6) := ⟨⟨by decide +kernel, by decide +kernel⟩, List.mem_of_getElem? (i := 79) (by decide +kernel), List.mem_of_getElem? (i := 370) (by decide +kernel), List.mem_of_getElem? (i := 371) (by decide +kernel)⟩
theorem lw_p2 : lw_okq (⟨"OutboxHouse$Target", "doNow", "(LOutboxHouse$Change;)V"⟩, 7) := ⟨⟨by decide +kernel, by decide +kernel⟩, List.mem_of_getElem? (i := 128) (by decide +kernel), List.mem_of_getElem? (i := 429) (by decide +kernel), List.mem_of_getElem? (i := 430) (by decide +kernel)⟩
theorem lw_p3 : lw_okq (⟨"OutboxHouse$Target", "doHeldThatFollow", "(I)V"⟩, 7) := ⟨⟨by decide +kernel, by decide +kernel⟩, List.mem_of_getElem? (i := 128) (by decide +kernel), List.mem_of_getElem? (i := 439) (by decide +kernel), List.mem_of_getElem? (i := 440) (by decide +kernel)⟩
theorem lw_p4 : lw_okq (⟨"OutboxHouse", "deliverAll", "()V"⟩, 5) := ⟨⟨by decide +kernel, by decide +kernel⟩, List.mem_of_getElem? (i := 13) (by decide +kernel), List.mem_of_getElem? (i := 477) (by decide +kernel), List.mem_of_getElem? (i := 478) (by decide +kernel)⟩
theorem lw_p5 : lw_okq (⟨"OutboxHouseModel", "clears", "(I)V"⟩, 35) := ⟨⟨by decide +kernel, by decide +kernel⟩, List.mem_of_getElem? (i := 512) (by decide +kernel), List.mem_of_getElem? (i := 628) (by decide +kernel), List.mem_of_getElem? (i := 629) (by decide +kernel)⟩
theorem lw_p6 : lw_okq (⟨"OutboxHouseModel", "isTransaction", "(I)Z"⟩, 35) := ⟨⟨by decide +kernel, by decide +kernel⟩, List.mem_of_getElem? (i := 512) (by decide +kernel), List.mem_of_getElem? (i := 636) (by decide +kernel), List.mem_of_getElem? (i := 637) (by decide +kernel)⟩
theorem lw_p7 : lw_okq (⟨"OutboxHouseModel", "writer", "(I)I"⟩, 35) := ⟨⟨by decide +kernel, by decide +kernel⟩, List.mem_of_getElem? (i := 512) (by decide +kernel), List.mem_of_getElem? (i := 646) (by decide +kernel), List.mem_of_getElem? (i := 647) (by decide +kernel)⟩
theorem lw_p8 : lw_okq (⟨"OutboxHouseModel", "isUnderWay", "(I)Z"⟩, 35) := ⟨⟨by decide +kernel, by decide +kernel⟩, List.mem_of_getElem? (i := 512) (by decide +kernel), List.mem_of_getElem? (i := 650) (by decide +kernel), List.mem_of_getElem? (i := 651) (by decide +kernel)⟩
theorem lw_p9 : lw_okq (⟨"OutboxHouseModel", "writtenBy", "(I)I"⟩, 35) := ⟨⟨by decide +kernel, by decide +kernel⟩, List.mem_of_getElem? (i := 512) (by decide +kernel), List.mem_of_getElem? (i := 662) (by decide +kernel), List.mem_of_getElem? (i := 663) (by decide +kernel)⟩
theorem lw_p10 : lw_okq (⟨"OutboxHouseModel", "crashSource", "()I"⟩, 35) := ⟨⟨by decide +kernel, by decide +kernel⟩, List.mem_of_getElem? (i := 512) (by decide +kernel), List.mem_of_getElem? (i := 678) (by decide +kernel), List.mem_of_getElem? (i := 679) (by decide +kernel)⟩
theorem lw_p11 : lw_okq (⟨"OutboxHouseModel", "crashTarget", "()I"⟩, 35) := ⟨⟨by decide +kernel, by decide +kernel⟩, List.mem_of_getElem? (i := 512) (by decide +kernel), List.mem_of_getElem? (i := 682) (by decide +kernel), List.mem_of_getElem? (i := 683) (by decide +kernel)⟩
theorem lw_p12 : lw_okq (⟨"OutboxHouseModel", "relays", "(I)I"⟩, 35) := ⟨⟨by decide +kernel, by decide +kernel⟩, List.mem_of_getElem? (i := 512) (by decide +kernel), List.mem_of_getElem? (i := 698) (by decide +kernel), List.mem_of_getElem? (i := 699) (by decide +kernel)⟩
theorem lw_p13 : lw_okq (⟨"OutboxHouseModel", "isLetter", "(II)Z"⟩, 35) := ⟨⟨by decide +kernel, by decide +kernel⟩, List.mem_of_getElem? (i := 512) (by decide +kernel), List.mem_of_getElem? (i := 710) (by decide +kernel), List.mem_of_getElem? (i := 711) (by decide +kernel)⟩
theorem lw_p14 : lw_okq (⟨"OutboxHouseModel", "delivers", "(IIZ)I"⟩, 35) := ⟨⟨by decide +kernel, by decide +kernel⟩, List.mem_of_getElem? (i := 512) (by decide +kernel), List.mem_of_getElem? (i := 717) (by decide +kernel), List.mem_of_getElem? (i := 718) (by decide +kernel)⟩
theorem lw_p15 : lw_okq (⟨"OutboxHouseModel", "takesOut", "(II)V"⟩, 35) := ⟨⟨by decide +kernel, by decide +kernel⟩, List.mem_of_getElem? (i := 512) (by decide +kernel), List.mem_of_getElem? (i := 721) (by decide +kernel), List.mem_of_getElem? (i := 722) (by decide +kernel)⟩
def lw_privs_1 : List (MethodName × Nat) := [(⟨"OutboxHouse$Source", "finish", "(II)V"⟩, 6), (⟨"OutboxHouse$Relay", "readOne", "()Z"⟩, 6), (⟨"OutboxHouse$Target", "doNow", "(LOutboxHouse$Change;)V"⟩, 7), (⟨"OutboxHouse$Target", "doHeldThatFollow", "(I)V"⟩, 7), (⟨"OutboxHouse", "deliverAll", "()V"⟩, 5), (⟨"OutboxHouseModel", "clears", "(I)V"⟩, 35), (⟨"OutboxHouseModel", "isTransaction", "(I)Z"⟩, 35), (⟨"OutboxHouseModel", "writer", "(I)I"⟩, 35), (⟨"OutboxHouseModel", "isUnderWay", "(I)Z"⟩, 35), (⟨"OutboxHouseModel", "writtenBy", "(I)I"⟩, 35), (⟨"OutboxHouseModel", "crashSource", "()I"⟩, 35), (⟨"OutboxHouseModel", "crashTarget", "()I"⟩, 35), (⟨"OutboxHouseModel", "relays", "(I)I"⟩, 35), (⟨"OutboxHouseModel", "isLetter", "(II)Z"⟩, 35), (⟨"OutboxHouseModel", "delivers", "(IIZ)I"⟩, 35), (⟨"OutboxHouseModel", "takesOut", "(II)V"⟩, 35)]
theorem lw_r1 : ∀ q ∈ lw_privs_1, lw_okq q := List.forall_mem_cons.mpr ⟨lw_p0, List.forall_mem_cons.mpr ⟨lw_p1, List.forall_mem_cons.mpr ⟨lw_p2, List.forall_mem_cons.mpr ⟨lw_p3, List.forall_mem_cons.mpr ⟨lw_p4, List.forall_mem_cons.mpr ⟨lw_p5, List.forall_mem_cons.mpr ⟨lw_p6, List.forall_mem_cons.mpr ⟨lw_p7, List.forall_mem_cons.mpr ⟨lw_p8, List.forall_mem_cons.mpr ⟨lw_p9, List.forall_mem_cons.mpr ⟨lw_p10, List.forall_mem_cons.mpr ⟨lw_p11, List.forall_mem_cons.mpr ⟨lw_p12, List.forall_mem_cons.mpr ⟨lw_p13, List.forall_mem_cons.mpr ⟨lw_p14, List.forall_mem_cons.mpr ⟨lw_p15, fun _ h => absurd h List.not_mem_nil⟩⟩⟩⟩⟩⟩⟩⟩⟩⟩⟩⟩⟩⟩⟩⟩
theorem lw_p16 : lw_okq (⟨"OutboxHouseModel", "hears", "(IIII)I"⟩, 35) := ⟨⟨by decide +kernel, by decide +kernel⟩, List.mem_of_getElem? (i := 512) (by decide +kernel), List.mem_of_getElem? (i := 725) (by decide +kernel), List.mem_of_getElem? (i := 726) (by decide +kernel)⟩
theorem lw_p17 : lw_okq (⟨"OutboxHouseModel", "findHeld", "(II)I"⟩, 35) := ⟨⟨by decide +kernel, by decide +kernel⟩, List.mem_of_getElem? (i := 512) (by decide +kernel), List.mem_of_getElem? (i := 729) (by decide +kernel), List.mem_of_getElem? (i := 730) (by decide +kernel)⟩
theorem lw_p18 : lw_okq (⟨"OutboxHouseModel", "does", "(III)V"⟩, 35) := ⟨⟨by decide +kernel, by decide +kernel⟩, List.mem_of_getElem? (i := 512) (by decide +kernel), List.mem_of_getElem? (i := 733) (by decide +kernel), List.mem_of_getElem? (i := 734) (by decide +kernel)⟩
theorem lw_p19 : lw_okq (⟨"OutboxHouseModel", "letsGo", "(I)V"⟩, 35) := ⟨⟨by decide +kernel, by decide +kernel⟩, List.mem_of_getElem? (i := 512) (by decide +kernel), List.mem_of_getElem? (i := 737) (by decide +kernel), List.mem_of_getElem? (i := 738) (by decide +kernel)⟩
theorem lw_p20 : lw_okq (⟨"OutboxHouseModel", "saves", "()I"⟩, 35) := ⟨⟨by decide +kernel, by decide +kernel⟩, List.mem_of_getElem? (i := 512) (by decide +kernel), List.mem_of_getElem? (i := 753) (by decide +kernel), List.mem_of_getElem? (i := 754) (by decide +kernel)⟩
theorem lw_p21 : lw_okq (⟨"OutboxHouseModel", "acks", "(Z)I"⟩, 35) := ⟨⟨by decide +kernel, by decide +kernel⟩, List.mem_of_getElem? (i := 512) (by decide +kernel), List.mem_of_getElem? (i := 761) (by decide +kernel), List.mem_of_getElem? (i := 762) (by decide +kernel)⟩
theorem lw_p22 : lw_okq (⟨"OutboxHouseModel", "toAck", "()I"⟩, 35) := ⟨⟨by decide +kernel, by decide +kernel⟩, List.mem_of_getElem? (i := 512) (by decide +kernel), List.mem_of_getElem? (i := 765) (by decide +kernel), List.mem_of_getElem? (i := 766) (by decide +kernel)⟩
theorem lw_p23 : lw_okq (⟨"OutboxHouseModel", "hasPrefix", "(III)Z"⟩, 35) := ⟨⟨by decide +kernel, by decide +kernel⟩, List.mem_of_getElem? (i := 512) (by decide +kernel), List.mem_of_getElem? (i := 781) (by decide +kernel), List.mem_of_getElem? (i := 782) (by decide +kernel)⟩
def lw_privs_2 : List (MethodName × Nat) := [(⟨"OutboxHouseModel", "hears", "(IIII)I"⟩, 35), (⟨"OutboxHouseModel", "findHeld", "(II)I"⟩, 35), (⟨"OutboxHouseModel", "does", "(III)V"⟩, 35), (⟨"OutboxHouseModel", "letsGo", "(I)V"⟩, 35), (⟨"OutboxHouseModel", "saves", "()I"⟩, 35), (⟨"OutboxHouseModel", "acks", "(Z)I"⟩, 35), (⟨"OutboxHouseModel", "toAck", "()I"⟩, 35), (⟨"OutboxHouseModel", "hasPrefix", "(III)Z"⟩, 35)]
theorem lw_r2 : ∀ q ∈ lw_privs_2, lw_okq q := List.forall_mem_cons.mpr ⟨lw_p16, List.forall_mem_cons.mpr ⟨lw_p17, List.forall_mem_cons.mpr ⟨lw_p18, List.forall_mem_cons.mpr ⟨lw_p19, List.forall_mem_cons.mpr ⟨lw_p20, List.forall_mem_cons.mpr ⟨lw_p21, List.forall_mem_cons.mpr ⟨lw_p22, List.forall_mem_cons.mpr ⟨lw_p23, fun _ h => absurd h List.not_mem_nil⟩⟩⟩⟩⟩⟩⟩⟩
def lw_privs : List (MethodName × Nat) := lw_privs_1 ++ (lw_privs_2)
def lw_tbl : List Cond := k2_sels lw_privs ++ tables_1
theorem lw_privs_ok : ∀ q ∈ lw_privs, lw_okq q := by
  show ∀ q ∈ lw_privs_1 ++ (lw_privs_2), lw_okq q
  exact List.forall_mem_append.mpr ⟨lw_r1, lw_r2⟩
-- ===== end of PART A; then your names; then what follows =====
end
section
/-! ===== BEGIN words of one list among another's, by their places ===== -/
theorem goodIn_r {big : List Cond} (ws : List Cond) (ps : List Nat) (hp : ws = ps.filterMap (fun i => big[i]?)) (h : ws.all goodWord = true) : GoodIn big ws := by
  intro w hw
  have h1 := List.all_eq_true.mp h w hw
  rw [hp] at hw
  obtain ⟨i, -, hi⟩ := List.mem_filterMap.mp hw
  have hm : w ∈ big := by first | exact List.mem_of_getElem? hi | exact List.getElem?_mem hi
  exact ⟨hm, good_of_word h1⟩
theorem goodIn_app {big a b : List Cond} (ha : GoodIn big a) (hb : GoodIn big b) : GoodIn big (a ++ b) := fun w h => (List.mem_append.mp h).elim (ha w) (hb w)
theorem goodIn_ca {big a b : List Cond} {c : Cond} (ha : GoodIn big (c :: a)) (hb : GoodIn big b) : GoodIn big (c :: (a ++ b)) := fun w h => (List.mem_cons.mp h).elim (fun e => ha w (List.mem_cons.mpr (Or.inl e))) (fun h => (List.mem_append.mp h).elim (fun h => ha w (List.mem_cons.mpr (Or.inr h))) (hb w))
theorem goodIn_sub {big ws : List Cond} (hm : ∀ w ∈ ws, w ∈ big) (h : ws.all goodWord = true) : GoodIn big ws := fun w hw => ⟨hm w hw, good_of_word (List.all_eq_true.mp h w hw)⟩
/-! ===== END ===== -/

/-! ===== BEGIN printed: names, fields, word lists, decode rows ===== -/
def RX0 : String := "OutboxHouse$Change"
def TX0 : u_T := fun k => match k with
  | 0 => ("OutboxHouse$Change", "place", "I", true)
  | 1 => ("OutboxHouse$Change", "key", "I", true)
  | 2 => ("OutboxHouse$Change", "value", "I", true)
  | 3 => ("OutboxHouse$Change", "order", "I", true)
  | _ => ("OutboxHouse$Change", "last", "Z", true)
def tyX0 : Nat → FieldType := fun k => match k with
  | 0 => .int
  | 1 => .int
  | 2 => .int
  | 3 => .int
  | _ => .boolean
abbrev wsX00 : List Cond := u_ws RX0 TX0 5
theorem nmX0 : ∀ a, a < 5 → ∀ b, b < 5 → a ≠ b → (TX0 a).2.1 ≠ (TX0 b).2.1 := by decide +kernel
theorem tyX0_ok : ∀ k, k < 5 → parseFieldDescriptor (TX0 k).2.2.1 = some (tyX0 k) := by decide +kernel
abbrev cX0_init : ByteArray := prog_2_method_1_code
def yX0_init : MethodName := ⟨RX0, "<init>", "(IIIIZ)V"⟩
def RX1 : String := "OutboxHouse$ChangeLog"
def TX1 : u_T := fun k => match k with
  | 0 => ("OutboxHouse$ChangeLog", "rows", "[LOutboxHouse$Change;", true)
  | 1 => ("OutboxHouse$ChangeLog", "first", "I", false)
  | 2 => ("OutboxHouse$ChangeLog", "flushed", "I", false)
  | _ => ("OutboxHouse$ChangeLog", "end", "I", false)
def tyX1 : Nat → FieldType := fun k => match k with
  | 0 => .array (.object "OutboxHouse$Change")
  | 1 => .int
  | 2 => .int
  | _ => .int
abbrev wsX10 : List Cond := u_ws RX1 TX1 4
theorem nmX1 : ∀ a, a < 4 → ∀ b, b < 4 → a ≠ b → (TX1 a).2.1 ≠ (TX1 b).2.1 := by decide +kernel
theorem tyX1_ok : ∀ k, k < 4 → parseFieldDescriptor (TX1 k).2.2.1 = some (tyX1 k) := by decide +kernel
abbrev cX1_init : ByteArray := prog_3_method_1_code
def yX1_init : MethodName := ⟨RX1, "<init>", "()V"⟩
abbrev cX1_hasRoomFor : ByteArray := prog_3_method_2_code
def yX1_hasRoomFor : MethodName := ⟨RX1, "hasRoomFor", "(I)Z"⟩
abbrev cX1_append : ByteArray := prog_3_method_3_code
def yX1_append : MethodName := ⟨RX1, "append", "(IIIZ)V"⟩
abbrev cX1_at : ByteArray := prog_3_method_4_code
def yX1_at : MethodName := ⟨RX1, "at", "(I)LOutboxHouse$Change;"⟩
abbrev cX1_flushedAt : ByteArray := prog_3_method_5_code
def yX1_flushedAt : MethodName := ⟨RX1, "flushedAt", "(I)LOutboxHouse$Change;"⟩
abbrev cX1_isFlushed : ByteArray := prog_3_method_6_code
def yX1_isFlushed : MethodName := ⟨RX1, "isFlushed", "(I)Z"⟩
abbrev cX1_isCut : ByteArray := prog_3_method_7_code
def yX1_isCut : MethodName := ⟨RX1, "isCut", "(I)Z"⟩
abbrev cX1_dropUnflushed : ByteArray := prog_3_method_8_code
def yX1_dropUnflushed : MethodName := ⟨RX1, "dropUnflushed", "()I"⟩
abbrev cX1_cutUpTo : ByteArray := prog_3_method_9_code
def yX1_cutUpTo : MethodName := ⟨RX1, "cutUpTo", "(I)I"⟩
def RX2 : String := "OutboxHouse$Relay"
def TX2 : u_T := fun k => match k with
  | 0 => ("OutboxHouse$Relay", "changes", "LOutboxHouse$ChangeLog;", true)
  | 1 => ("OutboxHouse$Relay", "lanes", "[LOutboxHouse$Row;", true)
  | 2 => ("OutboxHouse$Relay", "position", "I", false)
  | 3 => ("OutboxHouse$Relay", "mark", "I", false)
  | 4 => ("OutboxHouse$Relay", "sentEver", "I", false)
  | _ => ("OutboxHouse$Relay", "lostUnderWay", "I", false)
def tyX2 : Nat → FieldType := fun k => match k with
  | 0 => .object "OutboxHouse$ChangeLog"
  | 1 => .array (.object "OutboxHouse$Row")
  | 2 => .int
  | 3 => .int
  | 4 => .int
  | _ => .int
abbrev wsX20 : List Cond := u_ws RX2 TX2 6
theorem nmX2 : ∀ a, a < 6 → ∀ b, b < 6 → a ≠ b → (TX2 a).2.1 ≠ (TX2 b).2.1 := by decide +kernel
theorem tyX2_ok : ∀ k, k < 6 → parseFieldDescriptor (TX2 k).2.2.1 = some (tyX2 k) := by decide +kernel
abbrev cX2_init : ByteArray := prog_4_method_1_code
def yX2_init : MethodName := ⟨RX2, "<init>", "(LOutboxHouse$ChangeLog;)V"⟩
abbrev cX2_readOn : ByteArray := prog_4_method_2_code
def yX2_readOn : MethodName := ⟨RX2, "readOn", "(I)I"⟩
abbrev cX2_readOne : ByteArray := prog_4_method_3_code
def yX2_readOne : MethodName := ⟨RX2, "readOne", "()Z"⟩
abbrev cX2_letterAt : ByteArray := prog_4_method_4_code
def yX2_letterAt : MethodName := ⟨RX2, "letterAt", "(II)LOutboxHouse$Change;"⟩
abbrev cX2_dropLetter : ByteArray := prog_4_method_5_code
def yX2_dropLetter : MethodName := ⟨RX2, "dropLetter", "(II)V"⟩
abbrev cX2_hear : ByteArray := prog_4_method_6_code
def yX2_hear : MethodName := ⟨RX2, "hear", "(I)V"⟩
abbrev cX2_restart : ByteArray := prog_4_method_7_code
def yX2_restart : MethodName := ⟨RX2, "restart", "()I"⟩
abbrev cX2_lettersUnderWay : ByteArray := prog_4_method_8_code
def yX2_lettersUnderWay : MethodName := ⟨RX2, "lettersUnderWay", "()I"⟩
def RX3 : String := "OutboxHouse$Row"
def TX3 : u_T := fun k => match k with
  | 0 => ("OutboxHouse$Row", "slots", "[LOutboxHouse$Change;", true)
  | _ => ("OutboxHouse$Row", "size", "I", false)
def tyX3 : Nat → FieldType := fun k => match k with
  | 0 => .array (.object "OutboxHouse$Change")
  | _ => .int
abbrev wsX30 : List Cond := u_ws RX3 TX3 2
theorem nmX3 : ∀ a, a < 2 → ∀ b, b < 2 → a ≠ b → (TX3 a).2.1 ≠ (TX3 b).2.1 := by decide +kernel
theorem tyX3_ok : ∀ k, k < 2 → parseFieldDescriptor (TX3 k).2.2.1 = some (tyX3 k) := by decide +kernel
abbrev cX3_init : ByteArray := prog_5_method_1_code
def yX3_init : MethodName := ⟨RX3, "<init>", "(I)V"⟩
abbrev cX3_isFull : ByteArray := prog_5_method_2_code
def yX3_isFull : MethodName := ⟨RX3, "isFull", "()Z"⟩
abbrev cX3_add : ByteArray := prog_5_method_3_code
def yX3_add : MethodName := ⟨RX3, "add", "(LOutboxHouse$Change;)V"⟩
abbrev cX3_at : ByteArray := prog_5_method_4_code
def yX3_at : MethodName := ⟨RX3, "at", "(I)LOutboxHouse$Change;"⟩
abbrev cX3_remove : ByteArray := prog_5_method_5_code
def yX3_remove : MethodName := ⟨RX3, "remove", "(I)V"⟩
abbrev cX3_find : ByteArray := prog_5_method_6_code
def yX3_find : MethodName := ⟨RX3, "find", "(II)I"⟩
abbrev cX3_clear : ByteArray := prog_5_method_7_code
def yX3_clear : MethodName := ⟨RX3, "clear", "()V"⟩
def RX4 : String := "OutboxHouse$Source"
def TX4 : u_T := fun k => match k with
  | 0 => ("OutboxHouse$Source", "changes", "LOutboxHouse$ChangeLog;", true)
  | 1 => ("OutboxHouse$Source", "values", "[I", true)
  | 2 => ("OutboxHouse$Source", "counts", "[I", true)
  | 3 => ("OutboxHouse$Source", "owners", "[I", true)
  | 4 => ("OutboxHouse$Source", "drafts", "[I", true)
  | _ => ("OutboxHouse$Source", "open", "[Z", true)
def tyX4 : Nat → FieldType := fun k => match k with
  | 0 => .object "OutboxHouse$ChangeLog"
  | 1 => .array .int
  | 2 => .array .int
  | 3 => .array .int
  | 4 => .array .int
  | _ => .array .boolean
abbrev wsX40 : List Cond := u_ws RX4 TX4 6
theorem nmX4 : ∀ a, a < 6 → ∀ b, b < 6 → a ≠ b → (TX4 a).2.1 ≠ (TX4 b).2.1 := by decide +kernel
theorem tyX4_ok : ∀ k, k < 6 → parseFieldDescriptor (TX4 k).2.2.1 = some (tyX4 k) := by decide +kernel
abbrev cX4_init : ByteArray := prog_6_method_1_code
def yX4_init : MethodName := ⟨RX4, "<init>", "(LOutboxHouse$ChangeLog;)V"⟩
abbrev cX4_isOpen : ByteArray := prog_6_method_2_code
def yX4_isOpen : MethodName := ⟨RX4, "isOpen", "(I)Z"⟩
abbrev cX4_openFirstFree : ByteArray := prog_6_method_3_code
def yX4_openFirstFree : MethodName := ⟨RX4, "openFirstFree", "()I"⟩
abbrev cX4_openTransactions : ByteArray := prog_6_method_4_code
def yX4_openTransactions : MethodName := ⟨RX4, "openTransactions", "()I"⟩
abbrev cX4_draft : ByteArray := prog_6_method_5_code
def yX4_draft : MethodName := ⟨RX4, "draft", "(III)Z"⟩
abbrev cX4_seenBy : ByteArray := prog_6_method_6_code
def yX4_seenBy : MethodName := ⟨RX4, "seenBy", "(II)I"⟩
abbrev cX4_lockedKeys : ByteArray := prog_6_method_7_code
def yX4_lockedKeys : MethodName := ⟨RX4, "lockedKeys", "(I)I"⟩
abbrev cX4_lockOf : ByteArray := prog_6_method_8_code
def yX4_lockOf : MethodName := ⟨RX4, "lockOf", "(I)I"⟩
abbrev cX4_putIntoLog : ByteArray := prog_6_method_9_code
def yX4_putIntoLog : MethodName := ⟨RX4, "putIntoLog", "(II)V"⟩
abbrev cX4_giveUp : ByteArray := prog_6_method_10_code
def yX4_giveUp : MethodName := ⟨RX4, "giveUp", "(I)V"⟩
abbrev cX4_finish : ByteArray := prog_6_method_11_code
def yX4_finish : MethodName := ⟨RX4, "finish", "(II)V"⟩
abbrev cX4_flushChanges : ByteArray := prog_6_method_12_code
def yX4_flushChanges : MethodName := ⟨RX4, "flushChanges", "()I"⟩
abbrev cX4_restart : ByteArray := prog_6_method_13_code
def yX4_restart : MethodName := ⟨RX4, "restart", "()I"⟩
def RX5 : String := "OutboxHouse$Target"
def TX5 : u_T := fun k => match k with
  | 0 => ("OutboxHouse$Target", "changes", "LOutboxHouse$ChangeLog;", true)
  | 1 => ("OutboxHouse$Target", "memory", "LOutboxHouse$TargetState;", true)
  | 2 => ("OutboxHouse$Target", "disk", "LOutboxHouse$TargetState;", true)
  | 3 => ("OutboxHouse$Target", "held", "LOutboxHouse$Row;", true)
  | 4 => ("OutboxHouse$Target", "doneEver", "I", false)
  | 5 => ("OutboxHouse$Target", "twiceEver", "I", false)
  | _ => ("OutboxHouse$Target", "lostForRoom", "I", false)
def tyX5 : Nat → FieldType := fun k => match k with
  | 0 => .object "OutboxHouse$ChangeLog"
  | 1 => .object "OutboxHouse$TargetState"
  | 2 => .object "OutboxHouse$TargetState"
  | 3 => .object "OutboxHouse$Row"
  | 4 => .int
  | 5 => .int
  | _ => .int
abbrev wsX50 : List Cond := u_ws RX5 TX5 7
theorem nmX5 : ∀ a, a < 7 → ∀ b, b < 7 → a ≠ b → (TX5 a).2.1 ≠ (TX5 b).2.1 := by decide +kernel
theorem tyX5_ok : ∀ k, k < 7 → parseFieldDescriptor (TX5 k).2.2.1 = some (tyX5 k) := by decide +kernel
abbrev cX5_init : ByteArray := prog_7_method_1_code
def yX5_init : MethodName := ⟨RX5, "<init>", "(LOutboxHouse$ChangeLog;)V"⟩
abbrev cX5_take : ByteArray := prog_7_method_2_code
def yX5_take : MethodName := ⟨RX5, "take", "(LOutboxHouse$Change;)I"⟩
abbrev cX5_doNow : ByteArray := prog_7_method_3_code
def yX5_doNow : MethodName := ⟨RX5, "doNow", "(LOutboxHouse$Change;)V"⟩
abbrev cX5_doHeldThatFollow : ByteArray := prog_7_method_4_code
def yX5_doHeldThatFollow : MethodName := ⟨RX5, "doHeldThatFollow", "(I)V"⟩
abbrev cX5_saveMemory : ByteArray := prog_7_method_5_code
def yX5_saveMemory : MethodName := ⟨RX5, "saveMemory", "()I"⟩
abbrev cX5_restart : ByteArray := prog_7_method_6_code
def yX5_restart : MethodName := ⟨RX5, "restart", "()I"⟩
abbrev cX5_diskIsWhole : ByteArray := prog_7_method_7_code
def yX5_diskIsWhole : MethodName := ⟨RX5, "diskIsWhole", "()Z"⟩
def RX6 : String := "OutboxHouse$TargetState"
def TX6 : u_T := fun k => match k with
  | 0 => ("OutboxHouse$TargetState", "values", "[I", true)
  | 1 => ("OutboxHouse$TargetState", "done", "[I", true)
  | _ => ("OutboxHouse$TargetState", "upTo", "I", false)
def tyX6 : Nat → FieldType := fun k => match k with
  | 0 => .array .int
  | 1 => .array .int
  | _ => .int
abbrev wsX60 : List Cond := u_ws RX6 TX6 3
theorem nmX6 : ∀ a, a < 3 → ∀ b, b < 3 → a ≠ b → (TX6 a).2.1 ≠ (TX6 b).2.1 := by decide +kernel
theorem tyX6_ok : ∀ k, k < 3 → parseFieldDescriptor (TX6 k).2.2.1 = some (tyX6 k) := by decide +kernel
abbrev cX6_init : ByteArray := prog_8_method_1_code
def yX6_init : MethodName := ⟨RX6, "<init>", "()V"⟩
abbrev cX6_has : ByteArray := prog_8_method_2_code
def yX6_has : MethodName := ⟨RX6, "has", "(LOutboxHouse$Change;)Z"⟩
abbrev cX6_apply : ByteArray := prog_8_method_3_code
def yX6_apply : MethodName := ⟨RX6, "apply", "(LOutboxHouse$Change;LOutboxHouse$ChangeLog;)V"⟩
abbrev cX6_become : ByteArray := prog_8_method_4_code
def yX6_become : MethodName := ⟨RX6, "become", "(LOutboxHouse$TargetState;)I"⟩
abbrev cX6_isAsFlushed : ByteArray := prog_8_method_5_code
def yX6_isAsFlushed : MethodName := ⟨RX6, "isAsFlushed", "(LOutboxHouse$ChangeLog;)Z"⟩
def RX7 : String := "OutboxHouse"
def TX7 : u_T := fun k => match k with
  | 0 => ("OutboxHouse", "changes", "LOutboxHouse$ChangeLog;", true)
  | 1 => ("OutboxHouse", "source", "LOutboxHouse$Source;", true)
  | 2 => ("OutboxHouse", "reader", "LOutboxHouse$Relay;", true)
  | 3 => ("OutboxHouse", "target", "LOutboxHouse$Target;", true)
  | _ => ("OutboxHouse", "crashes", "I", false)
def tyX7 : Nat → FieldType := fun k => match k with
  | 0 => .object "OutboxHouse$ChangeLog"
  | 1 => .object "OutboxHouse$Source"
  | 2 => .object "OutboxHouse$Relay"
  | 3 => .object "OutboxHouse$Target"
  | _ => .int
abbrev wsX70 : List Cond := u_ws RX7 TX7 5
theorem nmX7 : ∀ a, a < 5 → ∀ b, b < 5 → a ≠ b → (TX7 a).2.1 ≠ (TX7 b).2.1 := by decide +kernel
theorem tyX7_ok : ∀ k, k < 5 → parseFieldDescriptor (TX7 k).2.2.1 = some (tyX7 k) := by decide +kernel
abbrev cX7_init : ByteArray := prog_1_method_1_code
def yX7_init : MethodName := ⟨RX7, "<init>", "()V"⟩
abbrev cX7_begin : ByteArray := prog_1_method_2_code
def yX7_begin : MethodName := ⟨RX7, "begin", "()I"⟩
abbrev cX7_write : ByteArray := prog_1_method_3_code
def yX7_write : MethodName := ⟨RX7, "write", "(III)I"⟩
abbrev cX7_read : ByteArray := prog_1_method_4_code
def yX7_read : MethodName := ⟨RX7, "read", "(II)I"⟩
abbrev cX7_commit : ByteArray := prog_1_method_5_code
def yX7_commit : MethodName := ⟨RX7, "commit", "(I)I"⟩
abbrev cX7_abort : ByteArray := prog_1_method_6_code
def yX7_abort : MethodName := ⟨RX7, "abort", "(I)I"⟩
abbrev cX7_flush : ByteArray := prog_1_method_7_code
def yX7_flush : MethodName := ⟨RX7, "flush", "()I"⟩
abbrev cX7_crash : ByteArray := prog_1_method_8_code
def yX7_crash : MethodName := ⟨RX7, "crash", "(I)I"⟩
abbrev cX7_key : ByteArray := prog_1_method_9_code
def yX7_key : MethodName := ⟨RX7, "key", "(II)I"⟩
abbrev cX7_log : ByteArray := prog_1_method_10_code
def yX7_log : MethodName := ⟨RX7, "log", "(II)I"⟩
abbrev cX7_relay : ByteArray := prog_1_method_11_code
def yX7_relay : MethodName := ⟨RX7, "relay", "(I)I"⟩
abbrev cX7_cut : ByteArray := prog_1_method_12_code
def yX7_cut : MethodName := ⟨RX7, "cut", "()I"⟩
abbrev cX7_deliver : ByteArray := prog_1_method_13_code
def yX7_deliver : MethodName := ⟨RX7, "deliver", "(IIZ)I"⟩
abbrev cX7_lose : ByteArray := prog_1_method_14_code
def yX7_lose : MethodName := ⟨RX7, "lose", "(II)I"⟩
abbrev cX7_letter : ByteArray := prog_1_method_15_code
def yX7_letter : MethodName := ⟨RX7, "letter", "(III)I"⟩
abbrev cX7_save : ByteArray := prog_1_method_16_code
def yX7_save : MethodName := ⟨RX7, "save", "()I"⟩
abbrev cX7_ack : ByteArray := prog_1_method_17_code
def yX7_ack : MethodName := ⟨RX7, "ack", "(Z)I"⟩
abbrev cX7_flow : ByteArray := prog_1_method_18_code
def yX7_flow : MethodName := ⟨RX7, "flow", "(I)I"⟩
abbrev cX7_whole : ByteArray := prog_1_method_19_code
def yX7_whole : MethodName := ⟨RX7, "whole", "()I"⟩
abbrev cX7_prefix : ByteArray := prog_1_method_20_code
def yX7_prefix : MethodName := ⟨RX7, "prefix", "(I)I"⟩
abbrev cX7_count : ByteArray := prog_1_method_21_code
def yX7_count : MethodName := ⟨RX7, "count", "(I)I"⟩
abbrev cX7_deliverAll : ByteArray := prog_1_method_22_code
def yX7_deliverAll : MethodName := ⟨RX7, "deliverAll", "()V"⟩
abbrev cX7_isKey : ByteArray := prog_1_method_23_code
def yX7_isKey : MethodName := ⟨RX7, "isKey", "(I)Z"⟩
abbrev cX7_isLane : ByteArray := prog_1_method_24_code
def yX7_isLane : MethodName := ⟨RX7, "isLane", "(I)Z"⟩
def RX8 : String := "OutboxHouseModel"
def TX8 : u_T := fun k => match k with
  | 0 => ("OutboxHouseModel", "isOpen", "[Z", true)
  | 1 => ("OutboxHouseModel", "wrote", "[Z", true)
  | 2 => ("OutboxHouseModel", "written", "[I", true)
  | 3 => ("OutboxHouseModel", "value", "[I", true)
  | 4 => ("OutboxHouseModel", "counts", "[I", true)
  | 5 => ("OutboxHouseModel", "end", "I", false)
  | 6 => ("OutboxHouseModel", "flushed", "I", false)
  | 7 => ("OutboxHouseModel", "first", "I", false)
  | 8 => ("OutboxHouseModel", "logKey", "[I", true)
  | 9 => ("OutboxHouseModel", "logValue", "[I", true)
  | 10 => ("OutboxHouseModel", "logOrder", "[I", true)
  | 11 => ("OutboxHouseModel", "isLast", "[Z", true)
  | 12 => ("OutboxHouseModel", "position", "I", false)
  | 13 => ("OutboxHouseModel", "mark", "I", false)
  | 14 => ("OutboxHouseModel", "letters", "[I", true)
  | 15 => ("OutboxHouseModel", "letterAt", "[I", true)
  | 16 => ("OutboxHouseModel", "letterKey", "[I", true)
  | 17 => ("OutboxHouseModel", "letterOrder", "[I", true)
  | 18 => ("OutboxHouseModel", "letterValue", "[I", true)
  | 19 => ("OutboxHouseModel", "valueNow", "[I", true)
  | 20 => ("OutboxHouseModel", "doneNow", "[I", true)
  | 21 => ("OutboxHouseModel", "hasNow", "[Z", true)
  | 22 => ("OutboxHouseModel", "valueDisk", "[I", true)
  | 23 => ("OutboxHouseModel", "doneDisk", "[I", true)
  | 24 => ("OutboxHouseModel", "hasDisk", "[Z", true)
  | 25 => ("OutboxHouseModel", "held", "I", false)
  | 26 => ("OutboxHouseModel", "heldKey", "[I", true)
  | 27 => ("OutboxHouseModel", "heldOrder", "[I", true)
  | 28 => ("OutboxHouseModel", "heldValue", "[I", true)
  | 29 => ("OutboxHouseModel", "heldAt", "[I", true)
  | 30 => ("OutboxHouseModel", "sent", "I", false)
  | 31 => ("OutboxHouseModel", "doneEver", "I", false)
  | 32 => ("OutboxHouseModel", "twice", "I", false)
  | 33 => ("OutboxHouseModel", "lost", "I", false)
  | _ => ("OutboxHouseModel", "crashes", "I", false)
def tyX8 : Nat → FieldType := fun k => match k with
  | 0 => .array .boolean
  | 1 => .array .boolean
  | 2 => .array .int
  | 3 => .array .int
  | 4 => .array .int
  | 5 => .int
  | 6 => .int
  | 7 => .int
  | 8 => .array .int
  | 9 => .array .int
  | 10 => .array .int
  | 11 => .array .boolean
  | 12 => .int
  | 13 => .int
  | 14 => .array .int
  | 15 => .array .int
  | 16 => .array .int
  | 17 => .array .int
  | 18 => .array .int
  | 19 => .array .int
  | 20 => .array .int
  | 21 => .array .boolean
  | 22 => .array .int
  | 23 => .array .int
  | 24 => .array .boolean
  | 25 => .int
  | 26 => .array .int
  | 27 => .array .int
  | 28 => .array .int
  | 29 => .array .int
  | 30 => .int
  | 31 => .int
  | 32 => .int
  | 33 => .int
  | _ => .int
abbrev wsX80 : List Cond := u_ws RX8 TX8 35
theorem nmX8 : ∀ a, a < 35 → ∀ b, b < 35 → a ≠ b → (TX8 a).2.1 ≠ (TX8 b).2.1 := by decide +kernel
theorem tyX8_ok : ∀ k, k < 35 → parseFieldDescriptor (TX8 k).2.2.1 = some (tyX8 k) := by decide +kernel
abbrev cX8_init : ByteArray := prog_10_method_1_code
def yX8_init : MethodName := ⟨RX8, "<init>", "()V"⟩
abbrev cX8_in : ByteArray := prog_10_method_3_code
def yX8_in : MethodName := ⟨RX8, "in", "(III)Z"⟩
abbrev cX8_isTransaction : ByteArray := prog_10_method_4_code
def yX8_isTransaction : MethodName := ⟨RX8, "isTransaction", "(I)Z"⟩
abbrev cX8_isKey : ByteArray := prog_10_method_5_code
def yX8_isKey : MethodName := ⟨RX8, "isKey", "(I)Z"⟩
abbrev cX8_begin : ByteArray := prog_10_method_6_code
def yX8_begin : MethodName := ⟨RX8, "begin", "()I"⟩
abbrev cX8_clears : ByteArray := prog_10_method_7_code
def yX8_clears : MethodName := ⟨RX8, "clears", "(I)V"⟩
abbrev cX8_isUnderWay : ByteArray := prog_10_method_8_code
def yX8_isUnderWay : MethodName := ⟨RX8, "isUnderWay", "(I)Z"⟩
abbrev cX8_writer : ByteArray := prog_10_method_9_code
def yX8_writer : MethodName := ⟨RX8, "writer", "(I)I"⟩
abbrev cX8_write : ByteArray := prog_10_method_10_code
def yX8_write : MethodName := ⟨RX8, "write", "(III)I"⟩
abbrev cX8_read : ByteArray := prog_10_method_11_code
def yX8_read : MethodName := ⟨RX8, "read", "(II)I"⟩
abbrev cX8_writtenBy : ByteArray := prog_10_method_12_code
def yX8_writtenBy : MethodName := ⟨RX8, "writtenBy", "(I)I"⟩
abbrev cX8_commit : ByteArray := prog_10_method_13_code
def yX8_commit : MethodName := ⟨RX8, "commit", "(I)I"⟩
abbrev cX8_abort : ByteArray := prog_10_method_14_code
def yX8_abort : MethodName := ⟨RX8, "abort", "(I)I"⟩
abbrev cX8_flush : ByteArray := prog_10_method_15_code
def yX8_flush : MethodName := ⟨RX8, "flush", "()I"⟩
abbrev cX8_crashSource : ByteArray := prog_10_method_16_code
def yX8_crashSource : MethodName := ⟨RX8, "crashSource", "()I"⟩
abbrev cX8_crashTarget : ByteArray := prog_10_method_17_code
def yX8_crashTarget : MethodName := ⟨RX8, "crashTarget", "()I"⟩
abbrev cX8_crash : ByteArray := prog_10_method_18_code
def yX8_crash : MethodName := ⟨RX8, "crash", "(I)I"⟩
abbrev cX8_key : ByteArray := prog_10_method_19_code
def yX8_key : MethodName := ⟨RX8, "key", "(II)I"⟩
abbrev cX8_log : ByteArray := prog_10_method_20_code
def yX8_log : MethodName := ⟨RX8, "log", "(II)I"⟩
abbrev cX8_relays : ByteArray := prog_10_method_21_code
def yX8_relays : MethodName := ⟨RX8, "relays", "(I)I"⟩
abbrev cX8_relay : ByteArray := prog_10_method_22_code
def yX8_relay : MethodName := ⟨RX8, "relay", "(I)I"⟩
abbrev cX8_cut : ByteArray := prog_10_method_23_code
def yX8_cut : MethodName := ⟨RX8, "cut", "()I"⟩
abbrev cX8_isLane : ByteArray := prog_10_method_24_code
def yX8_isLane : MethodName := ⟨RX8, "isLane", "(I)Z"⟩
abbrev cX8_takesOut : ByteArray := prog_10_method_25_code
def yX8_takesOut : MethodName := ⟨RX8, "takesOut", "(II)V"⟩
abbrev cX8_does : ByteArray := prog_10_method_26_code
def yX8_does : MethodName := ⟨RX8, "does", "(III)V"⟩
abbrev cX8_findHeld : ByteArray := prog_10_method_27_code
def yX8_findHeld : MethodName := ⟨RX8, "findHeld", "(II)I"⟩
abbrev cX8_letsGo : ByteArray := prog_10_method_28_code
def yX8_letsGo : MethodName := ⟨RX8, "letsGo", "(I)V"⟩
abbrev cX8_hears : ByteArray := prog_10_method_29_code
def yX8_hears : MethodName := ⟨RX8, "hears", "(IIII)I"⟩
abbrev cX8_delivers : ByteArray := prog_10_method_30_code
def yX8_delivers : MethodName := ⟨RX8, "delivers", "(IIZ)I"⟩
abbrev cX8_isLetter : ByteArray := prog_10_method_31_code
def yX8_isLetter : MethodName := ⟨RX8, "isLetter", "(II)Z"⟩
abbrev cX8_deliver : ByteArray := prog_10_method_32_code
def yX8_deliver : MethodName := ⟨RX8, "deliver", "(IIZ)I"⟩
abbrev cX8_lose : ByteArray := prog_10_method_33_code
def yX8_lose : MethodName := ⟨RX8, "lose", "(II)I"⟩
abbrev cX8_letter : ByteArray := prog_10_method_34_code
def yX8_letter : MethodName := ⟨RX8, "letter", "(III)I"⟩
abbrev cX8_saves : ByteArray := prog_10_method_35_code
def yX8_saves : MethodName := ⟨RX8, "saves", "()I"⟩
abbrev cX8_save : ByteArray := prog_10_method_36_code
def yX8_save : MethodName := ⟨RX8, "save", "()I"⟩
abbrev cX8_toAck : ByteArray := prog_10_method_37_code
def yX8_toAck : MethodName := ⟨RX8, "toAck", "()I"⟩
abbrev cX8_acks : ByteArray := prog_10_method_38_code
def yX8_acks : MethodName := ⟨RX8, "acks", "(Z)I"⟩
abbrev cX8_ack : ByteArray := prog_10_method_39_code
def yX8_ack : MethodName := ⟨RX8, "ack", "(Z)I"⟩
abbrev cX8_flow : ByteArray := prog_10_method_40_code
def yX8_flow : MethodName := ⟨RX8, "flow", "(I)I"⟩
abbrev cX8_whole : ByteArray := prog_10_method_41_code
def yX8_whole : MethodName := ⟨RX8, "whole", "()I"⟩
abbrev cX8_hasPrefix : ByteArray := prog_10_method_42_code
def yX8_hasPrefix : MethodName := ⟨RX8, "hasPrefix", "(III)Z"⟩
abbrev cX8_prefix : ByteArray := prog_10_method_43_code
def yX8_prefix : MethodName := ⟨RX8, "prefix", "(I)I"⟩
abbrev cX8_count : ByteArray := prog_10_method_44_code
def yX8_count : MethodName := ⟨RX8, "count", "(I)I"⟩
def RJ9 : String := "java/lang/Math"
def TJ9 : u_T := fun k => match k with
  | _ => ("", "", "", false)
def tyJ9 : Nat → FieldType := fun k => match k with
  | _ => .int
abbrev wsJ90 : List Cond := u_ws RJ9 TJ9 0
theorem nmJ9 : ∀ a, a < 0 → ∀ b, b < 0 → a ≠ b → (TJ9 a).2.1 ≠ (TJ9 b).2.1 := by decide +kernel
theorem tyJ9_ok : ∀ k, k < 0 → parseFieldDescriptor (TJ9 k).2.2.1 = some (tyJ9 k) := by decide +kernel
abbrev cJ9_max_7cf53 : ByteArray := prog_11_method_65_code
def yJ9_max_7cf53 : MethodName := ⟨RJ9, "max", "(II)I"⟩
def RJ7 : String := "java/util/Arrays"
def TJ7 : u_T := fun k => match k with
  | _ => ("", "", "", false)
def tyJ7 : Nat → FieldType := fun k => match k with
  | _ => .int
abbrev wsJ70 : List Cond := u_ws RJ7 TJ7 0
theorem nmJ7 : ∀ a, a < 0 → ∀ b, b < 0 → a ≠ b → (TJ7 a).2.1 ≠ (TJ7 b).2.1 := by decide +kernel
theorem tyJ7_ok : ∀ k, k < 0 → parseFieldDescriptor (TJ7 k).2.2.1 = some (tyJ7 k) := by decide +kernel
abbrev cJ7_fill_53178 : ByteArray := prog_12_method_103_code
def yJ7_fill_53178 : MethodName := ⟨RJ7, "fill", "([II)V"⟩
def RL : String := "OutboxHouseLaw"
abbrev cL_law : ByteArray := code
def yL_law : MethodName := ⟨RL, "law", "([I)Z"⟩
def wsX0_init : List Cond := .code yX0_init cX0_init 6 none :: ([.methodLink RX0 1 objectInit, .instanceMethod objectInit, .code objectInit ⟨#[0xb1]⟩ 1 none, .fieldLink RX0 7 "OutboxHouse$Change" "place" "I", .fieldLink RX0 13 "OutboxHouse$Change" "key" "I", .fieldLink RX0 16 "OutboxHouse$Change" "value" "I", .fieldLink RX0 19 "OutboxHouse$Change" "order" "I", .fieldLink RX0 22 "OutboxHouse$Change" "last" "Z"] ++ wsX00)
def wsX1_init : List Cond := .code yX1_init cX1_init 1 none :: ([.methodLink RX1 3 objectInit, .instanceMethod objectInit, .code objectInit ⟨#[0xb1]⟩ 1 none, .classLink RX1 9 RX0, .fieldLink RX1 11 "OutboxHouse$ChangeLog" "rows" "[LOutboxHouse$Change;"] ++ wsX10)
def wsX1_hasRoomFor : List Cond := .code yX1_hasRoomFor cX1_hasRoomFor 2 (some .boolean) :: ([.fieldLink RX1 17 "OutboxHouse$ChangeLog" "end" "I"] ++ wsX10)
def wsX1_append : List Cond := .code yX1_append cX1_append 5 none :: ([.fieldLink RX1 17 "OutboxHouse$ChangeLog" "end" "I", .fieldLink RX1 11 "OutboxHouse$ChangeLog" "rows" "[LOutboxHouse$Change;", .classLink RX1 9 RX0, .instantiable RX0 5, .initialized RX0, .methodLink RX1 21 yX0_init, .instanceMethod yX0_init, .code yX0_init cX0_init 6 none, .methodLink RX0 1 objectInit, .instanceMethod objectInit, .code objectInit ⟨#[0xb1]⟩ 1 none, .fieldLink RX0 7 "OutboxHouse$Change" "place" "I", .fieldLink RX0 13 "OutboxHouse$Change" "key" "I", .fieldLink RX0 16 "OutboxHouse$Change" "value" "I", .fieldLink RX0 19 "OutboxHouse$Change" "order" "I", .fieldLink RX0 22 "OutboxHouse$Change" "last" "Z"] ++ wsX10 ++ wsX00)
def wsX1_at : List Cond := .code yX1_at cX1_at 2 (some (.object "OutboxHouse$Change")) :: ([.fieldLink RX1 17 "OutboxHouse$ChangeLog" "end" "I", .fieldLink RX1 11 "OutboxHouse$ChangeLog" "rows" "[LOutboxHouse$Change;"] ++ wsX10)
def wsX1_flushedAt : List Cond := .code yX1_flushedAt cX1_flushedAt 2 (some (.object "OutboxHouse$Change")) :: ([.fieldLink RX1 24 "OutboxHouse$ChangeLog" "flushed" "I", .fieldLink RX1 11 "OutboxHouse$ChangeLog" "rows" "[LOutboxHouse$Change;"] ++ wsX10)
def wsX1_isFlushed : List Cond := .code yX1_isFlushed cX1_isFlushed 2 (some .boolean) :: ([.fieldLink RX1 24 "OutboxHouse$ChangeLog" "flushed" "I"] ++ wsX10)
def wsX1_isCut : List Cond := .code yX1_isCut cX1_isCut 2 (some .boolean) :: ([.fieldLink RX1 27 "OutboxHouse$ChangeLog" "first" "I"] ++ wsX10)
def wsX1_dropUnflushed : List Cond := .code yX1_dropUnflushed cX1_dropUnflushed 2 (some .int) :: ([.fieldLink RX1 17 "OutboxHouse$ChangeLog" "end" "I", .fieldLink RX1 24 "OutboxHouse$ChangeLog" "flushed" "I"] ++ wsX10)
def wsX1_cutUpTo : List Cond := .code yX1_cutUpTo cX1_cutUpTo 3 (some .int) :: ([.fieldLink RX1 27 "OutboxHouse$ChangeLog" "first" "I"] ++ wsX10)
def wsX3_init : List Cond := .code yX3_init cX3_init 2 none :: ([.methodLink RX3 3 objectInit, .instanceMethod objectInit, .code objectInit ⟨#[0xb1]⟩ 1 none, .methodLink RX3 9 Lib.Math.max.name, .static Lib.Math.max.name, .initialized "java/lang/Math", .code Lib.Math.max.name Lib.Math.max.code 2 (some .int), .classLink RX3 15 RX0, .fieldLink RX3 17 "OutboxHouse$Row" "slots" "[LOutboxHouse$Change;"] ++ wsX30)
def wsX2_init : List Cond := .code yX2_init cX2_init 3 none :: ([.methodLink RX2 3 objectInit, .instanceMethod objectInit, .code objectInit ⟨#[0xb1]⟩ 1 none, .classLink RX2 9 RX3, .fieldLink RX2 11 "OutboxHouse$Relay" "lanes" "[LOutboxHouse$Row;", .fieldLink RX2 17 "OutboxHouse$Relay" "changes" "LOutboxHouse$ChangeLog;", .instantiable RX3 2, .initialized RX3, .methodLink RX2 21 yX3_init, .instanceMethod yX3_init, .code yX3_init cX3_init 2 none, .methodLink RX3 3 objectInit, .methodLink RX3 9 Lib.Math.max.name, .static Lib.Math.max.name, .initialized "java/lang/Math", .code Lib.Math.max.name Lib.Math.max.code 2 (some .int), .classLink RX3 15 RX0, .fieldLink RX3 17 "OutboxHouse$Row" "slots" "[LOutboxHouse$Change;"] ++ wsX20 ++ wsX30)
def wsX3_isFull : List Cond := .code yX3_isFull cX3_isFull 1 (some .boolean) :: ([.fieldLink RX3 23 "OutboxHouse$Row" "size" "I", .fieldLink RX3 17 "OutboxHouse$Row" "slots" "[LOutboxHouse$Change;"] ++ wsX30)
def wsX3_add : List Cond := .code yX3_add cX3_add 2 none :: ([.fieldLink RX3 23 "OutboxHouse$Row" "size" "I", .fieldLink RX3 17 "OutboxHouse$Row" "slots" "[LOutboxHouse$Change;"] ++ wsX30)
def wsX2_readOne : List Cond := .code yX2_readOne cX2_readOne 3 (some .boolean) :: ([.fieldLink RX2 17 "OutboxHouse$Relay" "changes" "LOutboxHouse$ChangeLog;", .fieldLink RX2 28 "OutboxHouse$Relay" "position" "I", .fieldLink RX2 11 "OutboxHouse$Relay" "lanes" "[LOutboxHouse$Row;", .fieldLink RX2 38 "OutboxHouse$Change" "key" "I", .fieldLink RX2 50 "OutboxHouse$Relay" "sentEver" "I", .methodLink RX2 32 yX1_flushedAt, .instanceMethod yX1_flushedAt, .selects RX1 yX1_flushedAt yX1_flushedAt, .initialized RX1, .code yX1_flushedAt cX1_flushedAt 2 (some (.object "OutboxHouse$Change")), .fieldLink RX1 24 "OutboxHouse$ChangeLog" "flushed" "I", .fieldLink RX1 11 "OutboxHouse$ChangeLog" "rows" "[LOutboxHouse$Change;", .methodLink RX2 43 yX3_isFull, .instanceMethod yX3_isFull, .selects RX3 yX3_isFull yX3_isFull, .initialized RX3, .code yX3_isFull cX3_isFull 1 (some .boolean), .fieldLink RX3 23 "OutboxHouse$Row" "size" "I", .fieldLink RX3 17 "OutboxHouse$Row" "slots" "[LOutboxHouse$Change;", .methodLink RX2 46 yX3_add, .instanceMethod yX3_add, .selects RX3 yX3_add yX3_add, .code yX3_add cX3_add 2 none] ++ wsX20 ++ wsX00 ++ wsX10 ++ wsX30)
def wsX2_readOn_r1 : List Cond := [Cond.methodLink RX2 24 yX2_readOne, Cond.instanceMethod yX2_readOne, Cond.selects RX2 yX2_readOne yX2_readOne, Cond.initialized RX2, Cond.code yX2_readOne cX2_readOne 3 (some .boolean), Cond.fieldLink RX2 17 "OutboxHouse$Relay" "changes" "LOutboxHouse$ChangeLog;", Cond.fieldLink RX2 28 "OutboxHouse$Relay" "position" "I", Cond.fieldLink RX2 11 "OutboxHouse$Relay" "lanes" "[LOutboxHouse$Row;", Cond.fieldLink RX2 38 "OutboxHouse$Change" "key" "I", Cond.fieldLink RX2 50 "OutboxHouse$Relay" "sentEver" "I", Cond.methodLink RX2 32 yX1_flushedAt, Cond.instanceMethod yX1_flushedAt, Cond.selects RX1 yX1_flushedAt yX1_flushedAt, Cond.initialized RX1, Cond.code yX1_flushedAt cX1_flushedAt 2 (some (.object "OutboxHouse$Change")), Cond.fieldLink RX1 24 "OutboxHouse$ChangeLog" "flushed" "I", Cond.fieldLink RX1 11 "OutboxHouse$ChangeLog" "rows" "[LOutboxHouse$Change;", Cond.methodLink RX2 43 yX3_isFull, Cond.instanceMethod yX3_isFull, Cond.selects RX3 yX3_isFull yX3_isFull, Cond.initialized RX3, Cond.code yX3_isFull cX3_isFull 1 (some .boolean), Cond.fieldLink RX3 23 "OutboxHouse$Row" "size" "I", Cond.fieldLink RX3 17 "OutboxHouse$Row" "slots" "[LOutboxHouse$Change;"]
def wsX2_readOn_r2 : List Cond := [Cond.methodLink RX2 46 yX3_add, Cond.instanceMethod yX3_add, Cond.selects RX3 yX3_add yX3_add, Cond.code yX3_add cX3_add 2 none]
def wsX2_readOn : List Cond := .code yX2_readOn cX2_readOn 3 (some .int) :: ((wsX2_readOn_r1 ++ wsX2_readOn_r2) ++ wsX20 ++ wsX00 ++ wsX10 ++ wsX30)
def wsX7_isLane : List Cond := .code yX7_isLane cX7_isLane 1 (some .boolean) :: ([])
def wsX3_at : List Cond := .code yX3_at cX3_at 2 (some (.object "OutboxHouse$Change")) :: ([.fieldLink RX3 23 "OutboxHouse$Row" "size" "I", .fieldLink RX3 17 "OutboxHouse$Row" "slots" "[LOutboxHouse$Change;"] ++ wsX30)
def wsX2_letterAt : List Cond := .code yX2_letterAt cX2_letterAt 3 (some (.object "OutboxHouse$Change")) :: ([.fieldLink RX2 11 "OutboxHouse$Relay" "lanes" "[LOutboxHouse$Row;", .static yX7_isLane, .initialized RX7, .code yX7_isLane cX7_isLane 1 (some .boolean), .methodLink RX2 57 yX3_at, .instanceMethod yX3_at, .selects RX3 yX3_at yX3_at, .initialized RX3, .code yX3_at cX3_at 2 (some (.object "OutboxHouse$Change")), .fieldLink RX3 23 "OutboxHouse$Row" "size" "I", .fieldLink RX3 17 "OutboxHouse$Row" "slots" "[LOutboxHouse$Change;"] ++ wsX20 ++ wsX30)
def wsX3_remove : List Cond := .code yX3_remove cX3_remove 3 none :: ([.fieldLink RX3 23 "OutboxHouse$Row" "size" "I", .fieldLink RX3 17 "OutboxHouse$Row" "slots" "[LOutboxHouse$Change;"] ++ wsX30)
def wsX2_dropLetter : List Cond := .code yX2_dropLetter cX2_dropLetter 3 none :: ([.fieldLink RX2 11 "OutboxHouse$Relay" "lanes" "[LOutboxHouse$Row;", .static yX7_isLane, .initialized RX7, .code yX7_isLane cX7_isLane 1 (some .boolean), .methodLink RX2 60 yX3_remove, .instanceMethod yX3_remove, .selects RX3 yX3_remove yX3_remove, .initialized RX3, .code yX3_remove cX3_remove 3 none, .fieldLink RX3 23 "OutboxHouse$Row" "size" "I", .fieldLink RX3 17 "OutboxHouse$Row" "slots" "[LOutboxHouse$Change;"] ++ wsX20 ++ wsX30)
def wsX2_hear : List Cond := .code yX2_hear cX2_hear 2 none :: ([.fieldLink RX2 63 "OutboxHouse$Relay" "mark" "I", .methodLink RX2 66 Lib.Math.max.name, .static Lib.Math.max.name, .initialized "java/lang/Math", .code Lib.Math.max.name Lib.Math.max.code 2 (some .int), .fieldLink RX2 28 "OutboxHouse$Relay" "position" "I"] ++ wsX20)
def wsX2_restart : List Cond := .code yX2_restart cX2_restart 2 (some .int) :: ([.fieldLink RX2 28 "OutboxHouse$Relay" "position" "I", .fieldLink RX2 63 "OutboxHouse$Relay" "mark" "I"] ++ wsX20)
def wsX2_lettersUnderWay : List Cond := .code yX2_lettersUnderWay cX2_lettersUnderWay 3 (some .int) :: ([.fieldLink RX2 11 "OutboxHouse$Relay" "lanes" "[LOutboxHouse$Row;"] ++ wsX20 ++ wsX30)
def wsX3_find : List Cond := .code yX3_find cX3_find 5 (some .int) :: ([.fieldLink RX3 23 "OutboxHouse$Row" "size" "I", .fieldLink RX3 17 "OutboxHouse$Row" "slots" "[LOutboxHouse$Change;", .fieldLink RX3 27 "OutboxHouse$Change" "key" "I", .fieldLink RX3 30 "OutboxHouse$Change" "order" "I"] ++ wsX30 ++ wsX00)
def wsX3_clear : List Cond := .code yX3_clear cX3_clear 1 none :: ([.fieldLink RX3 23 "OutboxHouse$Row" "size" "I"] ++ wsX30)
def wsJ7_fill_53178 : List Cond := .code yJ7_fill_53178 cJ7_fill_53178 4 none :: ([])
def wsX4_init : List Cond := .code yX4_init cX4_init 2 none :: ([.methodLink RX4 3 objectInit, .instanceMethod objectInit, .code objectInit ⟨#[0xb1]⟩ 1 none, .arrayClass .int, .fieldLink RX4 9 "OutboxHouse$Source" "values" "[I", .fieldLink RX4 15 "OutboxHouse$Source" "counts" "[I", .fieldLink RX4 18 "OutboxHouse$Source" "owners" "[I", .fieldLink RX4 21 "OutboxHouse$Source" "drafts" "[I", .arrayClass .boolean, .fieldLink RX4 24 "OutboxHouse$Source" "open" "[Z", .fieldLink RX4 28 "OutboxHouse$Source" "changes" "LOutboxHouse$ChangeLog;", .methodLink RX4 32 yJ7_fill_53178, .static yJ7_fill_53178, .initialized RJ7, .code yJ7_fill_53178 cJ7_fill_53178 4 none] ++ wsX40)
def wsX4_isOpen : List Cond := .code yX4_isOpen cX4_isOpen 2 (some .boolean) :: ([.fieldLink RX4 24 "OutboxHouse$Source" "open" "[Z"] ++ wsX40)
def wsX4_openFirstFree : List Cond := .code yX4_openFirstFree cX4_openFirstFree 2 (some .int) :: ([.fieldLink RX4 24 "OutboxHouse$Source" "open" "[Z"] ++ wsX40)
def wsX4_openTransactions : List Cond := .code yX4_openTransactions cX4_openTransactions 3 (some .int) :: ([.fieldLink RX4 24 "OutboxHouse$Source" "open" "[Z"] ++ wsX40)
def wsX4_draft : List Cond := .code yX4_draft cX4_draft 4 (some .boolean) :: ([.fieldLink RX4 18 "OutboxHouse$Source" "owners" "[I", .fieldLink RX4 21 "OutboxHouse$Source" "drafts" "[I"] ++ wsX40)
def wsX4_seenBy : List Cond := .code yX4_seenBy cX4_seenBy 3 (some .int) :: ([.fieldLink RX4 18 "OutboxHouse$Source" "owners" "[I", .fieldLink RX4 21 "OutboxHouse$Source" "drafts" "[I", .fieldLink RX4 9 "OutboxHouse$Source" "values" "[I"] ++ wsX40)
def wsX4_lockedKeys : List Cond := .code yX4_lockedKeys cX4_lockedKeys 4 (some .int) :: ([.fieldLink RX4 18 "OutboxHouse$Source" "owners" "[I"] ++ wsX40)
def wsX4_lockOf : List Cond := .code yX4_lockOf cX4_lockOf 2 (some .int) :: ([.fieldLink RX4 18 "OutboxHouse$Source" "owners" "[I"] ++ wsX40)
def wsX4_finish : List Cond := .code yX4_finish cX4_finish 4 none :: ([.fieldLink RX4 18 "OutboxHouse$Source" "owners" "[I", .fieldLink RX4 24 "OutboxHouse$Source" "open" "[Z"] ++ wsX40)
def wsX4_putIntoLog_r1 : List Cond := [Cond.fieldLink RX4 18 "OutboxHouse$Source" "owners" "[I", Cond.fieldLink RX4 28 "OutboxHouse$Source" "changes" "LOutboxHouse$ChangeLog;", Cond.fieldLink RX4 21 "OutboxHouse$Source" "drafts" "[I", Cond.fieldLink RX4 15 "OutboxHouse$Source" "counts" "[I", Cond.methodLink RX4 38 yX1_append, Cond.instanceMethod yX1_append, Cond.selects RX1 yX1_append yX1_append, Cond.initialized RX1, Cond.code yX1_append cX1_append 5 none, Cond.fieldLink RX1 17 "OutboxHouse$ChangeLog" "end" "I", Cond.fieldLink RX1 11 "OutboxHouse$ChangeLog" "rows" "[LOutboxHouse$Change;", Cond.classLink RX1 9 RX0, Cond.instantiable RX0 5, Cond.initialized RX0, Cond.methodLink RX1 21 yX0_init, Cond.instanceMethod yX0_init, Cond.code yX0_init cX0_init 6 none, Cond.methodLink RX0 1 objectInit, Cond.instanceMethod objectInit, Cond.code objectInit ⟨#[0xb1]⟩ 1 none, Cond.fieldLink RX0 7 "OutboxHouse$Change" "place" "I", Cond.fieldLink RX0 13 "OutboxHouse$Change" "key" "I", Cond.fieldLink RX0 16 "OutboxHouse$Change" "value" "I", Cond.fieldLink RX0 19 "OutboxHouse$Change" "order" "I"]
def wsX4_putIntoLog_r2 : List Cond := [Cond.fieldLink RX0 22 "OutboxHouse$Change" "last" "Z", Cond.methodLink RX4 44 yX4_finish, Cond.instanceMethod yX4_finish, Cond.selects RX4 yX4_finish yX4_finish, Cond.initialized RX4, Cond.code yX4_finish cX4_finish 4 none, Cond.fieldLink RX4 24 "OutboxHouse$Source" "open" "[Z"]
def wsX4_putIntoLog : List Cond := .code yX4_putIntoLog cX4_putIntoLog 5 none :: ((wsX4_putIntoLog_r1 ++ wsX4_putIntoLog_r2) ++ wsX40 ++ wsX10 ++ wsX00)
def wsX4_giveUp : List Cond := .code yX4_giveUp cX4_giveUp 2 none :: ([.methodLink RX4 44 yX4_finish, .instanceMethod yX4_finish, .selects RX4 yX4_finish yX4_finish, .initialized RX4, .code yX4_finish cX4_finish 4 none, .fieldLink RX4 18 "OutboxHouse$Source" "owners" "[I", .fieldLink RX4 24 "OutboxHouse$Source" "open" "[Z"] ++ wsX40)
def wsX4_flushChanges : List Cond := .code yX4_flushChanges cX4_flushChanges 4 (some .int) :: ([.fieldLink RX4 28 "OutboxHouse$Source" "changes" "LOutboxHouse$ChangeLog;", .fieldLink RX4 9 "OutboxHouse$Source" "values" "[I", .fieldLink RX4 56 "OutboxHouse$Change" "key" "I", .fieldLink RX4 61 "OutboxHouse$Change" "value" "I", .fieldLink RX4 15 "OutboxHouse$Source" "counts" "[I", .fieldLink RX4 64 "OutboxHouse$Change" "order" "I", .fieldLink RX4 18 "OutboxHouse$Source" "owners" "[I", .methodLink RX4 52 yX1_at, .instanceMethod yX1_at, .selects RX1 yX1_at yX1_at, .initialized RX1, .code yX1_at cX1_at 2 (some (.object "OutboxHouse$Change")), .fieldLink RX1 17 "OutboxHouse$ChangeLog" "end" "I", .fieldLink RX1 11 "OutboxHouse$ChangeLog" "rows" "[LOutboxHouse$Change;"] ++ wsX40 ++ wsX10 ++ wsX00)
def wsX4_restart : List Cond := .code yX4_restart cX4_restart 2 (some .int) :: ([.fieldLink RX4 24 "OutboxHouse$Source" "open" "[Z", .fieldLink RX4 18 "OutboxHouse$Source" "owners" "[I", .fieldLink RX4 28 "OutboxHouse$Source" "changes" "LOutboxHouse$ChangeLog;", .methodLink RX4 32 yJ7_fill_53178, .static yJ7_fill_53178, .initialized RJ7, .code yJ7_fill_53178 cJ7_fill_53178 4 none, .methodLink RX4 70 yX1_dropUnflushed, .instanceMethod yX1_dropUnflushed, .selects RX1 yX1_dropUnflushed yX1_dropUnflushed, .initialized RX1, .code yX1_dropUnflushed cX1_dropUnflushed 2 (some .int), .fieldLink RX1 17 "OutboxHouse$ChangeLog" "end" "I", .fieldLink RX1 24 "OutboxHouse$ChangeLog" "flushed" "I"] ++ wsX40 ++ wsX10)
def wsX6_init : List Cond := .code yX6_init cX6_init 1 none :: ([.methodLink RX6 3 objectInit, .instanceMethod objectInit, .code objectInit ⟨#[0xb1]⟩ 1 none, .arrayClass .int, .fieldLink RX6 9 "OutboxHouse$TargetState" "values" "[I", .fieldLink RX6 15 "OutboxHouse$TargetState" "done" "[I"] ++ wsX60)
def wsX5_init_r1 : List Cond := [Cond.methodLink RX5 3 objectInit, Cond.instanceMethod objectInit, Cond.code objectInit ⟨#[0xb1]⟩ 1 none, Cond.classLink RX5 9 RX6, Cond.instantiable RX6 3, Cond.initialized RX6, Cond.fieldLink RX5 12 "OutboxHouse$Target" "memory" "LOutboxHouse$TargetState;", Cond.fieldLink RX5 18 "OutboxHouse$Target" "disk" "LOutboxHouse$TargetState;", Cond.classLink RX5 21 RX3, Cond.instantiable RX3 2, Cond.initialized RX3, Cond.fieldLink RX5 26 "OutboxHouse$Target" "held" "LOutboxHouse$Row;", Cond.fieldLink RX5 30 "OutboxHouse$Target" "changes" "LOutboxHouse$ChangeLog;", Cond.instanceMethod yX6_init, Cond.code yX6_init cX6_init 1 none, Cond.methodLink RX6 3 objectInit, Cond.arrayClass .int, Cond.fieldLink RX6 9 "OutboxHouse$TargetState" "values" "[I", Cond.fieldLink RX6 15 "OutboxHouse$TargetState" "done" "[I", Cond.methodLink RX5 23 yX3_init, Cond.instanceMethod yX3_init, Cond.code yX3_init cX3_init 2 none, Cond.methodLink RX3 3 objectInit, Cond.methodLink RX3 9 Lib.Math.max.name]
def wsX5_init_r2 : List Cond := [Cond.static Lib.Math.max.name, Cond.initialized "java/lang/Math", Cond.code Lib.Math.max.name Lib.Math.max.code 2 (some .int), Cond.classLink RX3 15 RX0, Cond.fieldLink RX3 17 "OutboxHouse$Row" "slots" "[LOutboxHouse$Change;"]
def wsX5_init : List Cond := .code yX5_init cX5_init 2 none :: ((wsX5_init_r1 ++ wsX5_init_r2) ++ wsX60 ++ wsX50 ++ wsX30)
def wsX6_has : List Cond := .code yX6_has cX6_has 2 (some .boolean) :: ([.fieldLink RX6 18 "OutboxHouse$Change" "order" "I", .fieldLink RX6 15 "OutboxHouse$TargetState" "done" "[I", .fieldLink RX6 24 "OutboxHouse$Change" "key" "I"] ++ wsX00 ++ wsX60)
def wsX6_apply : List Cond := .code yX6_apply cX6_apply 4 none :: ([.fieldLink RX6 9 "OutboxHouse$TargetState" "values" "[I", .fieldLink RX6 24 "OutboxHouse$Change" "key" "I", .fieldLink RX6 27 "OutboxHouse$Change" "value" "I", .fieldLink RX6 15 "OutboxHouse$TargetState" "done" "[I", .fieldLink RX6 18 "OutboxHouse$Change" "order" "I", .fieldLink RX6 30 "OutboxHouse$TargetState" "upTo" "I", .methodLink RX6 33 yX1_flushedAt, .instanceMethod yX1_flushedAt, .selects RX1 yX1_flushedAt yX1_flushedAt, .initialized RX1, .code yX1_flushedAt cX1_flushedAt 2 (some (.object "OutboxHouse$Change")), .fieldLink RX1 24 "OutboxHouse$ChangeLog" "flushed" "I", .fieldLink RX1 11 "OutboxHouse$ChangeLog" "rows" "[LOutboxHouse$Change;", .methodLink RX6 39 yX6_has, .instanceMethod yX6_has, .selects RX6 yX6_has yX6_has, .initialized RX6, .code yX6_has cX6_has 2 (some .boolean)] ++ wsX60 ++ wsX00 ++ wsX10)
def wsX5_doNow_r1 : List Cond := [Cond.fieldLink RX5 12 "OutboxHouse$Target" "memory" "LOutboxHouse$TargetState;", Cond.fieldLink RX5 30 "OutboxHouse$Target" "changes" "LOutboxHouse$ChangeLog;", Cond.fieldLink RX5 79 "OutboxHouse$Target" "doneEver" "I", Cond.methodLink RX5 75 yX6_apply, Cond.instanceMethod yX6_apply, Cond.selects RX6 yX6_apply yX6_apply, Cond.initialized RX6, Cond.code yX6_apply cX6_apply 4 none, Cond.fieldLink RX6 9 "OutboxHouse$TargetState" "values" "[I", Cond.fieldLink RX6 24 "OutboxHouse$Change" "key" "I", Cond.fieldLink RX6 27 "OutboxHouse$Change" "value" "I", Cond.fieldLink RX6 15 "OutboxHouse$TargetState" "done" "[I", Cond.fieldLink RX6 18 "OutboxHouse$Change" "order" "I", Cond.fieldLink RX6 30 "OutboxHouse$TargetState" "upTo" "I", Cond.methodLink RX6 33 yX1_flushedAt, Cond.instanceMethod yX1_flushedAt, Cond.selects RX1 yX1_flushedAt yX1_flushedAt, Cond.initialized RX1, Cond.code yX1_flushedAt cX1_flushedAt 2 (some (.object "OutboxHouse$Change")), Cond.fieldLink RX1 24 "OutboxHouse$ChangeLog" "flushed" "I", Cond.fieldLink RX1 11 "OutboxHouse$ChangeLog" "rows" "[LOutboxHouse$Change;", Cond.methodLink RX6 39 yX6_has, Cond.instanceMethod yX6_has, Cond.selects RX6 yX6_has yX6_has]
def wsX5_doNow_r2 : List Cond := [Cond.code yX6_has cX6_has 2 (some .boolean)]
def wsX5_doNow : List Cond := .code yX5_doNow cX5_doNow 2 none :: ((wsX5_doNow_r1 ++ wsX5_doNow_r2) ++ wsX50 ++ wsX60 ++ wsX00 ++ wsX10)
def wsX5_doHeldThatFollow_r1 : List Cond := [Cond.fieldLink RX5 26 "OutboxHouse$Target" "held" "LOutboxHouse$Row;", Cond.fieldLink RX5 12 "OutboxHouse$Target" "memory" "LOutboxHouse$TargetState;", Cond.methodLink RX5 47 yX3_find, Cond.instanceMethod yX3_find, Cond.selects RX3 yX3_find yX3_find, Cond.initialized RX3, Cond.code yX3_find cX3_find 5 (some .int), Cond.fieldLink RX3 23 "OutboxHouse$Row" "size" "I", Cond.fieldLink RX3 17 "OutboxHouse$Row" "slots" "[LOutboxHouse$Change;", Cond.fieldLink RX3 27 "OutboxHouse$Change" "key" "I", Cond.fieldLink RX3 30 "OutboxHouse$Change" "order" "I", Cond.methodLink RX5 82 yX3_at, Cond.instanceMethod yX3_at, Cond.selects RX3 yX3_at yX3_at, Cond.code yX3_at cX3_at 2 (some (.object "OutboxHouse$Change")), Cond.methodLink RX5 86 yX3_remove, Cond.instanceMethod yX3_remove, Cond.selects RX3 yX3_remove yX3_remove, Cond.code yX3_remove cX3_remove 3 none, Cond.methodLink RX5 58 yX5_doNow, Cond.instanceMethod yX5_doNow, Cond.selects RX5 yX5_doNow yX5_doNow, Cond.initialized RX5, Cond.code yX5_doNow cX5_doNow 2 none]
def wsX5_doHeldThatFollow_r2 : List Cond := [Cond.fieldLink RX5 30 "OutboxHouse$Target" "changes" "LOutboxHouse$ChangeLog;", Cond.fieldLink RX5 79 "OutboxHouse$Target" "doneEver" "I", Cond.methodLink RX5 75 yX6_apply, Cond.instanceMethod yX6_apply, Cond.selects RX6 yX6_apply yX6_apply, Cond.initialized RX6, Cond.code yX6_apply cX6_apply 4 none, Cond.fieldLink RX6 9 "OutboxHouse$TargetState" "values" "[I", Cond.fieldLink RX6 24 "OutboxHouse$Change" "key" "I", Cond.fieldLink RX6 27 "OutboxHouse$Change" "value" "I", Cond.fieldLink RX6 15 "OutboxHouse$TargetState" "done" "[I", Cond.fieldLink RX6 18 "OutboxHouse$Change" "order" "I", Cond.fieldLink RX6 30 "OutboxHouse$TargetState" "upTo" "I", Cond.methodLink RX6 33 yX1_flushedAt, Cond.instanceMethod yX1_flushedAt, Cond.selects RX1 yX1_flushedAt yX1_flushedAt, Cond.initialized RX1, Cond.code yX1_flushedAt cX1_flushedAt 2 (some (.object "OutboxHouse$Change")), Cond.fieldLink RX1 24 "OutboxHouse$ChangeLog" "flushed" "I", Cond.fieldLink RX1 11 "OutboxHouse$ChangeLog" "rows" "[LOutboxHouse$Change;", Cond.methodLink RX6 39 yX6_has, Cond.instanceMethod yX6_has, Cond.selects RX6 yX6_has yX6_has, Cond.code yX6_has cX6_has 2 (some .boolean)]
def wsX5_doHeldThatFollow : List Cond := .code yX5_doHeldThatFollow cX5_doHeldThatFollow 5 none :: ((wsX5_doHeldThatFollow_r1 ++ wsX5_doHeldThatFollow_r2) ++ wsX50 ++ wsX60 ++ wsX30 ++ wsX00 ++ wsX10)
def wsX5_take_r1 : List Cond := [Cond.fieldLink RX5 12 "OutboxHouse$Target" "memory" "LOutboxHouse$TargetState;", Cond.fieldLink RX5 26 "OutboxHouse$Target" "held" "LOutboxHouse$Row;", Cond.fieldLink RX5 38 "OutboxHouse$Change" "key" "I", Cond.fieldLink RX5 44 "OutboxHouse$Change" "order" "I", Cond.fieldLink RX5 51 "OutboxHouse$Target" "twiceEver" "I", Cond.fieldLink RX5 69 "OutboxHouse$Target" "lostForRoom" "I", Cond.methodLink RX5 34 yX6_has, Cond.instanceMethod yX6_has, Cond.selects RX6 yX6_has yX6_has, Cond.initialized RX6, Cond.code yX6_has cX6_has 2 (some .boolean), Cond.fieldLink RX6 18 "OutboxHouse$Change" "order" "I", Cond.fieldLink RX6 15 "OutboxHouse$TargetState" "done" "[I", Cond.fieldLink RX6 24 "OutboxHouse$Change" "key" "I", Cond.methodLink RX5 47 yX3_find, Cond.instanceMethod yX3_find, Cond.selects RX3 yX3_find yX3_find, Cond.initialized RX3, Cond.code yX3_find cX3_find 5 (some .int), Cond.fieldLink RX3 23 "OutboxHouse$Row" "size" "I", Cond.fieldLink RX3 17 "OutboxHouse$Row" "slots" "[LOutboxHouse$Change;", Cond.fieldLink RX3 27 "OutboxHouse$Change" "key" "I", Cond.fieldLink RX3 30 "OutboxHouse$Change" "order" "I", Cond.methodLink RX5 58 yX5_doNow]
def wsX5_take_r2 : List Cond := [Cond.instanceMethod yX5_doNow, Cond.selects RX5 yX5_doNow yX5_doNow, Cond.initialized RX5, Cond.code yX5_doNow cX5_doNow 2 none, Cond.fieldLink RX5 30 "OutboxHouse$Target" "changes" "LOutboxHouse$ChangeLog;", Cond.fieldLink RX5 79 "OutboxHouse$Target" "doneEver" "I", Cond.methodLink RX5 75 yX6_apply, Cond.instanceMethod yX6_apply, Cond.selects RX6 yX6_apply yX6_apply, Cond.code yX6_apply cX6_apply 4 none, Cond.fieldLink RX6 9 "OutboxHouse$TargetState" "values" "[I", Cond.fieldLink RX6 27 "OutboxHouse$Change" "value" "I", Cond.fieldLink RX6 30 "OutboxHouse$TargetState" "upTo" "I", Cond.methodLink RX6 33 yX1_flushedAt, Cond.instanceMethod yX1_flushedAt, Cond.selects RX1 yX1_flushedAt yX1_flushedAt, Cond.initialized RX1, Cond.code yX1_flushedAt cX1_flushedAt 2 (some (.object "OutboxHouse$Change")), Cond.fieldLink RX1 24 "OutboxHouse$ChangeLog" "flushed" "I", Cond.fieldLink RX1 11 "OutboxHouse$ChangeLog" "rows" "[LOutboxHouse$Change;", Cond.methodLink RX6 39 yX6_has, Cond.methodLink RX5 62 yX5_doHeldThatFollow, Cond.instanceMethod yX5_doHeldThatFollow, Cond.selects RX5 yX5_doHeldThatFollow yX5_doHeldThatFollow]
def wsX5_take_r3 : List Cond := [Cond.code yX5_doHeldThatFollow cX5_doHeldThatFollow 5 none, Cond.methodLink RX5 82 yX3_at, Cond.instanceMethod yX3_at, Cond.selects RX3 yX3_at yX3_at, Cond.code yX3_at cX3_at 2 (some (.object "OutboxHouse$Change")), Cond.methodLink RX5 86 yX3_remove, Cond.instanceMethod yX3_remove, Cond.selects RX3 yX3_remove yX3_remove, Cond.code yX3_remove cX3_remove 3 none, Cond.methodLink RX5 65 yX3_isFull, Cond.instanceMethod yX3_isFull, Cond.selects RX3 yX3_isFull yX3_isFull, Cond.code yX3_isFull cX3_isFull 1 (some .boolean), Cond.methodLink RX5 72 yX3_add, Cond.instanceMethod yX3_add, Cond.selects RX3 yX3_add yX3_add, Cond.code yX3_add cX3_add 2 none]
def wsX5_take : List Cond := .code yX5_take cX5_take 2 (some .int) :: ((wsX5_take_r1 ++ (wsX5_take_r2 ++ wsX5_take_r3)) ++ wsX50 ++ wsX00 ++ wsX60 ++ wsX30 ++ wsX10)
def wsX6_become : List Cond := .code yX6_become cX6_become 4 (some .int) :: ([.fieldLink RX6 15 "OutboxHouse$TargetState" "done" "[I", .fieldLink RX6 9 "OutboxHouse$TargetState" "values" "[I", .fieldLink RX6 30 "OutboxHouse$TargetState" "upTo" "I"] ++ wsX60)
def wsX5_saveMemory : List Cond := .code yX5_saveMemory cX5_saveMemory 1 (some .int) :: ([.fieldLink RX5 18 "OutboxHouse$Target" "disk" "LOutboxHouse$TargetState;", .fieldLink RX5 12 "OutboxHouse$Target" "memory" "LOutboxHouse$TargetState;", .methodLink RX5 89 yX6_become, .instanceMethod yX6_become, .selects RX6 yX6_become yX6_become, .initialized RX6, .code yX6_become cX6_become 4 (some .int), .fieldLink RX6 15 "OutboxHouse$TargetState" "done" "[I", .fieldLink RX6 9 "OutboxHouse$TargetState" "values" "[I", .fieldLink RX6 30 "OutboxHouse$TargetState" "upTo" "I"] ++ wsX50 ++ wsX60)
def wsX5_restart : List Cond := .code yX5_restart cX5_restart 1 (some .int) :: ([.fieldLink RX5 26 "OutboxHouse$Target" "held" "LOutboxHouse$Row;", .fieldLink RX5 12 "OutboxHouse$Target" "memory" "LOutboxHouse$TargetState;", .fieldLink RX5 18 "OutboxHouse$Target" "disk" "LOutboxHouse$TargetState;", .methodLink RX5 93 yX3_clear, .instanceMethod yX3_clear, .selects RX3 yX3_clear yX3_clear, .initialized RX3, .code yX3_clear cX3_clear 1 none, .fieldLink RX3 23 "OutboxHouse$Row" "size" "I", .methodLink RX5 89 yX6_become, .instanceMethod yX6_become, .selects RX6 yX6_become yX6_become, .initialized RX6, .code yX6_become cX6_become 4 (some .int), .fieldLink RX6 15 "OutboxHouse$TargetState" "done" "[I", .fieldLink RX6 9 "OutboxHouse$TargetState" "values" "[I", .fieldLink RX6 30 "OutboxHouse$TargetState" "upTo" "I"] ++ wsX50 ++ wsX30 ++ wsX60)
def wsX5_diskIsWhole : List Cond := .code yX5_diskIsWhole cX5_diskIsWhole 5 (some .boolean) :: ([.fieldLink RX5 30 "OutboxHouse$Target" "changes" "LOutboxHouse$ChangeLog;", .fieldLink RX5 18 "OutboxHouse$Target" "disk" "LOutboxHouse$TargetState;", .fieldLink RX5 101 "OutboxHouse$Change" "last" "Z", .methodLink RX5 96 yX1_flushedAt, .instanceMethod yX1_flushedAt, .selects RX1 yX1_flushedAt yX1_flushedAt, .initialized RX1, .code yX1_flushedAt cX1_flushedAt 2 (some (.object "OutboxHouse$Change")), .fieldLink RX1 24 "OutboxHouse$ChangeLog" "flushed" "I", .fieldLink RX1 11 "OutboxHouse$ChangeLog" "rows" "[LOutboxHouse$Change;", .methodLink RX5 34 yX6_has, .instanceMethod yX6_has, .selects RX6 yX6_has yX6_has, .initialized RX6, .code yX6_has cX6_has 2 (some .boolean), .fieldLink RX6 18 "OutboxHouse$Change" "order" "I", .fieldLink RX6 15 "OutboxHouse$TargetState" "done" "[I", .fieldLink RX6 24 "OutboxHouse$Change" "key" "I"] ++ wsX50 ++ wsX00 ++ wsX10 ++ wsX60)
def wsX6_isAsFlushed : List Cond := .code yX6_isAsFlushed cX6_isAsFlushed 4 (some .boolean) :: ([.fieldLink RX6 18 "OutboxHouse$Change" "order" "I", .fieldLink RX6 15 "OutboxHouse$TargetState" "done" "[I", .fieldLink RX6 24 "OutboxHouse$Change" "key" "I", .fieldLink RX6 27 "OutboxHouse$Change" "value" "I", .fieldLink RX6 9 "OutboxHouse$TargetState" "values" "[I", .methodLink RX6 33 yX1_flushedAt, .instanceMethod yX1_flushedAt, .selects RX1 yX1_flushedAt yX1_flushedAt, .initialized RX1, .code yX1_flushedAt cX1_flushedAt 2 (some (.object "OutboxHouse$Change")), .fieldLink RX1 24 "OutboxHouse$ChangeLog" "flushed" "I", .fieldLink RX1 11 "OutboxHouse$ChangeLog" "rows" "[LOutboxHouse$Change;"] ++ wsX00 ++ wsX60 ++ wsX10)
def wsX7_init_r1 : List Cond := [Cond.methodLink RX7 1 objectInit, Cond.instanceMethod objectInit, Cond.code objectInit ⟨#[0xb1]⟩ 1 none, Cond.classLink RX7 7 RX1, Cond.instantiable RX1 4, Cond.initialized RX1, Cond.fieldLink RX7 10 "OutboxHouse" "changes" "LOutboxHouse$ChangeLog;", Cond.classLink RX7 16 RX4, Cond.instantiable RX4 6, Cond.initialized RX4, Cond.fieldLink RX7 21 "OutboxHouse" "source" "LOutboxHouse$Source;", Cond.classLink RX7 25 RX2, Cond.instantiable RX2 6, Cond.initialized RX2, Cond.fieldLink RX7 28 "OutboxHouse" "reader" "LOutboxHouse$Relay;", Cond.classLink RX7 32 RX5, Cond.instantiable RX5 7, Cond.initialized RX5, Cond.fieldLink RX7 35 "OutboxHouse" "target" "LOutboxHouse$Target;", Cond.instanceMethod yX1_init, Cond.code yX1_init cX1_init 1 none, Cond.methodLink RX1 3 objectInit, Cond.classLink RX1 9 RX0, Cond.fieldLink RX1 11 "OutboxHouse$ChangeLog" "rows" "[LOutboxHouse$Change;"]
def wsX7_init_r2 : List Cond := [Cond.methodLink RX7 18 yX4_init, Cond.instanceMethod yX4_init, Cond.code yX4_init cX4_init 2 none, Cond.methodLink RX4 3 objectInit, Cond.arrayClass .int, Cond.fieldLink RX4 9 "OutboxHouse$Source" "values" "[I", Cond.fieldLink RX4 15 "OutboxHouse$Source" "counts" "[I", Cond.fieldLink RX4 18 "OutboxHouse$Source" "owners" "[I", Cond.fieldLink RX4 21 "OutboxHouse$Source" "drafts" "[I", Cond.arrayClass .boolean, Cond.fieldLink RX4 24 "OutboxHouse$Source" "open" "[Z", Cond.fieldLink RX4 28 "OutboxHouse$Source" "changes" "LOutboxHouse$ChangeLog;", Cond.methodLink RX4 32 yJ7_fill_53178, Cond.static yJ7_fill_53178, Cond.initialized RJ7, Cond.code yJ7_fill_53178 cJ7_fill_53178 4 none, Cond.methodLink RX7 27 yX2_init, Cond.instanceMethod yX2_init, Cond.code yX2_init cX2_init 3 none, Cond.methodLink RX2 3 objectInit, Cond.classLink RX2 9 RX3, Cond.fieldLink RX2 11 "OutboxHouse$Relay" "lanes" "[LOutboxHouse$Row;", Cond.fieldLink RX2 17 "OutboxHouse$Relay" "changes" "LOutboxHouse$ChangeLog;", Cond.instantiable RX3 2]
def wsX7_init_r3 : List Cond := [Cond.initialized RX3, Cond.methodLink RX2 21 yX3_init, Cond.instanceMethod yX3_init, Cond.code yX3_init cX3_init 2 none, Cond.methodLink RX3 3 objectInit, Cond.methodLink RX3 9 Lib.Math.max.name, Cond.static Lib.Math.max.name, Cond.initialized "java/lang/Math", Cond.code Lib.Math.max.name Lib.Math.max.code 2 (some .int), Cond.classLink RX3 15 RX0, Cond.fieldLink RX3 17 "OutboxHouse$Row" "slots" "[LOutboxHouse$Change;", Cond.methodLink RX7 34 yX5_init, Cond.instanceMethod yX5_init, Cond.code yX5_init cX5_init 2 none, Cond.methodLink RX5 3 objectInit, Cond.classLink RX5 9 RX6, Cond.instantiable RX6 3, Cond.initialized RX6, Cond.fieldLink RX5 12 "OutboxHouse$Target" "memory" "LOutboxHouse$TargetState;", Cond.fieldLink RX5 18 "OutboxHouse$Target" "disk" "LOutboxHouse$TargetState;", Cond.classLink RX5 21 RX3, Cond.fieldLink RX5 26 "OutboxHouse$Target" "held" "LOutboxHouse$Row;", Cond.fieldLink RX5 30 "OutboxHouse$Target" "changes" "LOutboxHouse$ChangeLog;", Cond.instanceMethod yX6_init]
def wsX7_init_r4 : List Cond := [Cond.code yX6_init cX6_init 1 none, Cond.methodLink RX6 3 objectInit, Cond.fieldLink RX6 9 "OutboxHouse$TargetState" "values" "[I", Cond.fieldLink RX6 15 "OutboxHouse$TargetState" "done" "[I", Cond.methodLink RX5 23 yX3_init]
def wsX7_init : List Cond := .code yX7_init cX7_init 1 none :: ((wsX7_init_r1 ++ (wsX7_init_r2 ++ (wsX7_init_r3 ++ wsX7_init_r4))) ++ wsX10 ++ wsX70 ++ wsX40 ++ wsX20 ++ wsX50 ++ wsX30 ++ wsX60)
def wsX7_begin : List Cond := .code yX7_begin cX7_begin 1 (some .int) :: ([.fieldLink RX7 21 "OutboxHouse" "source" "LOutboxHouse$Source;", .methodLink RX7 39 yX4_openFirstFree, .instanceMethod yX4_openFirstFree, .selects RX4 yX4_openFirstFree yX4_openFirstFree, .initialized RX4, .code yX4_openFirstFree cX4_openFirstFree 2 (some .int), .fieldLink RX4 24 "OutboxHouse$Source" "open" "[Z"] ++ wsX70 ++ wsX40)
def wsX7_isKey : List Cond := .code yX7_isKey cX7_isKey 1 (some .boolean) :: ([])
def wsX7_write : List Cond := .code yX7_write cX7_write 4 (some .int) :: ([.fieldLink RX7 21 "OutboxHouse" "source" "LOutboxHouse$Source;", .methodLink RX7 43 yX4_isOpen, .instanceMethod yX4_isOpen, .selects RX4 yX4_isOpen yX4_isOpen, .initialized RX4, .code yX4_isOpen cX4_isOpen 2 (some .boolean), .fieldLink RX4 24 "OutboxHouse$Source" "open" "[Z", .methodLink RX7 47 yX7_isKey, .static yX7_isKey, .initialized RX7, .code yX7_isKey cX7_isKey 1 (some .boolean), .methodLink RX7 50 yX4_draft, .instanceMethod yX4_draft, .selects RX4 yX4_draft yX4_draft, .code yX4_draft cX4_draft 4 (some .boolean), .fieldLink RX4 18 "OutboxHouse$Source" "owners" "[I", .fieldLink RX4 21 "OutboxHouse$Source" "drafts" "[I"] ++ wsX70 ++ wsX40)
def wsX7_read : List Cond := .code yX7_read cX7_read 3 (some .int) :: ([.fieldLink RX7 21 "OutboxHouse" "source" "LOutboxHouse$Source;", .methodLink RX7 43 yX4_isOpen, .instanceMethod yX4_isOpen, .selects RX4 yX4_isOpen yX4_isOpen, .initialized RX4, .code yX4_isOpen cX4_isOpen 2 (some .boolean), .fieldLink RX4 24 "OutboxHouse$Source" "open" "[Z", .methodLink RX7 47 yX7_isKey, .static yX7_isKey, .initialized RX7, .code yX7_isKey cX7_isKey 1 (some .boolean), .methodLink RX7 54 yX4_seenBy, .instanceMethod yX4_seenBy, .selects RX4 yX4_seenBy yX4_seenBy, .code yX4_seenBy cX4_seenBy 3 (some .int), .fieldLink RX4 18 "OutboxHouse$Source" "owners" "[I", .fieldLink RX4 21 "OutboxHouse$Source" "drafts" "[I", .fieldLink RX4 9 "OutboxHouse$Source" "values" "[I"] ++ wsX70 ++ wsX40)
def wsX7_commit_r1 : List Cond := [Cond.fieldLink RX7 21 "OutboxHouse" "source" "LOutboxHouse$Source;", Cond.fieldLink RX7 10 "OutboxHouse" "changes" "LOutboxHouse$ChangeLog;", Cond.methodLink RX7 43 yX4_isOpen, Cond.instanceMethod yX4_isOpen, Cond.selects RX4 yX4_isOpen yX4_isOpen, Cond.initialized RX4, Cond.code yX4_isOpen cX4_isOpen 2 (some .boolean), Cond.fieldLink RX4 24 "OutboxHouse$Source" "open" "[Z", Cond.methodLink RX7 58 yX4_lockedKeys, Cond.instanceMethod yX4_lockedKeys, Cond.selects RX4 yX4_lockedKeys yX4_lockedKeys, Cond.code yX4_lockedKeys cX4_lockedKeys 4 (some .int), Cond.fieldLink RX4 18 "OutboxHouse$Source" "owners" "[I", Cond.methodLink RX7 62 yX1_hasRoomFor, Cond.instanceMethod yX1_hasRoomFor, Cond.selects RX1 yX1_hasRoomFor yX1_hasRoomFor, Cond.initialized RX1, Cond.code yX1_hasRoomFor cX1_hasRoomFor 2 (some .boolean), Cond.fieldLink RX1 17 "OutboxHouse$ChangeLog" "end" "I", Cond.methodLink RX7 65 yX4_putIntoLog, Cond.instanceMethod yX4_putIntoLog, Cond.selects RX4 yX4_putIntoLog yX4_putIntoLog, Cond.code yX4_putIntoLog cX4_putIntoLog 5 none, Cond.fieldLink RX4 28 "OutboxHouse$Source" "changes" "LOutboxHouse$ChangeLog;"]
def wsX7_commit_r2 : List Cond := [Cond.fieldLink RX4 21 "OutboxHouse$Source" "drafts" "[I", Cond.fieldLink RX4 15 "OutboxHouse$Source" "counts" "[I", Cond.methodLink RX4 38 yX1_append, Cond.instanceMethod yX1_append, Cond.selects RX1 yX1_append yX1_append, Cond.code yX1_append cX1_append 5 none, Cond.fieldLink RX1 11 "OutboxHouse$ChangeLog" "rows" "[LOutboxHouse$Change;", Cond.classLink RX1 9 RX0, Cond.instantiable RX0 5, Cond.initialized RX0, Cond.methodLink RX1 21 yX0_init, Cond.instanceMethod yX0_init, Cond.code yX0_init cX0_init 6 none, Cond.methodLink RX0 1 objectInit, Cond.instanceMethod objectInit, Cond.code objectInit ⟨#[0xb1]⟩ 1 none, Cond.fieldLink RX0 7 "OutboxHouse$Change" "place" "I", Cond.fieldLink RX0 13 "OutboxHouse$Change" "key" "I", Cond.fieldLink RX0 16 "OutboxHouse$Change" "value" "I", Cond.fieldLink RX0 19 "OutboxHouse$Change" "order" "I", Cond.fieldLink RX0 22 "OutboxHouse$Change" "last" "Z", Cond.methodLink RX4 44 yX4_finish, Cond.instanceMethod yX4_finish, Cond.selects RX4 yX4_finish yX4_finish]
def wsX7_commit_r3 : List Cond := [Cond.code yX4_finish cX4_finish 4 none]
def wsX7_commit : List Cond := .code yX7_commit cX7_commit 3 (some .int) :: ((wsX7_commit_r1 ++ (wsX7_commit_r2 ++ wsX7_commit_r3)) ++ wsX70 ++ wsX40 ++ wsX10 ++ wsX00)
def wsX7_abort : List Cond := .code yX7_abort cX7_abort 3 (some .int) :: ([.fieldLink RX7 21 "OutboxHouse" "source" "LOutboxHouse$Source;", .methodLink RX7 43 yX4_isOpen, .instanceMethod yX4_isOpen, .selects RX4 yX4_isOpen yX4_isOpen, .initialized RX4, .code yX4_isOpen cX4_isOpen 2 (some .boolean), .fieldLink RX4 24 "OutboxHouse$Source" "open" "[Z", .methodLink RX7 58 yX4_lockedKeys, .instanceMethod yX4_lockedKeys, .selects RX4 yX4_lockedKeys yX4_lockedKeys, .code yX4_lockedKeys cX4_lockedKeys 4 (some .int), .fieldLink RX4 18 "OutboxHouse$Source" "owners" "[I", .methodLink RX7 69 yX4_giveUp, .instanceMethod yX4_giveUp, .selects RX4 yX4_giveUp yX4_giveUp, .code yX4_giveUp cX4_giveUp 2 none, .methodLink RX4 44 yX4_finish, .instanceMethod yX4_finish, .selects RX4 yX4_finish yX4_finish, .code yX4_finish cX4_finish 4 none] ++ wsX70 ++ wsX40)
def wsX7_flush : List Cond := .code yX7_flush cX7_flush 1 (some .int) :: ([.fieldLink RX7 21 "OutboxHouse" "source" "LOutboxHouse$Source;", .methodLink RX7 73 yX4_flushChanges, .instanceMethod yX4_flushChanges, .selects RX4 yX4_flushChanges yX4_flushChanges, .initialized RX4, .code yX4_flushChanges cX4_flushChanges 4 (some .int), .fieldLink RX4 28 "OutboxHouse$Source" "changes" "LOutboxHouse$ChangeLog;", .fieldLink RX4 9 "OutboxHouse$Source" "values" "[I", .fieldLink RX4 56 "OutboxHouse$Change" "key" "I", .fieldLink RX4 61 "OutboxHouse$Change" "value" "I", .fieldLink RX4 15 "OutboxHouse$Source" "counts" "[I", .fieldLink RX4 64 "OutboxHouse$Change" "order" "I", .fieldLink RX4 18 "OutboxHouse$Source" "owners" "[I", .methodLink RX4 52 yX1_at, .instanceMethod yX1_at, .selects RX1 yX1_at yX1_at, .initialized RX1, .code yX1_at cX1_at 2 (some (.object "OutboxHouse$Change")), .fieldLink RX1 17 "OutboxHouse$ChangeLog" "end" "I", .fieldLink RX1 11 "OutboxHouse$ChangeLog" "rows" "[LOutboxHouse$Change;"] ++ wsX70 ++ wsX40 ++ wsX10 ++ wsX00)
def wsX7_crash_r1 : List Cond := [Cond.fieldLink RX7 76 "OutboxHouse" "crashes" "I", Cond.fieldLink RX7 21 "OutboxHouse" "source" "LOutboxHouse$Source;", Cond.fieldLink RX7 28 "OutboxHouse" "reader" "LOutboxHouse$Relay;", Cond.fieldLink RX7 35 "OutboxHouse" "target" "LOutboxHouse$Target;", Cond.methodLink RX7 80 yX4_restart, Cond.instanceMethod yX4_restart, Cond.selects RX4 yX4_restart yX4_restart, Cond.initialized RX4, Cond.code yX4_restart cX4_restart 2 (some .int), Cond.fieldLink RX4 24 "OutboxHouse$Source" "open" "[Z", Cond.fieldLink RX4 18 "OutboxHouse$Source" "owners" "[I", Cond.fieldLink RX4 28 "OutboxHouse$Source" "changes" "LOutboxHouse$ChangeLog;", Cond.methodLink RX4 32 yJ7_fill_53178, Cond.static yJ7_fill_53178, Cond.initialized RJ7, Cond.code yJ7_fill_53178 cJ7_fill_53178 4 none, Cond.methodLink RX4 70 yX1_dropUnflushed, Cond.instanceMethod yX1_dropUnflushed, Cond.selects RX1 yX1_dropUnflushed yX1_dropUnflushed, Cond.initialized RX1, Cond.code yX1_dropUnflushed cX1_dropUnflushed 2 (some .int), Cond.fieldLink RX1 17 "OutboxHouse$ChangeLog" "end" "I", Cond.fieldLink RX1 24 "OutboxHouse$ChangeLog" "flushed" "I", Cond.methodLink RX7 83 yX2_restart]
def wsX7_crash_r2 : List Cond := [Cond.instanceMethod yX2_restart, Cond.selects RX2 yX2_restart yX2_restart, Cond.initialized RX2, Cond.code yX2_restart cX2_restart 2 (some .int), Cond.fieldLink RX2 28 "OutboxHouse$Relay" "position" "I", Cond.fieldLink RX2 63 "OutboxHouse$Relay" "mark" "I", Cond.methodLink RX7 84 yX5_restart, Cond.instanceMethod yX5_restart, Cond.selects RX5 yX5_restart yX5_restart, Cond.initialized RX5, Cond.code yX5_restart cX5_restart 1 (some .int), Cond.fieldLink RX5 26 "OutboxHouse$Target" "held" "LOutboxHouse$Row;", Cond.fieldLink RX5 12 "OutboxHouse$Target" "memory" "LOutboxHouse$TargetState;", Cond.fieldLink RX5 18 "OutboxHouse$Target" "disk" "LOutboxHouse$TargetState;", Cond.methodLink RX5 93 yX3_clear, Cond.instanceMethod yX3_clear, Cond.selects RX3 yX3_clear yX3_clear, Cond.initialized RX3, Cond.code yX3_clear cX3_clear 1 none, Cond.fieldLink RX3 23 "OutboxHouse$Row" "size" "I", Cond.methodLink RX5 89 yX6_become, Cond.instanceMethod yX6_become, Cond.selects RX6 yX6_become yX6_become, Cond.initialized RX6]
def wsX7_crash_r3 : List Cond := [Cond.code yX6_become cX6_become 4 (some .int), Cond.fieldLink RX6 15 "OutboxHouse$TargetState" "done" "[I", Cond.fieldLink RX6 9 "OutboxHouse$TargetState" "values" "[I", Cond.fieldLink RX6 30 "OutboxHouse$TargetState" "upTo" "I"]
def wsX7_crash : List Cond := .code yX7_crash cX7_crash 2 (some .int) :: ((wsX7_crash_r1 ++ (wsX7_crash_r2 ++ wsX7_crash_r3)) ++ wsX70 ++ wsX40 ++ wsX10 ++ wsX20 ++ wsX50 ++ wsX30 ++ wsX60)
def wsX7_key : List Cond := .code yX7_key cX7_key 3 (some .int) :: ([.fieldLink RX7 21 "OutboxHouse" "source" "LOutboxHouse$Source;", .fieldLink RX7 35 "OutboxHouse" "target" "LOutboxHouse$Target;", .methodLink RX7 47 yX7_isKey, .static yX7_isKey, .initialized RX7, .code yX7_isKey cX7_isKey 1 (some .boolean), .methodLink RX7 92 yX4_lockOf, .instanceMethod yX4_lockOf, .selects RX4 yX4_lockOf yX4_lockOf, .initialized RX4, .code yX4_lockOf cX4_lockOf 2 (some .int), .fieldLink RX4 18 "OutboxHouse$Source" "owners" "[I"] ++ wsX70 ++ wsX40 ++ wsX50 ++ wsX60)
def wsX7_log : List Cond := .code yX7_log cX7_log 4 (some .int) :: ([.fieldLink RX7 10 "OutboxHouse" "changes" "LOutboxHouse$ChangeLog;", .fieldLink RX7 115 "OutboxHouse$Change" "key" "I", .fieldLink RX7 120 "OutboxHouse$Change" "value" "I", .fieldLink RX7 123 "OutboxHouse$Change" "order" "I", .fieldLink RX7 129 "OutboxHouse$Change" "last" "Z", .methodLink RX7 108 yX1_at, .instanceMethod yX1_at, .selects RX1 yX1_at yX1_at, .initialized RX1, .code yX1_at cX1_at 2 (some (.object "OutboxHouse$Change")), .fieldLink RX1 17 "OutboxHouse$ChangeLog" "end" "I", .fieldLink RX1 11 "OutboxHouse$ChangeLog" "rows" "[LOutboxHouse$Change;", .methodLink RX7 112 yX1_isCut, .instanceMethod yX1_isCut, .selects RX1 yX1_isCut yX1_isCut, .code yX1_isCut cX1_isCut 2 (some .boolean), .fieldLink RX1 27 "OutboxHouse$ChangeLog" "first" "I", .methodLink RX7 126 yX1_isFlushed, .instanceMethod yX1_isFlushed, .selects RX1 yX1_isFlushed yX1_isFlushed, .code yX1_isFlushed cX1_isFlushed 2 (some .boolean), .fieldLink RX1 24 "OutboxHouse$ChangeLog" "flushed" "I"] ++ wsX70 ++ wsX00 ++ wsX10)
def wsX7_relay_r1 : List Cond := [Cond.fieldLink RX7 28 "OutboxHouse" "reader" "LOutboxHouse$Relay;", Cond.methodLink RX7 133 yX2_readOn, Cond.instanceMethod yX2_readOn, Cond.selects RX2 yX2_readOn yX2_readOn, Cond.initialized RX2, Cond.code yX2_readOn cX2_readOn 3 (some .int), Cond.methodLink RX2 24 yX2_readOne, Cond.instanceMethod yX2_readOne, Cond.selects RX2 yX2_readOne yX2_readOne, Cond.code yX2_readOne cX2_readOne 3 (some .boolean), Cond.fieldLink RX2 17 "OutboxHouse$Relay" "changes" "LOutboxHouse$ChangeLog;", Cond.fieldLink RX2 28 "OutboxHouse$Relay" "position" "I", Cond.fieldLink RX2 11 "OutboxHouse$Relay" "lanes" "[LOutboxHouse$Row;", Cond.fieldLink RX2 38 "OutboxHouse$Change" "key" "I", Cond.fieldLink RX2 50 "OutboxHouse$Relay" "sentEver" "I", Cond.methodLink RX2 32 yX1_flushedAt, Cond.instanceMethod yX1_flushedAt, Cond.selects RX1 yX1_flushedAt yX1_flushedAt, Cond.initialized RX1, Cond.code yX1_flushedAt cX1_flushedAt 2 (some (.object "OutboxHouse$Change")), Cond.fieldLink RX1 24 "OutboxHouse$ChangeLog" "flushed" "I", Cond.fieldLink RX1 11 "OutboxHouse$ChangeLog" "rows" "[LOutboxHouse$Change;", Cond.methodLink RX2 43 yX3_isFull, Cond.instanceMethod yX3_isFull]
def wsX7_relay_r2 : List Cond := [Cond.selects RX3 yX3_isFull yX3_isFull, Cond.initialized RX3, Cond.code yX3_isFull cX3_isFull 1 (some .boolean), Cond.fieldLink RX3 23 "OutboxHouse$Row" "size" "I", Cond.fieldLink RX3 17 "OutboxHouse$Row" "slots" "[LOutboxHouse$Change;", Cond.methodLink RX2 46 yX3_add, Cond.instanceMethod yX3_add, Cond.selects RX3 yX3_add yX3_add, Cond.code yX3_add cX3_add 2 none]
def wsX7_relay : List Cond := .code yX7_relay cX7_relay 2 (some .int) :: ((wsX7_relay_r1 ++ wsX7_relay_r2) ++ wsX70 ++ wsX20 ++ wsX00 ++ wsX10 ++ wsX30)
def wsX7_cut : List Cond := .code yX7_cut cX7_cut 1 (some .int) :: ([.fieldLink RX7 10 "OutboxHouse" "changes" "LOutboxHouse$ChangeLog;", .fieldLink RX7 28 "OutboxHouse" "reader" "LOutboxHouse$Relay;", .methodLink RX7 139 yX1_cutUpTo, .instanceMethod yX1_cutUpTo, .selects RX1 yX1_cutUpTo yX1_cutUpTo, .initialized RX1, .code yX1_cutUpTo cX1_cutUpTo 3 (some .int), .fieldLink RX1 27 "OutboxHouse$ChangeLog" "first" "I"] ++ wsX70 ++ wsX20 ++ wsX10)
def wsX7_deliver_r1 : List Cond := [Cond.fieldLink RX7 28 "OutboxHouse" "reader" "LOutboxHouse$Relay;", Cond.fieldLink RX7 35 "OutboxHouse" "target" "LOutboxHouse$Target;", Cond.methodLink RX7 142 yX2_letterAt, Cond.instanceMethod yX2_letterAt, Cond.selects RX2 yX2_letterAt yX2_letterAt, Cond.initialized RX2, Cond.code yX2_letterAt cX2_letterAt 3 (some (.object "OutboxHouse$Change")), Cond.fieldLink RX2 11 "OutboxHouse$Relay" "lanes" "[LOutboxHouse$Row;", Cond.static yX7_isLane, Cond.initialized RX7, Cond.code yX7_isLane cX7_isLane 1 (some .boolean), Cond.methodLink RX2 57 yX3_at, Cond.instanceMethod yX3_at, Cond.selects RX3 yX3_at yX3_at, Cond.initialized RX3, Cond.code yX3_at cX3_at 2 (some (.object "OutboxHouse$Change")), Cond.fieldLink RX3 23 "OutboxHouse$Row" "size" "I", Cond.fieldLink RX3 17 "OutboxHouse$Row" "slots" "[LOutboxHouse$Change;", Cond.methodLink RX7 146 yX2_dropLetter, Cond.instanceMethod yX2_dropLetter, Cond.selects RX2 yX2_dropLetter yX2_dropLetter, Cond.code yX2_dropLetter cX2_dropLetter 3 none, Cond.methodLink RX2 60 yX3_remove, Cond.instanceMethod yX3_remove]
def wsX7_deliver_r2 : List Cond := [Cond.selects RX3 yX3_remove yX3_remove, Cond.code yX3_remove cX3_remove 3 none, Cond.methodLink RX7 149 yX5_take, Cond.instanceMethod yX5_take, Cond.selects RX5 yX5_take yX5_take, Cond.initialized RX5, Cond.code yX5_take cX5_take 2 (some .int), Cond.fieldLink RX5 12 "OutboxHouse$Target" "memory" "LOutboxHouse$TargetState;", Cond.fieldLink RX5 26 "OutboxHouse$Target" "held" "LOutboxHouse$Row;", Cond.fieldLink RX5 38 "OutboxHouse$Change" "key" "I", Cond.fieldLink RX5 44 "OutboxHouse$Change" "order" "I", Cond.fieldLink RX5 51 "OutboxHouse$Target" "twiceEver" "I", Cond.fieldLink RX5 69 "OutboxHouse$Target" "lostForRoom" "I", Cond.methodLink RX5 34 yX6_has, Cond.instanceMethod yX6_has, Cond.selects RX6 yX6_has yX6_has, Cond.initialized RX6, Cond.code yX6_has cX6_has 2 (some .boolean), Cond.fieldLink RX6 18 "OutboxHouse$Change" "order" "I", Cond.fieldLink RX6 15 "OutboxHouse$TargetState" "done" "[I", Cond.fieldLink RX6 24 "OutboxHouse$Change" "key" "I", Cond.methodLink RX5 47 yX3_find, Cond.instanceMethod yX3_find, Cond.selects RX3 yX3_find yX3_find]
def wsX7_deliver_r3 : List Cond := [Cond.code yX3_find cX3_find 5 (some .int), Cond.fieldLink RX3 27 "OutboxHouse$Change" "key" "I", Cond.fieldLink RX3 30 "OutboxHouse$Change" "order" "I", Cond.methodLink RX5 58 yX5_doNow, Cond.instanceMethod yX5_doNow, Cond.selects RX5 yX5_doNow yX5_doNow, Cond.code yX5_doNow cX5_doNow 2 none, Cond.fieldLink RX5 30 "OutboxHouse$Target" "changes" "LOutboxHouse$ChangeLog;", Cond.fieldLink RX5 79 "OutboxHouse$Target" "doneEver" "I", Cond.methodLink RX5 75 yX6_apply, Cond.instanceMethod yX6_apply, Cond.selects RX6 yX6_apply yX6_apply, Cond.code yX6_apply cX6_apply 4 none, Cond.fieldLink RX6 9 "OutboxHouse$TargetState" "values" "[I", Cond.fieldLink RX6 27 "OutboxHouse$Change" "value" "I", Cond.fieldLink RX6 30 "OutboxHouse$TargetState" "upTo" "I", Cond.methodLink RX6 33 yX1_flushedAt, Cond.instanceMethod yX1_flushedAt, Cond.selects RX1 yX1_flushedAt yX1_flushedAt, Cond.initialized RX1, Cond.code yX1_flushedAt cX1_flushedAt 2 (some (.object "OutboxHouse$Change")), Cond.fieldLink RX1 24 "OutboxHouse$ChangeLog" "flushed" "I", Cond.fieldLink RX1 11 "OutboxHouse$ChangeLog" "rows" "[LOutboxHouse$Change;", Cond.methodLink RX6 39 yX6_has]
def wsX7_deliver_r4 : List Cond := [Cond.methodLink RX5 62 yX5_doHeldThatFollow, Cond.instanceMethod yX5_doHeldThatFollow, Cond.selects RX5 yX5_doHeldThatFollow yX5_doHeldThatFollow, Cond.code yX5_doHeldThatFollow cX5_doHeldThatFollow 5 none, Cond.methodLink RX5 82 yX3_at, Cond.methodLink RX5 86 yX3_remove, Cond.methodLink RX5 65 yX3_isFull, Cond.instanceMethod yX3_isFull, Cond.selects RX3 yX3_isFull yX3_isFull, Cond.code yX3_isFull cX3_isFull 1 (some .boolean), Cond.methodLink RX5 72 yX3_add, Cond.instanceMethod yX3_add, Cond.selects RX3 yX3_add yX3_add, Cond.code yX3_add cX3_add 2 none]
def wsX7_deliver : List Cond := .code yX7_deliver cX7_deliver 5 (some .int) :: ((wsX7_deliver_r1 ++ (wsX7_deliver_r2 ++ (wsX7_deliver_r3 ++ wsX7_deliver_r4))) ++ wsX70 ++ wsX20 ++ wsX30 ++ wsX50 ++ wsX00 ++ wsX60 ++ wsX10)
def wsX7_lose_r1 : List Cond := [Cond.fieldLink RX7 28 "OutboxHouse" "reader" "LOutboxHouse$Relay;", Cond.fieldLink RX7 156 "OutboxHouse$Change" "place" "I", Cond.methodLink RX7 142 yX2_letterAt, Cond.instanceMethod yX2_letterAt, Cond.selects RX2 yX2_letterAt yX2_letterAt, Cond.initialized RX2, Cond.code yX2_letterAt cX2_letterAt 3 (some (.object "OutboxHouse$Change")), Cond.fieldLink RX2 11 "OutboxHouse$Relay" "lanes" "[LOutboxHouse$Row;", Cond.static yX7_isLane, Cond.initialized RX7, Cond.code yX7_isLane cX7_isLane 1 (some .boolean), Cond.methodLink RX2 57 yX3_at, Cond.instanceMethod yX3_at, Cond.selects RX3 yX3_at yX3_at, Cond.initialized RX3, Cond.code yX3_at cX3_at 2 (some (.object "OutboxHouse$Change")), Cond.fieldLink RX3 23 "OutboxHouse$Row" "size" "I", Cond.fieldLink RX3 17 "OutboxHouse$Row" "slots" "[LOutboxHouse$Change;", Cond.methodLink RX7 146 yX2_dropLetter, Cond.instanceMethod yX2_dropLetter, Cond.selects RX2 yX2_dropLetter yX2_dropLetter, Cond.code yX2_dropLetter cX2_dropLetter 3 none, Cond.methodLink RX2 60 yX3_remove, Cond.instanceMethod yX3_remove]
def wsX7_lose_r2 : List Cond := [Cond.selects RX3 yX3_remove yX3_remove, Cond.code yX3_remove cX3_remove 3 none]
def wsX7_lose : List Cond := .code yX7_lose cX7_lose 4 (some .int) :: ((wsX7_lose_r1 ++ wsX7_lose_r2) ++ wsX70 ++ wsX20 ++ wsX00 ++ wsX30)
def wsX7_letter : List Cond := .code yX7_letter cX7_letter 5 (some .int) :: ([.fieldLink RX7 28 "OutboxHouse" "reader" "LOutboxHouse$Relay;", .fieldLink RX7 156 "OutboxHouse$Change" "place" "I", .fieldLink RX7 115 "OutboxHouse$Change" "key" "I", .fieldLink RX7 123 "OutboxHouse$Change" "order" "I", .fieldLink RX7 120 "OutboxHouse$Change" "value" "I", .methodLink RX7 159 yX7_isLane, .static yX7_isLane, .initialized RX7, .code yX7_isLane cX7_isLane 1 (some .boolean), .methodLink RX7 142 yX2_letterAt, .instanceMethod yX2_letterAt, .selects RX2 yX2_letterAt yX2_letterAt, .initialized RX2, .code yX2_letterAt cX2_letterAt 3 (some (.object "OutboxHouse$Change")), .fieldLink RX2 11 "OutboxHouse$Relay" "lanes" "[LOutboxHouse$Row;", .methodLink RX2 57 yX3_at, .instanceMethod yX3_at, .selects RX3 yX3_at yX3_at, .initialized RX3, .code yX3_at cX3_at 2 (some (.object "OutboxHouse$Change")), .fieldLink RX3 23 "OutboxHouse$Row" "size" "I", .fieldLink RX3 17 "OutboxHouse$Row" "slots" "[LOutboxHouse$Change;"] ++ wsX70 ++ wsX00 ++ wsX20 ++ wsX30)
def wsX7_save : List Cond := .code yX7_save cX7_save 1 (some .int) :: ([.fieldLink RX7 35 "OutboxHouse" "target" "LOutboxHouse$Target;", .methodLink RX7 162 yX5_saveMemory, .instanceMethod yX5_saveMemory, .selects RX5 yX5_saveMemory yX5_saveMemory, .initialized RX5, .code yX5_saveMemory cX5_saveMemory 1 (some .int), .fieldLink RX5 18 "OutboxHouse$Target" "disk" "LOutboxHouse$TargetState;", .fieldLink RX5 12 "OutboxHouse$Target" "memory" "LOutboxHouse$TargetState;", .methodLink RX5 89 yX6_become, .instanceMethod yX6_become, .selects RX6 yX6_become yX6_become, .initialized RX6, .code yX6_become cX6_become 4 (some .int), .fieldLink RX6 15 "OutboxHouse$TargetState" "done" "[I", .fieldLink RX6 9 "OutboxHouse$TargetState" "values" "[I", .fieldLink RX6 30 "OutboxHouse$TargetState" "upTo" "I"] ++ wsX70 ++ wsX50 ++ wsX60)
def wsX7_ack : List Cond := .code yX7_ack cX7_ack 2 (some .int) :: ([.fieldLink RX7 28 "OutboxHouse" "reader" "LOutboxHouse$Relay;", .fieldLink RX7 35 "OutboxHouse" "target" "LOutboxHouse$Target;", .methodLink RX7 168 yX2_hear, .instanceMethod yX2_hear, .selects RX2 yX2_hear yX2_hear, .initialized RX2, .code yX2_hear cX2_hear 2 none, .fieldLink RX2 63 "OutboxHouse$Relay" "mark" "I", .methodLink RX2 66 Lib.Math.max.name, .static Lib.Math.max.name, .initialized "java/lang/Math", .code Lib.Math.max.name Lib.Math.max.code 2 (some .int), .fieldLink RX2 28 "OutboxHouse$Relay" "position" "I"] ++ wsX70 ++ wsX50 ++ wsX60 ++ wsX20)
def wsX7_deliverAll_r1 : List Cond := [Cond.fieldLink RX7 28 "OutboxHouse" "reader" "LOutboxHouse$Relay;", Cond.fieldLink RX7 35 "OutboxHouse" "target" "LOutboxHouse$Target;", Cond.methodLink RX7 225 yX3_at, Cond.instanceMethod yX3_at, Cond.selects RX3 yX3_at yX3_at, Cond.initialized RX3, Cond.code yX3_at cX3_at 2 (some (.object "OutboxHouse$Change")), Cond.fieldLink RX3 23 "OutboxHouse$Row" "size" "I", Cond.fieldLink RX3 17 "OutboxHouse$Row" "slots" "[LOutboxHouse$Change;", Cond.methodLink RX7 149 yX5_take, Cond.instanceMethod yX5_take, Cond.selects RX5 yX5_take yX5_take, Cond.initialized RX5, Cond.code yX5_take cX5_take 2 (some .int), Cond.fieldLink RX5 12 "OutboxHouse$Target" "memory" "LOutboxHouse$TargetState;", Cond.fieldLink RX5 26 "OutboxHouse$Target" "held" "LOutboxHouse$Row;", Cond.fieldLink RX5 38 "OutboxHouse$Change" "key" "I", Cond.fieldLink RX5 44 "OutboxHouse$Change" "order" "I", Cond.fieldLink RX5 51 "OutboxHouse$Target" "twiceEver" "I", Cond.fieldLink RX5 69 "OutboxHouse$Target" "lostForRoom" "I", Cond.methodLink RX5 34 yX6_has, Cond.instanceMethod yX6_has, Cond.selects RX6 yX6_has yX6_has, Cond.initialized RX6]
def wsX7_deliverAll_r2 : List Cond := [Cond.code yX6_has cX6_has 2 (some .boolean), Cond.fieldLink RX6 18 "OutboxHouse$Change" "order" "I", Cond.fieldLink RX6 15 "OutboxHouse$TargetState" "done" "[I", Cond.fieldLink RX6 24 "OutboxHouse$Change" "key" "I", Cond.methodLink RX5 47 yX3_find, Cond.instanceMethod yX3_find, Cond.selects RX3 yX3_find yX3_find, Cond.code yX3_find cX3_find 5 (some .int), Cond.fieldLink RX3 27 "OutboxHouse$Change" "key" "I", Cond.fieldLink RX3 30 "OutboxHouse$Change" "order" "I", Cond.methodLink RX5 58 yX5_doNow, Cond.instanceMethod yX5_doNow, Cond.selects RX5 yX5_doNow yX5_doNow, Cond.code yX5_doNow cX5_doNow 2 none, Cond.fieldLink RX5 30 "OutboxHouse$Target" "changes" "LOutboxHouse$ChangeLog;", Cond.fieldLink RX5 79 "OutboxHouse$Target" "doneEver" "I", Cond.methodLink RX5 75 yX6_apply, Cond.instanceMethod yX6_apply, Cond.selects RX6 yX6_apply yX6_apply, Cond.code yX6_apply cX6_apply 4 none, Cond.fieldLink RX6 9 "OutboxHouse$TargetState" "values" "[I", Cond.fieldLink RX6 27 "OutboxHouse$Change" "value" "I", Cond.fieldLink RX6 30 "OutboxHouse$TargetState" "upTo" "I", Cond.methodLink RX6 33 yX1_flushedAt]
def wsX7_deliverAll_r3 : List Cond := [Cond.instanceMethod yX1_flushedAt, Cond.selects RX1 yX1_flushedAt yX1_flushedAt, Cond.initialized RX1, Cond.code yX1_flushedAt cX1_flushedAt 2 (some (.object "OutboxHouse$Change")), Cond.fieldLink RX1 24 "OutboxHouse$ChangeLog" "flushed" "I", Cond.fieldLink RX1 11 "OutboxHouse$ChangeLog" "rows" "[LOutboxHouse$Change;", Cond.methodLink RX6 39 yX6_has, Cond.methodLink RX5 62 yX5_doHeldThatFollow, Cond.instanceMethod yX5_doHeldThatFollow, Cond.selects RX5 yX5_doHeldThatFollow yX5_doHeldThatFollow, Cond.code yX5_doHeldThatFollow cX5_doHeldThatFollow 5 none, Cond.methodLink RX5 82 yX3_at, Cond.methodLink RX5 86 yX3_remove, Cond.instanceMethod yX3_remove, Cond.selects RX3 yX3_remove yX3_remove, Cond.code yX3_remove cX3_remove 3 none, Cond.methodLink RX5 65 yX3_isFull, Cond.instanceMethod yX3_isFull, Cond.selects RX3 yX3_isFull yX3_isFull, Cond.code yX3_isFull cX3_isFull 1 (some .boolean), Cond.methodLink RX5 72 yX3_add, Cond.instanceMethod yX3_add, Cond.selects RX3 yX3_add yX3_add, Cond.code yX3_add cX3_add 2 none]
def wsX7_deliverAll_r4 : List Cond := [Cond.methodLink RX7 226 yX3_clear, Cond.instanceMethod yX3_clear, Cond.selects RX3 yX3_clear yX3_clear, Cond.code yX3_clear cX3_clear 1 none]
def wsX7_deliverAll : List Cond := .code yX7_deliverAll cX7_deliverAll 5 none :: ((wsX7_deliverAll_r1 ++ (wsX7_deliverAll_r2 ++ (wsX7_deliverAll_r3 ++ wsX7_deliverAll_r4))) ++ wsX70 ++ wsX20 ++ wsX30 ++ wsX50 ++ wsX00 ++ wsX60 ++ wsX10)
def wsX7_flow_r1 : List Cond := [Cond.fieldLink RX7 35 "OutboxHouse" "target" "LOutboxHouse$Target;", Cond.fieldLink RX7 28 "OutboxHouse" "reader" "LOutboxHouse$Relay;", Cond.methodLink RX7 174 yX7_deliverAll, Cond.instanceMethod yX7_deliverAll, Cond.selects RX7 yX7_deliverAll yX7_deliverAll, Cond.initialized RX7, Cond.code yX7_deliverAll cX7_deliverAll 5 none, Cond.methodLink RX7 225 yX3_at, Cond.instanceMethod yX3_at, Cond.selects RX3 yX3_at yX3_at, Cond.initialized RX3, Cond.code yX3_at cX3_at 2 (some (.object "OutboxHouse$Change")), Cond.fieldLink RX3 23 "OutboxHouse$Row" "size" "I", Cond.fieldLink RX3 17 "OutboxHouse$Row" "slots" "[LOutboxHouse$Change;", Cond.methodLink RX7 149 yX5_take, Cond.instanceMethod yX5_take, Cond.selects RX5 yX5_take yX5_take, Cond.initialized RX5, Cond.code yX5_take cX5_take 2 (some .int), Cond.fieldLink RX5 12 "OutboxHouse$Target" "memory" "LOutboxHouse$TargetState;", Cond.fieldLink RX5 26 "OutboxHouse$Target" "held" "LOutboxHouse$Row;", Cond.fieldLink RX5 38 "OutboxHouse$Change" "key" "I", Cond.fieldLink RX5 44 "OutboxHouse$Change" "order" "I", Cond.fieldLink RX5 51 "OutboxHouse$Target" "twiceEver" "I"]
def wsX7_flow_r2 : List Cond := [Cond.fieldLink RX5 69 "OutboxHouse$Target" "lostForRoom" "I", Cond.methodLink RX5 34 yX6_has, Cond.instanceMethod yX6_has, Cond.selects RX6 yX6_has yX6_has, Cond.initialized RX6, Cond.code yX6_has cX6_has 2 (some .boolean), Cond.fieldLink RX6 18 "OutboxHouse$Change" "order" "I", Cond.fieldLink RX6 15 "OutboxHouse$TargetState" "done" "[I", Cond.fieldLink RX6 24 "OutboxHouse$Change" "key" "I", Cond.methodLink RX5 47 yX3_find, Cond.instanceMethod yX3_find, Cond.selects RX3 yX3_find yX3_find, Cond.code yX3_find cX3_find 5 (some .int), Cond.fieldLink RX3 27 "OutboxHouse$Change" "key" "I", Cond.fieldLink RX3 30 "OutboxHouse$Change" "order" "I", Cond.methodLink RX5 58 yX5_doNow, Cond.instanceMethod yX5_doNow, Cond.selects RX5 yX5_doNow yX5_doNow, Cond.code yX5_doNow cX5_doNow 2 none, Cond.fieldLink RX5 30 "OutboxHouse$Target" "changes" "LOutboxHouse$ChangeLog;", Cond.fieldLink RX5 79 "OutboxHouse$Target" "doneEver" "I", Cond.methodLink RX5 75 yX6_apply, Cond.instanceMethod yX6_apply, Cond.selects RX6 yX6_apply yX6_apply]
def wsX7_flow_r3 : List Cond := [Cond.code yX6_apply cX6_apply 4 none, Cond.fieldLink RX6 9 "OutboxHouse$TargetState" "values" "[I", Cond.fieldLink RX6 27 "OutboxHouse$Change" "value" "I", Cond.fieldLink RX6 30 "OutboxHouse$TargetState" "upTo" "I", Cond.methodLink RX6 33 yX1_flushedAt, Cond.instanceMethod yX1_flushedAt, Cond.selects RX1 yX1_flushedAt yX1_flushedAt, Cond.initialized RX1, Cond.code yX1_flushedAt cX1_flushedAt 2 (some (.object "OutboxHouse$Change")), Cond.fieldLink RX1 24 "OutboxHouse$ChangeLog" "flushed" "I", Cond.fieldLink RX1 11 "OutboxHouse$ChangeLog" "rows" "[LOutboxHouse$Change;", Cond.methodLink RX6 39 yX6_has, Cond.methodLink RX5 62 yX5_doHeldThatFollow, Cond.instanceMethod yX5_doHeldThatFollow, Cond.selects RX5 yX5_doHeldThatFollow yX5_doHeldThatFollow, Cond.code yX5_doHeldThatFollow cX5_doHeldThatFollow 5 none, Cond.methodLink RX5 82 yX3_at, Cond.methodLink RX5 86 yX3_remove, Cond.instanceMethod yX3_remove, Cond.selects RX3 yX3_remove yX3_remove, Cond.code yX3_remove cX3_remove 3 none, Cond.methodLink RX5 65 yX3_isFull, Cond.instanceMethod yX3_isFull, Cond.selects RX3 yX3_isFull yX3_isFull]
def wsX7_flow_r4 : List Cond := [Cond.code yX3_isFull cX3_isFull 1 (some .boolean), Cond.methodLink RX5 72 yX3_add, Cond.instanceMethod yX3_add, Cond.selects RX3 yX3_add yX3_add, Cond.code yX3_add cX3_add 2 none, Cond.methodLink RX7 226 yX3_clear, Cond.instanceMethod yX3_clear, Cond.selects RX3 yX3_clear yX3_clear, Cond.code yX3_clear cX3_clear 1 none, Cond.methodLink RX7 162 yX5_saveMemory, Cond.instanceMethod yX5_saveMemory, Cond.selects RX5 yX5_saveMemory yX5_saveMemory, Cond.code yX5_saveMemory cX5_saveMemory 1 (some .int), Cond.fieldLink RX5 18 "OutboxHouse$Target" "disk" "LOutboxHouse$TargetState;", Cond.methodLink RX5 89 yX6_become, Cond.instanceMethod yX6_become, Cond.selects RX6 yX6_become yX6_become, Cond.code yX6_become cX6_become 4 (some .int), Cond.methodLink RX7 168 yX2_hear, Cond.instanceMethod yX2_hear, Cond.selects RX2 yX2_hear yX2_hear, Cond.initialized RX2, Cond.code yX2_hear cX2_hear 2 none, Cond.fieldLink RX2 63 "OutboxHouse$Relay" "mark" "I"]
def wsX7_flow_r5 : List Cond := [Cond.methodLink RX2 66 Lib.Math.max.name, Cond.static Lib.Math.max.name, Cond.initialized "java/lang/Math", Cond.code Lib.Math.max.name Lib.Math.max.code 2 (some .int), Cond.fieldLink RX2 28 "OutboxHouse$Relay" "position" "I", Cond.methodLink RX7 133 yX2_readOn, Cond.instanceMethod yX2_readOn, Cond.selects RX2 yX2_readOn yX2_readOn, Cond.code yX2_readOn cX2_readOn 3 (some .int), Cond.methodLink RX2 24 yX2_readOne, Cond.instanceMethod yX2_readOne, Cond.selects RX2 yX2_readOne yX2_readOne, Cond.code yX2_readOne cX2_readOne 3 (some .boolean), Cond.fieldLink RX2 17 "OutboxHouse$Relay" "changes" "LOutboxHouse$ChangeLog;", Cond.fieldLink RX2 11 "OutboxHouse$Relay" "lanes" "[LOutboxHouse$Row;", Cond.fieldLink RX2 38 "OutboxHouse$Change" "key" "I", Cond.fieldLink RX2 50 "OutboxHouse$Relay" "sentEver" "I", Cond.methodLink RX2 32 yX1_flushedAt, Cond.methodLink RX2 43 yX3_isFull, Cond.methodLink RX2 46 yX3_add]
def wsX7_flow : List Cond := .code yX7_flow cX7_flow 4 (some .int) :: ((wsX7_flow_r1 ++ (wsX7_flow_r2 ++ (wsX7_flow_r3 ++ (wsX7_flow_r4 ++ wsX7_flow_r5)))) ++ wsX70 ++ wsX50 ++ wsX60 ++ wsX20 ++ wsX30 ++ wsX00 ++ wsX10)
def wsX7_whole : List Cond := .code yX7_whole cX7_whole 1 (some .int) :: ([.fieldLink RX7 35 "OutboxHouse" "target" "LOutboxHouse$Target;", .methodLink RX7 177 yX5_diskIsWhole, .instanceMethod yX5_diskIsWhole, .selects RX5 yX5_diskIsWhole yX5_diskIsWhole, .initialized RX5, .code yX5_diskIsWhole cX5_diskIsWhole 5 (some .boolean), .fieldLink RX5 30 "OutboxHouse$Target" "changes" "LOutboxHouse$ChangeLog;", .fieldLink RX5 18 "OutboxHouse$Target" "disk" "LOutboxHouse$TargetState;", .fieldLink RX5 101 "OutboxHouse$Change" "last" "Z", .methodLink RX5 96 yX1_flushedAt, .instanceMethod yX1_flushedAt, .selects RX1 yX1_flushedAt yX1_flushedAt, .initialized RX1, .code yX1_flushedAt cX1_flushedAt 2 (some (.object "OutboxHouse$Change")), .fieldLink RX1 24 "OutboxHouse$ChangeLog" "flushed" "I", .fieldLink RX1 11 "OutboxHouse$ChangeLog" "rows" "[LOutboxHouse$Change;", .methodLink RX5 34 yX6_has, .instanceMethod yX6_has, .selects RX6 yX6_has yX6_has, .initialized RX6, .code yX6_has cX6_has 2 (some .boolean), .fieldLink RX6 18 "OutboxHouse$Change" "order" "I", .fieldLink RX6 15 "OutboxHouse$TargetState" "done" "[I", .fieldLink RX6 24 "OutboxHouse$Change" "key" "I"] ++ wsX70 ++ wsX50 ++ wsX00 ++ wsX10 ++ wsX60)
def wsX7_prefix : List Cond := .code yX7_prefix cX7_prefix 3 (some .int) :: ([.fieldLink RX7 35 "OutboxHouse" "target" "LOutboxHouse$Target;", .fieldLink RX7 10 "OutboxHouse" "changes" "LOutboxHouse$ChangeLog;", .methodLink RX7 181 yX6_isAsFlushed, .instanceMethod yX6_isAsFlushed, .selects RX6 yX6_isAsFlushed yX6_isAsFlushed, .initialized RX6, .code yX6_isAsFlushed cX6_isAsFlushed 4 (some .boolean), .fieldLink RX6 18 "OutboxHouse$Change" "order" "I", .fieldLink RX6 15 "OutboxHouse$TargetState" "done" "[I", .fieldLink RX6 24 "OutboxHouse$Change" "key" "I", .fieldLink RX6 27 "OutboxHouse$Change" "value" "I", .fieldLink RX6 9 "OutboxHouse$TargetState" "values" "[I", .methodLink RX6 33 yX1_flushedAt, .instanceMethod yX1_flushedAt, .selects RX1 yX1_flushedAt yX1_flushedAt, .initialized RX1, .code yX1_flushedAt cX1_flushedAt 2 (some (.object "OutboxHouse$Change")), .fieldLink RX1 24 "OutboxHouse$ChangeLog" "flushed" "I", .fieldLink RX1 11 "OutboxHouse$ChangeLog" "rows" "[LOutboxHouse$Change;"] ++ wsX70 ++ wsX50 ++ wsX00 ++ wsX60 ++ wsX10)
def wsX7_count : List Cond := .code yX7_count cX7_count 2 (some .int) :: ([.fieldLink RX7 21 "OutboxHouse" "source" "LOutboxHouse$Source;", .fieldLink RX7 10 "OutboxHouse" "changes" "LOutboxHouse$ChangeLog;", .fieldLink RX7 28 "OutboxHouse" "reader" "LOutboxHouse$Relay;", .fieldLink RX7 35 "OutboxHouse" "target" "LOutboxHouse$Target;", .fieldLink RX7 76 "OutboxHouse" "crashes" "I", .methodLink RX7 185 yX4_openTransactions, .instanceMethod yX4_openTransactions, .selects RX4 yX4_openTransactions yX4_openTransactions, .initialized RX4, .code yX4_openTransactions cX4_openTransactions 3 (some .int), .fieldLink RX4 24 "OutboxHouse$Source" "open" "[Z", .methodLink RX7 200 yX2_lettersUnderWay, .instanceMethod yX2_lettersUnderWay, .selects RX2 yX2_lettersUnderWay yX2_lettersUnderWay, .initialized RX2, .code yX2_lettersUnderWay cX2_lettersUnderWay 3 (some .int), .fieldLink RX2 11 "OutboxHouse$Relay" "lanes" "[LOutboxHouse$Row;"] ++ wsX70 ++ wsX10 ++ wsX20 ++ wsX50 ++ wsX30 ++ wsX60 ++ wsX40)
def wsX8_init_r1 : List Cond := [Cond.methodLink RX8 1 objectInit, Cond.instanceMethod objectInit, Cond.code objectInit ⟨#[0xb1]⟩ 1 none, Cond.arrayClass .boolean, Cond.fieldLink RX8 7 "OutboxHouseModel" "isOpen" "[Z", Cond.fieldLink RX8 13 "OutboxHouseModel" "wrote" "[Z", Cond.arrayClass .int, Cond.fieldLink RX8 16 "OutboxHouseModel" "written" "[I", Cond.fieldLink RX8 20 "OutboxHouseModel" "value" "[I", Cond.fieldLink RX8 23 "OutboxHouseModel" "counts" "[I", Cond.fieldLink RX8 26 "OutboxHouseModel" "logKey" "[I", Cond.fieldLink RX8 29 "OutboxHouseModel" "logValue" "[I", Cond.fieldLink RX8 32 "OutboxHouseModel" "logOrder" "[I", Cond.fieldLink RX8 35 "OutboxHouseModel" "isLast" "[Z", Cond.fieldLink RX8 38 "OutboxHouseModel" "letters" "[I", Cond.fieldLink RX8 41 "OutboxHouseModel" "letterAt" "[I", Cond.fieldLink RX8 44 "OutboxHouseModel" "letterKey" "[I", Cond.fieldLink RX8 47 "OutboxHouseModel" "letterOrder" "[I", Cond.fieldLink RX8 50 "OutboxHouseModel" "letterValue" "[I", Cond.fieldLink RX8 53 "OutboxHouseModel" "valueNow" "[I", Cond.fieldLink RX8 56 "OutboxHouseModel" "doneNow" "[I", Cond.fieldLink RX8 59 "OutboxHouseModel" "hasNow" "[Z", Cond.fieldLink RX8 62 "OutboxHouseModel" "valueDisk" "[I", Cond.fieldLink RX8 65 "OutboxHouseModel" "doneDisk" "[I"]
def wsX8_init_r2 : List Cond := [Cond.fieldLink RX8 68 "OutboxHouseModel" "hasDisk" "[Z", Cond.fieldLink RX8 71 "OutboxHouseModel" "heldKey" "[I", Cond.fieldLink RX8 74 "OutboxHouseModel" "heldOrder" "[I", Cond.fieldLink RX8 77 "OutboxHouseModel" "heldValue" "[I", Cond.fieldLink RX8 80 "OutboxHouseModel" "heldAt" "[I", Cond.fieldLink RX8 83 "OutboxHouseModel" "end" "I"]
def wsX8_init : List Cond := .code yX8_init cX8_init 1 none :: ((wsX8_init_r1 ++ wsX8_init_r2) ++ wsX80)
def wsX8_in : List Cond := .code yX8_in cX8_in 3 (some .boolean) :: ([])
def wsX8_isTransaction : List Cond := .code yX8_isTransaction cX8_isTransaction 2 (some .boolean) :: ([.fieldLink RX8 7 "OutboxHouseModel" "isOpen" "[Z", .methodLink RX8 87 yX8_in, .static yX8_in, .initialized RX8, .code yX8_in cX8_in 3 (some .boolean)] ++ wsX80)
def wsX8_isKey : List Cond := .code yX8_isKey cX8_isKey 1 (some .boolean) :: ([.methodLink RX8 87 yX8_in, .static yX8_in, .initialized RX8, .code yX8_in cX8_in 3 (some .boolean)])
def wsX8_clears : List Cond := .code yX8_clears cX8_clears 3 none :: ([.fieldLink RX8 13 "OutboxHouseModel" "wrote" "[Z"] ++ wsX80)
def wsX8_begin : List Cond := .code yX8_begin cX8_begin 2 (some .int) :: ([.fieldLink RX8 7 "OutboxHouseModel" "isOpen" "[Z", .methodLink RX8 91 yX8_clears, .instanceMethod yX8_clears, .selects RX8 yX8_clears yX8_clears, .initialized RX8, .code yX8_clears cX8_clears 3 none, .fieldLink RX8 13 "OutboxHouseModel" "wrote" "[Z"] ++ wsX80)
def wsX8_isUnderWay : List Cond := .code yX8_isUnderWay cX8_isUnderWay 4 (some .boolean) :: ([.fieldLink RX8 95 "OutboxHouseModel" "flushed" "I", .fieldLink RX8 83 "OutboxHouseModel" "end" "I", .fieldLink RX8 26 "OutboxHouseModel" "logKey" "[I"] ++ wsX80)
def wsX8_writer : List Cond := .code yX8_writer cX8_writer 3 (some .int) :: ([.fieldLink RX8 7 "OutboxHouseModel" "isOpen" "[Z", .fieldLink RX8 13 "OutboxHouseModel" "wrote" "[Z"] ++ wsX80)
def wsX8_write_r1 : List Cond := [Cond.fieldLink RX8 13 "OutboxHouseModel" "wrote" "[Z", Cond.fieldLink RX8 16 "OutboxHouseModel" "written" "[I", Cond.methodLink RX8 98 yX8_isTransaction, Cond.instanceMethod yX8_isTransaction, Cond.selects RX8 yX8_isTransaction yX8_isTransaction, Cond.initialized RX8, Cond.code yX8_isTransaction cX8_isTransaction 2 (some .boolean), Cond.fieldLink RX8 7 "OutboxHouseModel" "isOpen" "[Z", Cond.methodLink RX8 87 yX8_in, Cond.static yX8_in, Cond.code yX8_in cX8_in 3 (some .boolean), Cond.methodLink RX8 102 yX8_isKey, Cond.static yX8_isKey, Cond.code yX8_isKey cX8_isKey 1 (some .boolean), Cond.methodLink RX8 105 yX8_writer, Cond.instanceMethod yX8_writer, Cond.selects RX8 yX8_writer yX8_writer, Cond.code yX8_writer cX8_writer 3 (some .int), Cond.methodLink RX8 109 yX8_isUnderWay, Cond.instanceMethod yX8_isUnderWay, Cond.selects RX8 yX8_isUnderWay yX8_isUnderWay, Cond.code yX8_isUnderWay cX8_isUnderWay 4 (some .boolean), Cond.fieldLink RX8 95 "OutboxHouseModel" "flushed" "I", Cond.fieldLink RX8 83 "OutboxHouseModel" "end" "I"]
def wsX8_write_r2 : List Cond := [Cond.fieldLink RX8 26 "OutboxHouseModel" "logKey" "[I"]
def wsX8_write : List Cond := .code yX8_write cX8_write 5 (some .int) :: ((wsX8_write_r1 ++ wsX8_write_r2) ++ wsX80)
def wsX8_read : List Cond := .code yX8_read cX8_read 3 (some .int) :: ([.fieldLink RX8 13 "OutboxHouseModel" "wrote" "[Z", .fieldLink RX8 16 "OutboxHouseModel" "written" "[I", .fieldLink RX8 20 "OutboxHouseModel" "value" "[I", .methodLink RX8 98 yX8_isTransaction, .instanceMethod yX8_isTransaction, .selects RX8 yX8_isTransaction yX8_isTransaction, .initialized RX8, .code yX8_isTransaction cX8_isTransaction 2 (some .boolean), .fieldLink RX8 7 "OutboxHouseModel" "isOpen" "[Z", .methodLink RX8 87 yX8_in, .static yX8_in, .code yX8_in cX8_in 3 (some .boolean), .methodLink RX8 102 yX8_isKey, .static yX8_isKey, .code yX8_isKey cX8_isKey 1 (some .boolean)] ++ wsX80)
def wsX8_writtenBy : List Cond := .code yX8_writtenBy cX8_writtenBy 4 (some .int) :: ([.fieldLink RX8 13 "OutboxHouseModel" "wrote" "[Z"] ++ wsX80)
def wsX8_commit_r1 : List Cond := [Cond.fieldLink RX8 83 "OutboxHouseModel" "end" "I", Cond.fieldLink RX8 13 "OutboxHouseModel" "wrote" "[Z", Cond.fieldLink RX8 26 "OutboxHouseModel" "logKey" "[I", Cond.fieldLink RX8 29 "OutboxHouseModel" "logValue" "[I", Cond.fieldLink RX8 16 "OutboxHouseModel" "written" "[I", Cond.fieldLink RX8 32 "OutboxHouseModel" "logOrder" "[I", Cond.fieldLink RX8 23 "OutboxHouseModel" "counts" "[I", Cond.fieldLink RX8 35 "OutboxHouseModel" "isLast" "[Z", Cond.fieldLink RX8 59 "OutboxHouseModel" "hasNow" "[Z", Cond.fieldLink RX8 68 "OutboxHouseModel" "hasDisk" "[Z", Cond.fieldLink RX8 7 "OutboxHouseModel" "isOpen" "[Z", Cond.methodLink RX8 98 yX8_isTransaction, Cond.instanceMethod yX8_isTransaction, Cond.selects RX8 yX8_isTransaction yX8_isTransaction, Cond.initialized RX8, Cond.code yX8_isTransaction cX8_isTransaction 2 (some .boolean), Cond.methodLink RX8 87 yX8_in, Cond.static yX8_in, Cond.code yX8_in cX8_in 3 (some .boolean), Cond.methodLink RX8 112 yX8_writtenBy, Cond.instanceMethod yX8_writtenBy, Cond.selects RX8 yX8_writtenBy yX8_writtenBy, Cond.code yX8_writtenBy cX8_writtenBy 4 (some .int), Cond.methodLink RX8 91 yX8_clears]
def wsX8_commit_r2 : List Cond := [Cond.instanceMethod yX8_clears, Cond.selects RX8 yX8_clears yX8_clears, Cond.code yX8_clears cX8_clears 3 none]
def wsX8_commit : List Cond := .code yX8_commit cX8_commit 5 (some .int) :: ((wsX8_commit_r1 ++ wsX8_commit_r2) ++ wsX80)
def wsX8_abort : List Cond := .code yX8_abort cX8_abort 3 (some .int) :: ([.fieldLink RX8 7 "OutboxHouseModel" "isOpen" "[Z", .methodLink RX8 98 yX8_isTransaction, .instanceMethod yX8_isTransaction, .selects RX8 yX8_isTransaction yX8_isTransaction, .initialized RX8, .code yX8_isTransaction cX8_isTransaction 2 (some .boolean), .methodLink RX8 87 yX8_in, .static yX8_in, .code yX8_in cX8_in 3 (some .boolean), .methodLink RX8 112 yX8_writtenBy, .instanceMethod yX8_writtenBy, .selects RX8 yX8_writtenBy yX8_writtenBy, .code yX8_writtenBy cX8_writtenBy 4 (some .int), .fieldLink RX8 13 "OutboxHouseModel" "wrote" "[Z", .methodLink RX8 91 yX8_clears, .instanceMethod yX8_clears, .selects RX8 yX8_clears yX8_clears, .code yX8_clears cX8_clears 3 none] ++ wsX80)
def wsX8_flush : List Cond := .code yX8_flush cX8_flush 2 (some .int) :: ([.fieldLink RX8 83 "OutboxHouseModel" "end" "I", .fieldLink RX8 95 "OutboxHouseModel" "flushed" "I", .fieldLink RX8 20 "OutboxHouseModel" "value" "[I", .fieldLink RX8 26 "OutboxHouseModel" "logKey" "[I", .fieldLink RX8 29 "OutboxHouseModel" "logValue" "[I", .fieldLink RX8 23 "OutboxHouseModel" "counts" "[I"] ++ wsX80)
def wsX8_crashSource : List Cond := .code yX8_crashSource cX8_crashSource 3 (some .int) :: ([.fieldLink RX8 83 "OutboxHouseModel" "end" "I", .fieldLink RX8 95 "OutboxHouseModel" "flushed" "I", .fieldLink RX8 7 "OutboxHouseModel" "isOpen" "[Z", .methodLink RX8 91 yX8_clears, .instanceMethod yX8_clears, .selects RX8 yX8_clears yX8_clears, .initialized RX8, .code yX8_clears cX8_clears 3 none, .fieldLink RX8 13 "OutboxHouseModel" "wrote" "[Z"] ++ wsX80)
def wsX8_crashTarget : List Cond := .code yX8_crashTarget cX8_crashTarget 3 (some .int) :: ([.fieldLink RX8 56 "OutboxHouseModel" "doneNow" "[I", .fieldLink RX8 65 "OutboxHouseModel" "doneDisk" "[I", .fieldLink RX8 53 "OutboxHouseModel" "valueNow" "[I", .fieldLink RX8 62 "OutboxHouseModel" "valueDisk" "[I", .fieldLink RX8 59 "OutboxHouseModel" "hasNow" "[Z", .fieldLink RX8 68 "OutboxHouseModel" "hasDisk" "[Z", .fieldLink RX8 115 "OutboxHouseModel" "held" "I"] ++ wsX80)
def wsX8_crash_r1 : List Cond := [Cond.fieldLink RX8 118 "OutboxHouseModel" "crashes" "I", Cond.fieldLink RX8 125 "OutboxHouseModel" "position" "I", Cond.fieldLink RX8 128 "OutboxHouseModel" "mark" "I", Cond.methodLink RX8 87 yX8_in, Cond.static yX8_in, Cond.initialized RX8, Cond.code yX8_in cX8_in 3 (some .boolean), Cond.methodLink RX8 121 yX8_crashSource, Cond.instanceMethod yX8_crashSource, Cond.selects RX8 yX8_crashSource yX8_crashSource, Cond.code yX8_crashSource cX8_crashSource 3 (some .int), Cond.fieldLink RX8 83 "OutboxHouseModel" "end" "I", Cond.fieldLink RX8 95 "OutboxHouseModel" "flushed" "I", Cond.fieldLink RX8 7 "OutboxHouseModel" "isOpen" "[Z", Cond.methodLink RX8 91 yX8_clears, Cond.instanceMethod yX8_clears, Cond.selects RX8 yX8_clears yX8_clears, Cond.code yX8_clears cX8_clears 3 none, Cond.fieldLink RX8 13 "OutboxHouseModel" "wrote" "[Z", Cond.methodLink RX8 131 yX8_crashTarget, Cond.instanceMethod yX8_crashTarget, Cond.selects RX8 yX8_crashTarget yX8_crashTarget, Cond.code yX8_crashTarget cX8_crashTarget 3 (some .int), Cond.fieldLink RX8 56 "OutboxHouseModel" "doneNow" "[I"]
def wsX8_crash_r2 : List Cond := [Cond.fieldLink RX8 65 "OutboxHouseModel" "doneDisk" "[I", Cond.fieldLink RX8 53 "OutboxHouseModel" "valueNow" "[I", Cond.fieldLink RX8 62 "OutboxHouseModel" "valueDisk" "[I", Cond.fieldLink RX8 59 "OutboxHouseModel" "hasNow" "[Z", Cond.fieldLink RX8 68 "OutboxHouseModel" "hasDisk" "[Z", Cond.fieldLink RX8 115 "OutboxHouseModel" "held" "I"]
def wsX8_crash : List Cond := .code yX8_crash cX8_crash 3 (some .int) :: ((wsX8_crash_r1 ++ wsX8_crash_r2) ++ wsX80)
def wsX8_key_r1 : List Cond := [Cond.fieldLink RX8 20 "OutboxHouseModel" "value" "[I", Cond.fieldLink RX8 23 "OutboxHouseModel" "counts" "[I", Cond.fieldLink RX8 53 "OutboxHouseModel" "valueNow" "[I", Cond.fieldLink RX8 56 "OutboxHouseModel" "doneNow" "[I", Cond.fieldLink RX8 62 "OutboxHouseModel" "valueDisk" "[I", Cond.fieldLink RX8 65 "OutboxHouseModel" "doneDisk" "[I", Cond.methodLink RX8 102 yX8_isKey, Cond.static yX8_isKey, Cond.initialized RX8, Cond.code yX8_isKey cX8_isKey 1 (some .boolean), Cond.methodLink RX8 87 yX8_in, Cond.static yX8_in, Cond.code yX8_in cX8_in 3 (some .boolean), Cond.methodLink RX8 109 yX8_isUnderWay, Cond.instanceMethod yX8_isUnderWay, Cond.selects RX8 yX8_isUnderWay yX8_isUnderWay, Cond.code yX8_isUnderWay cX8_isUnderWay 4 (some .boolean), Cond.fieldLink RX8 95 "OutboxHouseModel" "flushed" "I", Cond.fieldLink RX8 83 "OutboxHouseModel" "end" "I", Cond.fieldLink RX8 26 "OutboxHouseModel" "logKey" "[I", Cond.methodLink RX8 105 yX8_writer, Cond.instanceMethod yX8_writer, Cond.selects RX8 yX8_writer yX8_writer, Cond.code yX8_writer cX8_writer 3 (some .int)]
def wsX8_key_r2 : List Cond := [Cond.fieldLink RX8 7 "OutboxHouseModel" "isOpen" "[Z", Cond.fieldLink RX8 13 "OutboxHouseModel" "wrote" "[Z"]
def wsX8_key : List Cond := .code yX8_key cX8_key 3 (some .int) :: ((wsX8_key_r1 ++ wsX8_key_r2) ++ wsX80)
def wsX8_log : List Cond := .code yX8_log cX8_log 3 (some .int) :: ([.fieldLink RX8 134 "OutboxHouseModel" "first" "I", .fieldLink RX8 83 "OutboxHouseModel" "end" "I", .fieldLink RX8 26 "OutboxHouseModel" "logKey" "[I", .fieldLink RX8 29 "OutboxHouseModel" "logValue" "[I", .fieldLink RX8 32 "OutboxHouseModel" "logOrder" "[I", .fieldLink RX8 95 "OutboxHouseModel" "flushed" "I", .fieldLink RX8 35 "OutboxHouseModel" "isLast" "[Z", .methodLink RX8 87 yX8_in, .static yX8_in, .initialized RX8, .code yX8_in cX8_in 3 (some .boolean)] ++ wsX80)
def wsX8_relays : List Cond := .code yX8_relays cX8_relays 5 (some .int) :: ([.fieldLink RX8 125 "OutboxHouseModel" "position" "I", .fieldLink RX8 95 "OutboxHouseModel" "flushed" "I", .fieldLink RX8 38 "OutboxHouseModel" "letters" "[I", .fieldLink RX8 26 "OutboxHouseModel" "logKey" "[I", .fieldLink RX8 41 "OutboxHouseModel" "letterAt" "[I", .fieldLink RX8 44 "OutboxHouseModel" "letterKey" "[I", .fieldLink RX8 47 "OutboxHouseModel" "letterOrder" "[I", .fieldLink RX8 32 "OutboxHouseModel" "logOrder" "[I", .fieldLink RX8 50 "OutboxHouseModel" "letterValue" "[I", .fieldLink RX8 29 "OutboxHouseModel" "logValue" "[I", .fieldLink RX8 137 "OutboxHouseModel" "sent" "I"] ++ wsX80)
def wsX8_relay : List Cond := .code yX8_relay cX8_relay 2 (some .int) :: ([.methodLink RX8 87 yX8_in, .static yX8_in, .initialized RX8, .code yX8_in cX8_in 3 (some .boolean), .methodLink RX8 140 yX8_relays, .instanceMethod yX8_relays, .selects RX8 yX8_relays yX8_relays, .code yX8_relays cX8_relays 5 (some .int), .fieldLink RX8 125 "OutboxHouseModel" "position" "I", .fieldLink RX8 95 "OutboxHouseModel" "flushed" "I", .fieldLink RX8 38 "OutboxHouseModel" "letters" "[I", .fieldLink RX8 26 "OutboxHouseModel" "logKey" "[I", .fieldLink RX8 41 "OutboxHouseModel" "letterAt" "[I", .fieldLink RX8 44 "OutboxHouseModel" "letterKey" "[I", .fieldLink RX8 47 "OutboxHouseModel" "letterOrder" "[I", .fieldLink RX8 32 "OutboxHouseModel" "logOrder" "[I", .fieldLink RX8 50 "OutboxHouseModel" "letterValue" "[I", .fieldLink RX8 29 "OutboxHouseModel" "logValue" "[I", .fieldLink RX8 137 "OutboxHouseModel" "sent" "I"] ++ wsX80)
def wsX8_cut : List Cond := .code yX8_cut cX8_cut 2 (some .int) :: ([.fieldLink RX8 128 "OutboxHouseModel" "mark" "I", .fieldLink RX8 134 "OutboxHouseModel" "first" "I"] ++ wsX80)
def wsX8_isLane : List Cond := .code yX8_isLane cX8_isLane 1 (some .boolean) :: ([.methodLink RX8 87 yX8_in, .static yX8_in, .initialized RX8, .code yX8_in cX8_in 3 (some .boolean)])
def wsX8_takesOut : List Cond := .code yX8_takesOut cX8_takesOut 4 none :: ([.fieldLink RX8 38 "OutboxHouseModel" "letters" "[I", .fieldLink RX8 41 "OutboxHouseModel" "letterAt" "[I", .fieldLink RX8 44 "OutboxHouseModel" "letterKey" "[I", .fieldLink RX8 47 "OutboxHouseModel" "letterOrder" "[I", .fieldLink RX8 50 "OutboxHouseModel" "letterValue" "[I"] ++ wsX80)
def wsX8_does : List Cond := .code yX8_does cX8_does 4 none :: ([.fieldLink RX8 53 "OutboxHouseModel" "valueNow" "[I", .fieldLink RX8 56 "OutboxHouseModel" "doneNow" "[I", .fieldLink RX8 59 "OutboxHouseModel" "hasNow" "[Z", .fieldLink RX8 143 "OutboxHouseModel" "doneEver" "I"] ++ wsX80)
def wsX8_findHeld : List Cond := .code yX8_findHeld cX8_findHeld 4 (some .int) :: ([.fieldLink RX8 115 "OutboxHouseModel" "held" "I", .fieldLink RX8 71 "OutboxHouseModel" "heldKey" "[I", .fieldLink RX8 74 "OutboxHouseModel" "heldOrder" "[I"] ++ wsX80)
def wsX8_letsGo : List Cond := .code yX8_letsGo cX8_letsGo 3 none :: ([.fieldLink RX8 115 "OutboxHouseModel" "held" "I", .fieldLink RX8 71 "OutboxHouseModel" "heldKey" "[I", .fieldLink RX8 74 "OutboxHouseModel" "heldOrder" "[I", .fieldLink RX8 77 "OutboxHouseModel" "heldValue" "[I", .fieldLink RX8 80 "OutboxHouseModel" "heldAt" "[I"] ++ wsX80)
def wsX8_hears : List Cond := .code yX8_hears cX8_hears 6 (some .int) :: ([.fieldLink RX8 56 "OutboxHouseModel" "doneNow" "[I", .fieldLink RX8 146 "OutboxHouseModel" "twice" "I", .fieldLink RX8 115 "OutboxHouseModel" "held" "I", .fieldLink RX8 153 "OutboxHouseModel" "lost" "I", .fieldLink RX8 71 "OutboxHouseModel" "heldKey" "[I", .fieldLink RX8 74 "OutboxHouseModel" "heldOrder" "[I", .fieldLink RX8 77 "OutboxHouseModel" "heldValue" "[I", .fieldLink RX8 80 "OutboxHouseModel" "heldAt" "[I", .methodLink RX8 149 yX8_findHeld, .instanceMethod yX8_findHeld, .selects RX8 yX8_findHeld yX8_findHeld, .initialized RX8, .code yX8_findHeld cX8_findHeld 4 (some .int), .methodLink RX8 156 yX8_does, .instanceMethod yX8_does, .selects RX8 yX8_does yX8_does, .code yX8_does cX8_does 4 none, .fieldLink RX8 53 "OutboxHouseModel" "valueNow" "[I", .fieldLink RX8 59 "OutboxHouseModel" "hasNow" "[Z", .fieldLink RX8 143 "OutboxHouseModel" "doneEver" "I", .methodLink RX8 160 yX8_letsGo, .instanceMethod yX8_letsGo, .selects RX8 yX8_letsGo yX8_letsGo, .code yX8_letsGo cX8_letsGo 3 none] ++ wsX80)
def wsX8_delivers_r1 : List Cond := [Cond.fieldLink RX8 44 "OutboxHouseModel" "letterKey" "[I", Cond.fieldLink RX8 47 "OutboxHouseModel" "letterOrder" "[I", Cond.fieldLink RX8 50 "OutboxHouseModel" "letterValue" "[I", Cond.fieldLink RX8 41 "OutboxHouseModel" "letterAt" "[I", Cond.methodLink RX8 163 yX8_takesOut, Cond.instanceMethod yX8_takesOut, Cond.selects RX8 yX8_takesOut yX8_takesOut, Cond.initialized RX8, Cond.code yX8_takesOut cX8_takesOut 4 none, Cond.fieldLink RX8 38 "OutboxHouseModel" "letters" "[I", Cond.methodLink RX8 167 yX8_hears, Cond.instanceMethod yX8_hears, Cond.selects RX8 yX8_hears yX8_hears, Cond.code yX8_hears cX8_hears 6 (some .int), Cond.fieldLink RX8 56 "OutboxHouseModel" "doneNow" "[I", Cond.fieldLink RX8 146 "OutboxHouseModel" "twice" "I", Cond.fieldLink RX8 115 "OutboxHouseModel" "held" "I", Cond.fieldLink RX8 153 "OutboxHouseModel" "lost" "I", Cond.fieldLink RX8 71 "OutboxHouseModel" "heldKey" "[I", Cond.fieldLink RX8 74 "OutboxHouseModel" "heldOrder" "[I", Cond.fieldLink RX8 77 "OutboxHouseModel" "heldValue" "[I", Cond.fieldLink RX8 80 "OutboxHouseModel" "heldAt" "[I", Cond.methodLink RX8 149 yX8_findHeld, Cond.instanceMethod yX8_findHeld]
def wsX8_delivers_r2 : List Cond := [Cond.selects RX8 yX8_findHeld yX8_findHeld, Cond.code yX8_findHeld cX8_findHeld 4 (some .int), Cond.methodLink RX8 156 yX8_does, Cond.instanceMethod yX8_does, Cond.selects RX8 yX8_does yX8_does, Cond.code yX8_does cX8_does 4 none, Cond.fieldLink RX8 53 "OutboxHouseModel" "valueNow" "[I", Cond.fieldLink RX8 59 "OutboxHouseModel" "hasNow" "[Z", Cond.fieldLink RX8 143 "OutboxHouseModel" "doneEver" "I", Cond.methodLink RX8 160 yX8_letsGo, Cond.instanceMethod yX8_letsGo, Cond.selects RX8 yX8_letsGo yX8_letsGo, Cond.code yX8_letsGo cX8_letsGo 3 none]
def wsX8_delivers : List Cond := .code yX8_delivers cX8_delivers 9 (some .int) :: ((wsX8_delivers_r1 ++ wsX8_delivers_r2) ++ wsX80)
def wsX8_isLetter : List Cond := .code yX8_isLetter cX8_isLetter 3 (some .boolean) :: ([.fieldLink RX8 38 "OutboxHouseModel" "letters" "[I", .methodLink RX8 171 yX8_isLane, .static yX8_isLane, .initialized RX8, .code yX8_isLane cX8_isLane 1 (some .boolean), .methodLink RX8 87 yX8_in, .static yX8_in, .code yX8_in cX8_in 3 (some .boolean)] ++ wsX80)
def wsX8_deliver_r1 : List Cond := [Cond.methodLink RX8 174 yX8_isLetter, Cond.instanceMethod yX8_isLetter, Cond.selects RX8 yX8_isLetter yX8_isLetter, Cond.initialized RX8, Cond.code yX8_isLetter cX8_isLetter 3 (some .boolean), Cond.fieldLink RX8 38 "OutboxHouseModel" "letters" "[I", Cond.methodLink RX8 171 yX8_isLane, Cond.static yX8_isLane, Cond.code yX8_isLane cX8_isLane 1 (some .boolean), Cond.methodLink RX8 87 yX8_in, Cond.static yX8_in, Cond.code yX8_in cX8_in 3 (some .boolean), Cond.methodLink RX8 178 yX8_delivers, Cond.instanceMethod yX8_delivers, Cond.selects RX8 yX8_delivers yX8_delivers, Cond.code yX8_delivers cX8_delivers 9 (some .int), Cond.fieldLink RX8 44 "OutboxHouseModel" "letterKey" "[I", Cond.fieldLink RX8 47 "OutboxHouseModel" "letterOrder" "[I", Cond.fieldLink RX8 50 "OutboxHouseModel" "letterValue" "[I", Cond.fieldLink RX8 41 "OutboxHouseModel" "letterAt" "[I", Cond.methodLink RX8 163 yX8_takesOut, Cond.instanceMethod yX8_takesOut, Cond.selects RX8 yX8_takesOut yX8_takesOut, Cond.code yX8_takesOut cX8_takesOut 4 none]
def wsX8_deliver_r2 : List Cond := [Cond.methodLink RX8 167 yX8_hears, Cond.instanceMethod yX8_hears, Cond.selects RX8 yX8_hears yX8_hears, Cond.code yX8_hears cX8_hears 6 (some .int), Cond.fieldLink RX8 56 "OutboxHouseModel" "doneNow" "[I", Cond.fieldLink RX8 146 "OutboxHouseModel" "twice" "I", Cond.fieldLink RX8 115 "OutboxHouseModel" "held" "I", Cond.fieldLink RX8 153 "OutboxHouseModel" "lost" "I", Cond.fieldLink RX8 71 "OutboxHouseModel" "heldKey" "[I", Cond.fieldLink RX8 74 "OutboxHouseModel" "heldOrder" "[I", Cond.fieldLink RX8 77 "OutboxHouseModel" "heldValue" "[I", Cond.fieldLink RX8 80 "OutboxHouseModel" "heldAt" "[I", Cond.methodLink RX8 149 yX8_findHeld, Cond.instanceMethod yX8_findHeld, Cond.selects RX8 yX8_findHeld yX8_findHeld, Cond.code yX8_findHeld cX8_findHeld 4 (some .int), Cond.methodLink RX8 156 yX8_does, Cond.instanceMethod yX8_does, Cond.selects RX8 yX8_does yX8_does, Cond.code yX8_does cX8_does 4 none, Cond.fieldLink RX8 53 "OutboxHouseModel" "valueNow" "[I", Cond.fieldLink RX8 59 "OutboxHouseModel" "hasNow" "[Z", Cond.fieldLink RX8 143 "OutboxHouseModel" "doneEver" "I", Cond.methodLink RX8 160 yX8_letsGo]
def wsX8_deliver_r3 : List Cond := [Cond.instanceMethod yX8_letsGo, Cond.selects RX8 yX8_letsGo yX8_letsGo, Cond.code yX8_letsGo cX8_letsGo 3 none]
def wsX8_deliver : List Cond := .code yX8_deliver cX8_deliver 4 (some .int) :: ((wsX8_deliver_r1 ++ (wsX8_deliver_r2 ++ wsX8_deliver_r3)) ++ wsX80)
def wsX8_lose : List Cond := .code yX8_lose cX8_lose 4 (some .int) :: ([.fieldLink RX8 41 "OutboxHouseModel" "letterAt" "[I", .fieldLink RX8 153 "OutboxHouseModel" "lost" "I", .methodLink RX8 174 yX8_isLetter, .instanceMethod yX8_isLetter, .selects RX8 yX8_isLetter yX8_isLetter, .initialized RX8, .code yX8_isLetter cX8_isLetter 3 (some .boolean), .fieldLink RX8 38 "OutboxHouseModel" "letters" "[I", .methodLink RX8 171 yX8_isLane, .static yX8_isLane, .code yX8_isLane cX8_isLane 1 (some .boolean), .methodLink RX8 87 yX8_in, .static yX8_in, .code yX8_in cX8_in 3 (some .boolean), .methodLink RX8 163 yX8_takesOut, .instanceMethod yX8_takesOut, .selects RX8 yX8_takesOut yX8_takesOut, .code yX8_takesOut cX8_takesOut 4 none, .fieldLink RX8 44 "OutboxHouseModel" "letterKey" "[I", .fieldLink RX8 47 "OutboxHouseModel" "letterOrder" "[I", .fieldLink RX8 50 "OutboxHouseModel" "letterValue" "[I"] ++ wsX80)
def wsX8_letter : List Cond := .code yX8_letter cX8_letter 5 (some .int) :: ([.fieldLink RX8 41 "OutboxHouseModel" "letterAt" "[I", .fieldLink RX8 44 "OutboxHouseModel" "letterKey" "[I", .fieldLink RX8 47 "OutboxHouseModel" "letterOrder" "[I", .fieldLink RX8 50 "OutboxHouseModel" "letterValue" "[I", .methodLink RX8 171 yX8_isLane, .static yX8_isLane, .initialized RX8, .code yX8_isLane cX8_isLane 1 (some .boolean), .methodLink RX8 87 yX8_in, .static yX8_in, .code yX8_in cX8_in 3 (some .boolean), .methodLink RX8 174 yX8_isLetter, .instanceMethod yX8_isLetter, .selects RX8 yX8_isLetter yX8_isLetter, .code yX8_isLetter cX8_isLetter 3 (some .boolean), .fieldLink RX8 38 "OutboxHouseModel" "letters" "[I"] ++ wsX80)
def wsX8_saves : List Cond := .code yX8_saves cX8_saves 3 (some .int) :: ([.fieldLink RX8 56 "OutboxHouseModel" "doneNow" "[I", .fieldLink RX8 65 "OutboxHouseModel" "doneDisk" "[I", .fieldLink RX8 62 "OutboxHouseModel" "valueDisk" "[I", .fieldLink RX8 53 "OutboxHouseModel" "valueNow" "[I", .fieldLink RX8 68 "OutboxHouseModel" "hasDisk" "[Z", .fieldLink RX8 59 "OutboxHouseModel" "hasNow" "[Z"] ++ wsX80)
def wsX8_save : List Cond := .code yX8_save cX8_save 1 (some .int) :: ([.methodLink RX8 182 yX8_saves, .instanceMethod yX8_saves, .selects RX8 yX8_saves yX8_saves, .initialized RX8, .code yX8_saves cX8_saves 3 (some .int), .fieldLink RX8 56 "OutboxHouseModel" "doneNow" "[I", .fieldLink RX8 65 "OutboxHouseModel" "doneDisk" "[I", .fieldLink RX8 62 "OutboxHouseModel" "valueDisk" "[I", .fieldLink RX8 53 "OutboxHouseModel" "valueNow" "[I", .fieldLink RX8 68 "OutboxHouseModel" "hasDisk" "[Z", .fieldLink RX8 59 "OutboxHouseModel" "hasNow" "[Z"] ++ wsX80)
def wsX8_toAck : List Cond := .code yX8_toAck cX8_toAck 2 (some .int) :: ([.fieldLink RX8 68 "OutboxHouseModel" "hasDisk" "[Z"] ++ wsX80)
def wsX8_acks : List Cond := .code yX8_acks cX8_acks 3 (some .int) :: ([.fieldLink RX8 128 "OutboxHouseModel" "mark" "I", .fieldLink RX8 125 "OutboxHouseModel" "position" "I", .methodLink RX8 185 yX8_toAck, .instanceMethod yX8_toAck, .selects RX8 yX8_toAck yX8_toAck, .initialized RX8, .code yX8_toAck cX8_toAck 2 (some .int), .fieldLink RX8 68 "OutboxHouseModel" "hasDisk" "[Z"] ++ wsX80)
def wsX8_ack : List Cond := .code yX8_ack cX8_ack 2 (some .int) :: ([.methodLink RX8 188 yX8_acks, .instanceMethod yX8_acks, .selects RX8 yX8_acks yX8_acks, .initialized RX8, .code yX8_acks cX8_acks 3 (some .int), .fieldLink RX8 128 "OutboxHouseModel" "mark" "I", .fieldLink RX8 125 "OutboxHouseModel" "position" "I", .methodLink RX8 185 yX8_toAck, .instanceMethod yX8_toAck, .selects RX8 yX8_toAck yX8_toAck, .code yX8_toAck cX8_toAck 2 (some .int), .fieldLink RX8 68 "OutboxHouseModel" "hasDisk" "[Z"] ++ wsX80)
def wsX8_flow_r1 : List Cond := [Cond.fieldLink RX8 143 "OutboxHouseModel" "doneEver" "I", Cond.fieldLink RX8 38 "OutboxHouseModel" "letters" "[I", Cond.methodLink RX8 87 yX8_in, Cond.static yX8_in, Cond.initialized RX8, Cond.code yX8_in cX8_in 3 (some .boolean), Cond.methodLink RX8 178 yX8_delivers, Cond.instanceMethod yX8_delivers, Cond.selects RX8 yX8_delivers yX8_delivers, Cond.code yX8_delivers cX8_delivers 9 (some .int), Cond.fieldLink RX8 44 "OutboxHouseModel" "letterKey" "[I", Cond.fieldLink RX8 47 "OutboxHouseModel" "letterOrder" "[I", Cond.fieldLink RX8 50 "OutboxHouseModel" "letterValue" "[I", Cond.fieldLink RX8 41 "OutboxHouseModel" "letterAt" "[I", Cond.methodLink RX8 163 yX8_takesOut, Cond.instanceMethod yX8_takesOut, Cond.selects RX8 yX8_takesOut yX8_takesOut, Cond.code yX8_takesOut cX8_takesOut 4 none, Cond.methodLink RX8 167 yX8_hears, Cond.instanceMethod yX8_hears, Cond.selects RX8 yX8_hears yX8_hears, Cond.code yX8_hears cX8_hears 6 (some .int), Cond.fieldLink RX8 56 "OutboxHouseModel" "doneNow" "[I", Cond.fieldLink RX8 146 "OutboxHouseModel" "twice" "I"]
def wsX8_flow_r2 : List Cond := [Cond.fieldLink RX8 115 "OutboxHouseModel" "held" "I", Cond.fieldLink RX8 153 "OutboxHouseModel" "lost" "I", Cond.fieldLink RX8 71 "OutboxHouseModel" "heldKey" "[I", Cond.fieldLink RX8 74 "OutboxHouseModel" "heldOrder" "[I", Cond.fieldLink RX8 77 "OutboxHouseModel" "heldValue" "[I", Cond.fieldLink RX8 80 "OutboxHouseModel" "heldAt" "[I", Cond.methodLink RX8 149 yX8_findHeld, Cond.instanceMethod yX8_findHeld, Cond.selects RX8 yX8_findHeld yX8_findHeld, Cond.code yX8_findHeld cX8_findHeld 4 (some .int), Cond.methodLink RX8 156 yX8_does, Cond.instanceMethod yX8_does, Cond.selects RX8 yX8_does yX8_does, Cond.code yX8_does cX8_does 4 none, Cond.fieldLink RX8 53 "OutboxHouseModel" "valueNow" "[I", Cond.fieldLink RX8 59 "OutboxHouseModel" "hasNow" "[Z", Cond.methodLink RX8 160 yX8_letsGo, Cond.instanceMethod yX8_letsGo, Cond.selects RX8 yX8_letsGo yX8_letsGo, Cond.code yX8_letsGo cX8_letsGo 3 none, Cond.methodLink RX8 182 yX8_saves, Cond.instanceMethod yX8_saves, Cond.selects RX8 yX8_saves yX8_saves, Cond.code yX8_saves cX8_saves 3 (some .int)]
def wsX8_flow_r3 : List Cond := [Cond.fieldLink RX8 65 "OutboxHouseModel" "doneDisk" "[I", Cond.fieldLink RX8 62 "OutboxHouseModel" "valueDisk" "[I", Cond.fieldLink RX8 68 "OutboxHouseModel" "hasDisk" "[Z", Cond.methodLink RX8 188 yX8_acks, Cond.instanceMethod yX8_acks, Cond.selects RX8 yX8_acks yX8_acks, Cond.code yX8_acks cX8_acks 3 (some .int), Cond.fieldLink RX8 128 "OutboxHouseModel" "mark" "I", Cond.fieldLink RX8 125 "OutboxHouseModel" "position" "I", Cond.methodLink RX8 185 yX8_toAck, Cond.instanceMethod yX8_toAck, Cond.selects RX8 yX8_toAck yX8_toAck, Cond.code yX8_toAck cX8_toAck 2 (some .int), Cond.methodLink RX8 140 yX8_relays, Cond.instanceMethod yX8_relays, Cond.selects RX8 yX8_relays yX8_relays, Cond.code yX8_relays cX8_relays 5 (some .int), Cond.fieldLink RX8 95 "OutboxHouseModel" "flushed" "I", Cond.fieldLink RX8 26 "OutboxHouseModel" "logKey" "[I", Cond.fieldLink RX8 32 "OutboxHouseModel" "logOrder" "[I", Cond.fieldLink RX8 29 "OutboxHouseModel" "logValue" "[I", Cond.fieldLink RX8 137 "OutboxHouseModel" "sent" "I"]
def wsX8_flow : List Cond := .code yX8_flow cX8_flow 7 (some .int) :: ((wsX8_flow_r1 ++ (wsX8_flow_r2 ++ wsX8_flow_r3)) ++ wsX80)
def wsX8_whole : List Cond := .code yX8_whole cX8_whole 5 (some .int) :: ([.fieldLink RX8 95 "OutboxHouseModel" "flushed" "I", .fieldLink RX8 35 "OutboxHouseModel" "isLast" "[Z", .fieldLink RX8 68 "OutboxHouseModel" "hasDisk" "[Z"] ++ wsX80)
def wsX8_hasPrefix : List Cond := .code yX8_hasPrefix cX8_hasPrefix 6 (some .boolean) :: ([.fieldLink RX8 95 "OutboxHouseModel" "flushed" "I", .fieldLink RX8 26 "OutboxHouseModel" "logKey" "[I", .fieldLink RX8 32 "OutboxHouseModel" "logOrder" "[I", .fieldLink RX8 29 "OutboxHouseModel" "logValue" "[I"] ++ wsX80)
def wsX8_prefix : List Cond := .code yX8_prefix cX8_prefix 4 (some .int) :: ([.fieldLink RX8 56 "OutboxHouseModel" "doneNow" "[I", .fieldLink RX8 53 "OutboxHouseModel" "valueNow" "[I", .fieldLink RX8 65 "OutboxHouseModel" "doneDisk" "[I", .fieldLink RX8 62 "OutboxHouseModel" "valueDisk" "[I", .methodLink RX8 87 yX8_in, .static yX8_in, .initialized RX8, .code yX8_in cX8_in 3 (some .boolean), .methodLink RX8 192 yX8_hasPrefix, .instanceMethod yX8_hasPrefix, .selects RX8 yX8_hasPrefix yX8_hasPrefix, .code yX8_hasPrefix cX8_hasPrefix 6 (some .boolean), .fieldLink RX8 95 "OutboxHouseModel" "flushed" "I", .fieldLink RX8 26 "OutboxHouseModel" "logKey" "[I", .fieldLink RX8 32 "OutboxHouseModel" "logOrder" "[I", .fieldLink RX8 29 "OutboxHouseModel" "logValue" "[I"] ++ wsX80)
def wsX8_count : List Cond := .code yX8_count cX8_count 4 (some .int) :: ([.fieldLink RX8 7 "OutboxHouseModel" "isOpen" "[Z", .fieldLink RX8 83 "OutboxHouseModel" "end" "I", .fieldLink RX8 95 "OutboxHouseModel" "flushed" "I", .fieldLink RX8 125 "OutboxHouseModel" "position" "I", .fieldLink RX8 128 "OutboxHouseModel" "mark" "I", .fieldLink RX8 134 "OutboxHouseModel" "first" "I", .fieldLink RX8 38 "OutboxHouseModel" "letters" "[I", .fieldLink RX8 137 "OutboxHouseModel" "sent" "I", .fieldLink RX8 143 "OutboxHouseModel" "doneEver" "I", .fieldLink RX8 146 "OutboxHouseModel" "twice" "I", .fieldLink RX8 115 "OutboxHouseModel" "held" "I", .fieldLink RX8 153 "OutboxHouseModel" "lost" "I", .fieldLink RX8 118 "OutboxHouseModel" "crashes" "I", .methodLink RX8 185 yX8_toAck, .instanceMethod yX8_toAck, .selects RX8 yX8_toAck yX8_toAck, .initialized RX8, .code yX8_toAck cX8_toAck 2 (some .int), .fieldLink RX8 68 "OutboxHouseModel" "hasDisk" "[Z"] ++ wsX80)
def wsJ9_max_7cf53 : List Cond := .code yJ9_max_7cf53 cJ9_max_7cf53 2 (some .int) :: ([])
def wsL_law_r1 : List Cond := [Cond.classLink RL 7 RX7, Cond.instantiable RX7 5, Cond.initialized RX7, Cond.classLink RL 10 RX8, Cond.instantiable RX8 35, Cond.initialized RX8, Cond.methodLink RL 9 yX7_init, Cond.instanceMethod yX7_init, Cond.code yX7_init cX7_init 1 none, Cond.methodLink RX7 1 objectInit, Cond.instanceMethod objectInit, Cond.code objectInit ⟨#[0xb1]⟩ 1 none, Cond.classLink RX7 7 RX1, Cond.instantiable RX1 4, Cond.initialized RX1, Cond.fieldLink RX7 10 "OutboxHouse" "changes" "LOutboxHouse$ChangeLog;", Cond.classLink RX7 16 RX4, Cond.instantiable RX4 6, Cond.initialized RX4, Cond.fieldLink RX7 21 "OutboxHouse" "source" "LOutboxHouse$Source;", Cond.classLink RX7 25 RX2, Cond.instantiable RX2 6, Cond.initialized RX2, Cond.fieldLink RX7 28 "OutboxHouse" "reader" "LOutboxHouse$Relay;"]
def wsL_law_r2 : List Cond := [Cond.classLink RX7 32 RX5, Cond.instantiable RX5 7, Cond.initialized RX5, Cond.fieldLink RX7 35 "OutboxHouse" "target" "LOutboxHouse$Target;", Cond.instanceMethod yX1_init, Cond.code yX1_init cX1_init 1 none, Cond.methodLink RX1 3 objectInit, Cond.classLink RX1 9 RX0, Cond.fieldLink RX1 11 "OutboxHouse$ChangeLog" "rows" "[LOutboxHouse$Change;", Cond.methodLink RX7 18 yX4_init, Cond.instanceMethod yX4_init, Cond.code yX4_init cX4_init 2 none, Cond.methodLink RX4 3 objectInit, Cond.arrayClass .int, Cond.fieldLink RX4 9 "OutboxHouse$Source" "values" "[I", Cond.fieldLink RX4 15 "OutboxHouse$Source" "counts" "[I", Cond.fieldLink RX4 18 "OutboxHouse$Source" "owners" "[I", Cond.fieldLink RX4 21 "OutboxHouse$Source" "drafts" "[I", Cond.arrayClass .boolean, Cond.fieldLink RX4 24 "OutboxHouse$Source" "open" "[Z", Cond.fieldLink RX4 28 "OutboxHouse$Source" "changes" "LOutboxHouse$ChangeLog;", Cond.methodLink RX4 32 yJ7_fill_53178, Cond.static yJ7_fill_53178, Cond.initialized RJ7]
def wsL_law_r3 : List Cond := [Cond.code yJ7_fill_53178 cJ7_fill_53178 4 none, Cond.methodLink RX7 27 yX2_init, Cond.instanceMethod yX2_init, Cond.code yX2_init cX2_init 3 none, Cond.methodLink RX2 3 objectInit, Cond.classLink RX2 9 RX3, Cond.fieldLink RX2 11 "OutboxHouse$Relay" "lanes" "[LOutboxHouse$Row;", Cond.fieldLink RX2 17 "OutboxHouse$Relay" "changes" "LOutboxHouse$ChangeLog;", Cond.instantiable RX3 2, Cond.initialized RX3, Cond.methodLink RX2 21 yX3_init, Cond.instanceMethod yX3_init, Cond.code yX3_init cX3_init 2 none, Cond.methodLink RX3 3 objectInit, Cond.methodLink RX3 9 Lib.Math.max.name, Cond.static Lib.Math.max.name, Cond.initialized "java/lang/Math", Cond.code Lib.Math.max.name Lib.Math.max.code 2 (some .int), Cond.classLink RX3 15 RX0, Cond.fieldLink RX3 17 "OutboxHouse$Row" "slots" "[LOutboxHouse$Change;", Cond.methodLink RX7 34 yX5_init, Cond.instanceMethod yX5_init, Cond.code yX5_init cX5_init 2 none, Cond.methodLink RX5 3 objectInit]
def wsL_law_r4 : List Cond := [Cond.classLink RX5 9 RX6, Cond.instantiable RX6 3, Cond.initialized RX6, Cond.fieldLink RX5 12 "OutboxHouse$Target" "memory" "LOutboxHouse$TargetState;", Cond.fieldLink RX5 18 "OutboxHouse$Target" "disk" "LOutboxHouse$TargetState;", Cond.classLink RX5 21 RX3, Cond.fieldLink RX5 26 "OutboxHouse$Target" "held" "LOutboxHouse$Row;", Cond.fieldLink RX5 30 "OutboxHouse$Target" "changes" "LOutboxHouse$ChangeLog;", Cond.instanceMethod yX6_init, Cond.code yX6_init cX6_init 1 none, Cond.methodLink RX6 3 objectInit, Cond.fieldLink RX6 9 "OutboxHouse$TargetState" "values" "[I", Cond.fieldLink RX6 15 "OutboxHouse$TargetState" "done" "[I", Cond.methodLink RX5 23 yX3_init, Cond.methodLink RL 12 yX8_init, Cond.instanceMethod yX8_init, Cond.code yX8_init cX8_init 1 none, Cond.methodLink RX8 1 objectInit, Cond.fieldLink RX8 7 "OutboxHouseModel" "isOpen" "[Z", Cond.fieldLink RX8 13 "OutboxHouseModel" "wrote" "[Z", Cond.fieldLink RX8 16 "OutboxHouseModel" "written" "[I", Cond.fieldLink RX8 20 "OutboxHouseModel" "value" "[I", Cond.fieldLink RX8 23 "OutboxHouseModel" "counts" "[I", Cond.fieldLink RX8 26 "OutboxHouseModel" "logKey" "[I"]
def wsL_law_r5 : List Cond := [Cond.fieldLink RX8 29 "OutboxHouseModel" "logValue" "[I", Cond.fieldLink RX8 32 "OutboxHouseModel" "logOrder" "[I", Cond.fieldLink RX8 35 "OutboxHouseModel" "isLast" "[Z", Cond.fieldLink RX8 38 "OutboxHouseModel" "letters" "[I", Cond.fieldLink RX8 41 "OutboxHouseModel" "letterAt" "[I", Cond.fieldLink RX8 44 "OutboxHouseModel" "letterKey" "[I", Cond.fieldLink RX8 47 "OutboxHouseModel" "letterOrder" "[I", Cond.fieldLink RX8 50 "OutboxHouseModel" "letterValue" "[I", Cond.fieldLink RX8 53 "OutboxHouseModel" "valueNow" "[I", Cond.fieldLink RX8 56 "OutboxHouseModel" "doneNow" "[I", Cond.fieldLink RX8 59 "OutboxHouseModel" "hasNow" "[Z", Cond.fieldLink RX8 62 "OutboxHouseModel" "valueDisk" "[I", Cond.fieldLink RX8 65 "OutboxHouseModel" "doneDisk" "[I", Cond.fieldLink RX8 68 "OutboxHouseModel" "hasDisk" "[Z", Cond.fieldLink RX8 71 "OutboxHouseModel" "heldKey" "[I", Cond.fieldLink RX8 74 "OutboxHouseModel" "heldOrder" "[I", Cond.fieldLink RX8 77 "OutboxHouseModel" "heldValue" "[I", Cond.fieldLink RX8 80 "OutboxHouseModel" "heldAt" "[I", Cond.fieldLink RX8 83 "OutboxHouseModel" "end" "I", Cond.methodLink RL 13 yX7_begin, Cond.instanceMethod yX7_begin, Cond.selects RX7 yX7_begin yX7_begin, Cond.code yX7_begin cX7_begin 1 (some .int), Cond.methodLink RX7 39 yX4_openFirstFree]
def wsL_law_r6 : List Cond := [Cond.instanceMethod yX4_openFirstFree, Cond.selects RX4 yX4_openFirstFree yX4_openFirstFree, Cond.code yX4_openFirstFree cX4_openFirstFree 2 (some .int), Cond.methodLink RL 17 yX8_begin, Cond.instanceMethod yX8_begin, Cond.selects RX8 yX8_begin yX8_begin, Cond.code yX8_begin cX8_begin 2 (some .int), Cond.methodLink RX8 91 yX8_clears, Cond.instanceMethod yX8_clears, Cond.selects RX8 yX8_clears yX8_clears, Cond.code yX8_clears cX8_clears 3 none, Cond.methodLink RL 18 yX7_write, Cond.instanceMethod yX7_write, Cond.selects RX7 yX7_write yX7_write, Cond.code yX7_write cX7_write 4 (some .int), Cond.methodLink RX7 43 yX4_isOpen, Cond.instanceMethod yX4_isOpen, Cond.selects RX4 yX4_isOpen yX4_isOpen, Cond.code yX4_isOpen cX4_isOpen 2 (some .boolean), Cond.methodLink RX7 47 yX7_isKey, Cond.static yX7_isKey, Cond.code yX7_isKey cX7_isKey 1 (some .boolean), Cond.methodLink RX7 50 yX4_draft, Cond.instanceMethod yX4_draft]
def wsL_law_r7 : List Cond := [Cond.selects RX4 yX4_draft yX4_draft, Cond.code yX4_draft cX4_draft 4 (some .boolean), Cond.methodLink RL 22 yX8_write, Cond.instanceMethod yX8_write, Cond.selects RX8 yX8_write yX8_write, Cond.code yX8_write cX8_write 5 (some .int), Cond.methodLink RX8 98 yX8_isTransaction, Cond.instanceMethod yX8_isTransaction, Cond.selects RX8 yX8_isTransaction yX8_isTransaction, Cond.code yX8_isTransaction cX8_isTransaction 2 (some .boolean), Cond.methodLink RX8 87 yX8_in, Cond.static yX8_in, Cond.code yX8_in cX8_in 3 (some .boolean), Cond.methodLink RX8 102 yX8_isKey, Cond.static yX8_isKey, Cond.code yX8_isKey cX8_isKey 1 (some .boolean), Cond.methodLink RX8 105 yX8_writer, Cond.instanceMethod yX8_writer, Cond.selects RX8 yX8_writer yX8_writer, Cond.code yX8_writer cX8_writer 3 (some .int), Cond.methodLink RX8 109 yX8_isUnderWay, Cond.instanceMethod yX8_isUnderWay, Cond.selects RX8 yX8_isUnderWay yX8_isUnderWay, Cond.code yX8_isUnderWay cX8_isUnderWay 4 (some .boolean)]
def wsL_law_r8 : List Cond := [Cond.fieldLink RX8 95 "OutboxHouseModel" "flushed" "I", Cond.methodLink RL 23 yX7_read, Cond.instanceMethod yX7_read, Cond.selects RX7 yX7_read yX7_read, Cond.code yX7_read cX7_read 3 (some .int), Cond.methodLink RX7 54 yX4_seenBy, Cond.instanceMethod yX4_seenBy, Cond.selects RX4 yX4_seenBy yX4_seenBy, Cond.code yX4_seenBy cX4_seenBy 3 (some .int), Cond.methodLink RL 27 yX8_read, Cond.instanceMethod yX8_read, Cond.selects RX8 yX8_read yX8_read, Cond.code yX8_read cX8_read 3 (some .int), Cond.methodLink RL 28 yX7_commit, Cond.instanceMethod yX7_commit, Cond.selects RX7 yX7_commit yX7_commit, Cond.code yX7_commit cX7_commit 3 (some .int), Cond.methodLink RX7 58 yX4_lockedKeys, Cond.instanceMethod yX4_lockedKeys, Cond.selects RX4 yX4_lockedKeys yX4_lockedKeys, Cond.code yX4_lockedKeys cX4_lockedKeys 4 (some .int), Cond.methodLink RX7 62 yX1_hasRoomFor, Cond.instanceMethod yX1_hasRoomFor, Cond.selects RX1 yX1_hasRoomFor yX1_hasRoomFor]
def wsL_law_r9 : List Cond := [Cond.code yX1_hasRoomFor cX1_hasRoomFor 2 (some .boolean), Cond.fieldLink RX1 17 "OutboxHouse$ChangeLog" "end" "I", Cond.methodLink RX7 65 yX4_putIntoLog, Cond.instanceMethod yX4_putIntoLog, Cond.selects RX4 yX4_putIntoLog yX4_putIntoLog, Cond.code yX4_putIntoLog cX4_putIntoLog 5 none, Cond.methodLink RX4 38 yX1_append, Cond.instanceMethod yX1_append, Cond.selects RX1 yX1_append yX1_append, Cond.code yX1_append cX1_append 5 none, Cond.instantiable RX0 5, Cond.initialized RX0, Cond.methodLink RX1 21 yX0_init, Cond.instanceMethod yX0_init, Cond.code yX0_init cX0_init 6 none, Cond.methodLink RX0 1 objectInit, Cond.fieldLink RX0 7 "OutboxHouse$Change" "place" "I", Cond.fieldLink RX0 13 "OutboxHouse$Change" "key" "I", Cond.fieldLink RX0 16 "OutboxHouse$Change" "value" "I", Cond.fieldLink RX0 19 "OutboxHouse$Change" "order" "I", Cond.fieldLink RX0 22 "OutboxHouse$Change" "last" "Z", Cond.methodLink RX4 44 yX4_finish, Cond.instanceMethod yX4_finish, Cond.selects RX4 yX4_finish yX4_finish]
def wsL_law_r10 : List Cond := [Cond.code yX4_finish cX4_finish 4 none, Cond.methodLink RL 32 yX8_commit, Cond.instanceMethod yX8_commit, Cond.selects RX8 yX8_commit yX8_commit, Cond.code yX8_commit cX8_commit 5 (some .int), Cond.methodLink RX8 112 yX8_writtenBy, Cond.instanceMethod yX8_writtenBy, Cond.selects RX8 yX8_writtenBy yX8_writtenBy, Cond.code yX8_writtenBy cX8_writtenBy 4 (some .int), Cond.methodLink RL 33 yX7_abort, Cond.instanceMethod yX7_abort, Cond.selects RX7 yX7_abort yX7_abort, Cond.code yX7_abort cX7_abort 3 (some .int), Cond.methodLink RX7 69 yX4_giveUp, Cond.instanceMethod yX4_giveUp, Cond.selects RX4 yX4_giveUp yX4_giveUp, Cond.code yX4_giveUp cX4_giveUp 2 none, Cond.methodLink RL 36 yX8_abort, Cond.instanceMethod yX8_abort, Cond.selects RX8 yX8_abort yX8_abort, Cond.code yX8_abort cX8_abort 3 (some .int), Cond.methodLink RL 37 yX7_flush, Cond.instanceMethod yX7_flush, Cond.selects RX7 yX7_flush yX7_flush]
def wsL_law_r11 : List Cond := [Cond.code yX7_flush cX7_flush 1 (some .int), Cond.methodLink RX7 73 yX4_flushChanges, Cond.instanceMethod yX4_flushChanges, Cond.selects RX4 yX4_flushChanges yX4_flushChanges, Cond.code yX4_flushChanges cX4_flushChanges 4 (some .int), Cond.fieldLink RX4 56 "OutboxHouse$Change" "key" "I", Cond.fieldLink RX4 61 "OutboxHouse$Change" "value" "I", Cond.fieldLink RX4 64 "OutboxHouse$Change" "order" "I", Cond.methodLink RX4 52 yX1_at, Cond.instanceMethod yX1_at, Cond.selects RX1 yX1_at yX1_at, Cond.code yX1_at cX1_at 2 (some (.object "OutboxHouse$Change")), Cond.methodLink RL 40 yX8_flush, Cond.instanceMethod yX8_flush, Cond.selects RX8 yX8_flush yX8_flush, Cond.code yX8_flush cX8_flush 2 (some .int), Cond.methodLink RL 41 yX7_crash, Cond.instanceMethod yX7_crash, Cond.selects RX7 yX7_crash yX7_crash, Cond.code yX7_crash cX7_crash 2 (some .int), Cond.fieldLink RX7 76 "OutboxHouse" "crashes" "I", Cond.methodLink RX7 80 yX4_restart, Cond.instanceMethod yX4_restart, Cond.selects RX4 yX4_restart yX4_restart]
def wsL_law_r12 : List Cond := [Cond.code yX4_restart cX4_restart 2 (some .int), Cond.methodLink RX4 70 yX1_dropUnflushed, Cond.instanceMethod yX1_dropUnflushed, Cond.selects RX1 yX1_dropUnflushed yX1_dropUnflushed, Cond.code yX1_dropUnflushed cX1_dropUnflushed 2 (some .int), Cond.fieldLink RX1 24 "OutboxHouse$ChangeLog" "flushed" "I", Cond.methodLink RX7 83 yX2_restart, Cond.instanceMethod yX2_restart, Cond.selects RX2 yX2_restart yX2_restart, Cond.code yX2_restart cX2_restart 2 (some .int), Cond.fieldLink RX2 28 "OutboxHouse$Relay" "position" "I", Cond.fieldLink RX2 63 "OutboxHouse$Relay" "mark" "I", Cond.methodLink RX7 84 yX5_restart, Cond.instanceMethod yX5_restart, Cond.selects RX5 yX5_restart yX5_restart, Cond.code yX5_restart cX5_restart 1 (some .int), Cond.methodLink RX5 93 yX3_clear, Cond.instanceMethod yX3_clear, Cond.selects RX3 yX3_clear yX3_clear, Cond.code yX3_clear cX3_clear 1 none, Cond.fieldLink RX3 23 "OutboxHouse$Row" "size" "I", Cond.methodLink RX5 89 yX6_become, Cond.instanceMethod yX6_become, Cond.selects RX6 yX6_become yX6_become]
def wsL_law_r13 : List Cond := [Cond.code yX6_become cX6_become 4 (some .int), Cond.fieldLink RX6 30 "OutboxHouse$TargetState" "upTo" "I", Cond.methodLink RL 44 yX8_crash, Cond.instanceMethod yX8_crash, Cond.selects RX8 yX8_crash yX8_crash, Cond.code yX8_crash cX8_crash 3 (some .int), Cond.fieldLink RX8 118 "OutboxHouseModel" "crashes" "I", Cond.fieldLink RX8 125 "OutboxHouseModel" "position" "I", Cond.fieldLink RX8 128 "OutboxHouseModel" "mark" "I", Cond.methodLink RX8 121 yX8_crashSource, Cond.instanceMethod yX8_crashSource, Cond.selects RX8 yX8_crashSource yX8_crashSource, Cond.code yX8_crashSource cX8_crashSource 3 (some .int), Cond.methodLink RX8 131 yX8_crashTarget, Cond.instanceMethod yX8_crashTarget, Cond.selects RX8 yX8_crashTarget yX8_crashTarget, Cond.code yX8_crashTarget cX8_crashTarget 3 (some .int), Cond.fieldLink RX8 115 "OutboxHouseModel" "held" "I", Cond.methodLink RL 45 yX7_key, Cond.instanceMethod yX7_key, Cond.selects RX7 yX7_key yX7_key, Cond.code yX7_key cX7_key 3 (some .int), Cond.methodLink RX7 92 yX4_lockOf, Cond.instanceMethod yX4_lockOf]
def wsL_law_r14 : List Cond := [Cond.selects RX4 yX4_lockOf yX4_lockOf, Cond.code yX4_lockOf cX4_lockOf 2 (some .int), Cond.methodLink RL 48 yX8_key, Cond.instanceMethod yX8_key, Cond.selects RX8 yX8_key yX8_key, Cond.code yX8_key cX8_key 3 (some .int), Cond.methodLink RL 49 yX7_log, Cond.instanceMethod yX7_log, Cond.selects RX7 yX7_log yX7_log, Cond.code yX7_log cX7_log 4 (some .int), Cond.fieldLink RX7 115 "OutboxHouse$Change" "key" "I", Cond.fieldLink RX7 120 "OutboxHouse$Change" "value" "I", Cond.fieldLink RX7 123 "OutboxHouse$Change" "order" "I", Cond.fieldLink RX7 129 "OutboxHouse$Change" "last" "Z", Cond.methodLink RX7 108 yX1_at, Cond.methodLink RX7 112 yX1_isCut, Cond.instanceMethod yX1_isCut, Cond.selects RX1 yX1_isCut yX1_isCut, Cond.code yX1_isCut cX1_isCut 2 (some .boolean), Cond.fieldLink RX1 27 "OutboxHouse$ChangeLog" "first" "I", Cond.methodLink RX7 126 yX1_isFlushed, Cond.instanceMethod yX1_isFlushed, Cond.selects RX1 yX1_isFlushed yX1_isFlushed, Cond.code yX1_isFlushed cX1_isFlushed 2 (some .boolean)]
def wsL_law_r15 : List Cond := [Cond.methodLink RL 52 yX8_log, Cond.instanceMethod yX8_log, Cond.selects RX8 yX8_log yX8_log, Cond.code yX8_log cX8_log 3 (some .int), Cond.fieldLink RX8 134 "OutboxHouseModel" "first" "I", Cond.methodLink RL 53 yX7_relay, Cond.instanceMethod yX7_relay, Cond.selects RX7 yX7_relay yX7_relay, Cond.code yX7_relay cX7_relay 2 (some .int), Cond.methodLink RX7 133 yX2_readOn, Cond.instanceMethod yX2_readOn, Cond.selects RX2 yX2_readOn yX2_readOn, Cond.code yX2_readOn cX2_readOn 3 (some .int), Cond.methodLink RX2 24 yX2_readOne, Cond.instanceMethod yX2_readOne, Cond.selects RX2 yX2_readOne yX2_readOne, Cond.code yX2_readOne cX2_readOne 3 (some .boolean), Cond.fieldLink RX2 38 "OutboxHouse$Change" "key" "I", Cond.fieldLink RX2 50 "OutboxHouse$Relay" "sentEver" "I", Cond.methodLink RX2 32 yX1_flushedAt, Cond.instanceMethod yX1_flushedAt, Cond.selects RX1 yX1_flushedAt yX1_flushedAt, Cond.code yX1_flushedAt cX1_flushedAt 2 (some (.object "OutboxHouse$Change")), Cond.methodLink RX2 43 yX3_isFull]
def wsL_law_r16 : List Cond := [Cond.instanceMethod yX3_isFull, Cond.selects RX3 yX3_isFull yX3_isFull, Cond.code yX3_isFull cX3_isFull 1 (some .boolean), Cond.methodLink RX2 46 yX3_add, Cond.instanceMethod yX3_add, Cond.selects RX3 yX3_add yX3_add, Cond.code yX3_add cX3_add 2 none, Cond.methodLink RL 56 yX8_relay, Cond.instanceMethod yX8_relay, Cond.selects RX8 yX8_relay yX8_relay, Cond.code yX8_relay cX8_relay 2 (some .int), Cond.methodLink RX8 140 yX8_relays, Cond.instanceMethod yX8_relays, Cond.selects RX8 yX8_relays yX8_relays, Cond.code yX8_relays cX8_relays 5 (some .int), Cond.fieldLink RX8 137 "OutboxHouseModel" "sent" "I", Cond.methodLink RL 57 yX7_cut, Cond.instanceMethod yX7_cut, Cond.selects RX7 yX7_cut yX7_cut, Cond.code yX7_cut cX7_cut 1 (some .int), Cond.methodLink RX7 139 yX1_cutUpTo, Cond.instanceMethod yX1_cutUpTo, Cond.selects RX1 yX1_cutUpTo yX1_cutUpTo, Cond.code yX1_cutUpTo cX1_cutUpTo 3 (some .int)]
def wsL_law_r17 : List Cond := [Cond.methodLink RL 60 yX8_cut, Cond.instanceMethod yX8_cut, Cond.selects RX8 yX8_cut yX8_cut, Cond.code yX8_cut cX8_cut 2 (some .int), Cond.methodLink RL 61 yX7_deliver, Cond.instanceMethod yX7_deliver, Cond.selects RX7 yX7_deliver yX7_deliver, Cond.code yX7_deliver cX7_deliver 5 (some .int), Cond.methodLink RX7 142 yX2_letterAt, Cond.instanceMethod yX2_letterAt, Cond.selects RX2 yX2_letterAt yX2_letterAt, Cond.code yX2_letterAt cX2_letterAt 3 (some (.object "OutboxHouse$Change")), Cond.static yX7_isLane, Cond.code yX7_isLane cX7_isLane 1 (some .boolean), Cond.methodLink RX2 57 yX3_at, Cond.instanceMethod yX3_at, Cond.selects RX3 yX3_at yX3_at, Cond.code yX3_at cX3_at 2 (some (.object "OutboxHouse$Change")), Cond.methodLink RX7 146 yX2_dropLetter, Cond.instanceMethod yX2_dropLetter, Cond.selects RX2 yX2_dropLetter yX2_dropLetter, Cond.code yX2_dropLetter cX2_dropLetter 3 none, Cond.methodLink RX2 60 yX3_remove, Cond.instanceMethod yX3_remove]
def wsL_law_r18 : List Cond := [Cond.selects RX3 yX3_remove yX3_remove, Cond.code yX3_remove cX3_remove 3 none, Cond.methodLink RX7 149 yX5_take, Cond.instanceMethod yX5_take, Cond.selects RX5 yX5_take yX5_take, Cond.code yX5_take cX5_take 2 (some .int), Cond.fieldLink RX5 38 "OutboxHouse$Change" "key" "I", Cond.fieldLink RX5 44 "OutboxHouse$Change" "order" "I", Cond.fieldLink RX5 51 "OutboxHouse$Target" "twiceEver" "I", Cond.fieldLink RX5 69 "OutboxHouse$Target" "lostForRoom" "I", Cond.methodLink RX5 34 yX6_has, Cond.instanceMethod yX6_has, Cond.selects RX6 yX6_has yX6_has, Cond.code yX6_has cX6_has 2 (some .boolean), Cond.fieldLink RX6 18 "OutboxHouse$Change" "order" "I", Cond.fieldLink RX6 24 "OutboxHouse$Change" "key" "I", Cond.methodLink RX5 47 yX3_find, Cond.instanceMethod yX3_find, Cond.selects RX3 yX3_find yX3_find, Cond.code yX3_find cX3_find 5 (some .int), Cond.fieldLink RX3 27 "OutboxHouse$Change" "key" "I", Cond.fieldLink RX3 30 "OutboxHouse$Change" "order" "I", Cond.methodLink RX5 58 yX5_doNow, Cond.instanceMethod yX5_doNow]
def wsL_law_r19 : List Cond := [Cond.selects RX5 yX5_doNow yX5_doNow, Cond.code yX5_doNow cX5_doNow 2 none, Cond.fieldLink RX5 79 "OutboxHouse$Target" "doneEver" "I", Cond.methodLink RX5 75 yX6_apply, Cond.instanceMethod yX6_apply, Cond.selects RX6 yX6_apply yX6_apply, Cond.code yX6_apply cX6_apply 4 none, Cond.fieldLink RX6 27 "OutboxHouse$Change" "value" "I", Cond.methodLink RX6 33 yX1_flushedAt, Cond.methodLink RX6 39 yX6_has, Cond.methodLink RX5 62 yX5_doHeldThatFollow, Cond.instanceMethod yX5_doHeldThatFollow, Cond.selects RX5 yX5_doHeldThatFollow yX5_doHeldThatFollow, Cond.code yX5_doHeldThatFollow cX5_doHeldThatFollow 5 none, Cond.methodLink RX5 82 yX3_at, Cond.methodLink RX5 86 yX3_remove, Cond.methodLink RX5 65 yX3_isFull, Cond.methodLink RX5 72 yX3_add, Cond.methodLink RL 65 yX8_deliver, Cond.instanceMethod yX8_deliver, Cond.selects RX8 yX8_deliver yX8_deliver, Cond.code yX8_deliver cX8_deliver 4 (some .int), Cond.methodLink RX8 174 yX8_isLetter, Cond.instanceMethod yX8_isLetter]
def wsL_law_r20 : List Cond := [Cond.selects RX8 yX8_isLetter yX8_isLetter, Cond.code yX8_isLetter cX8_isLetter 3 (some .boolean), Cond.methodLink RX8 171 yX8_isLane, Cond.static yX8_isLane, Cond.code yX8_isLane cX8_isLane 1 (some .boolean), Cond.methodLink RX8 178 yX8_delivers, Cond.instanceMethod yX8_delivers, Cond.selects RX8 yX8_delivers yX8_delivers, Cond.code yX8_delivers cX8_delivers 9 (some .int), Cond.methodLink RX8 163 yX8_takesOut, Cond.instanceMethod yX8_takesOut, Cond.selects RX8 yX8_takesOut yX8_takesOut, Cond.code yX8_takesOut cX8_takesOut 4 none, Cond.methodLink RX8 167 yX8_hears, Cond.instanceMethod yX8_hears, Cond.selects RX8 yX8_hears yX8_hears, Cond.code yX8_hears cX8_hears 6 (some .int), Cond.fieldLink RX8 146 "OutboxHouseModel" "twice" "I", Cond.fieldLink RX8 153 "OutboxHouseModel" "lost" "I", Cond.methodLink RX8 149 yX8_findHeld, Cond.instanceMethod yX8_findHeld, Cond.selects RX8 yX8_findHeld yX8_findHeld, Cond.code yX8_findHeld cX8_findHeld 4 (some .int), Cond.methodLink RX8 156 yX8_does]
def wsL_law_r21 : List Cond := [Cond.instanceMethod yX8_does, Cond.selects RX8 yX8_does yX8_does, Cond.code yX8_does cX8_does 4 none, Cond.fieldLink RX8 143 "OutboxHouseModel" "doneEver" "I", Cond.methodLink RX8 160 yX8_letsGo, Cond.instanceMethod yX8_letsGo, Cond.selects RX8 yX8_letsGo yX8_letsGo, Cond.code yX8_letsGo cX8_letsGo 3 none, Cond.methodLink RL 66 yX7_lose, Cond.instanceMethod yX7_lose, Cond.selects RX7 yX7_lose yX7_lose, Cond.code yX7_lose cX7_lose 4 (some .int), Cond.fieldLink RX7 156 "OutboxHouse$Change" "place" "I", Cond.methodLink RL 69 yX8_lose, Cond.instanceMethod yX8_lose, Cond.selects RX8 yX8_lose yX8_lose, Cond.code yX8_lose cX8_lose 4 (some .int), Cond.methodLink RL 70 yX7_letter, Cond.instanceMethod yX7_letter, Cond.selects RX7 yX7_letter yX7_letter, Cond.code yX7_letter cX7_letter 5 (some .int), Cond.methodLink RX7 159 yX7_isLane, Cond.methodLink RL 73 yX8_letter, Cond.instanceMethod yX8_letter]
def wsL_law_r22 : List Cond := [Cond.selects RX8 yX8_letter yX8_letter, Cond.code yX8_letter cX8_letter 5 (some .int), Cond.methodLink RL 74 yX7_save, Cond.instanceMethod yX7_save, Cond.selects RX7 yX7_save yX7_save, Cond.code yX7_save cX7_save 1 (some .int), Cond.methodLink RX7 162 yX5_saveMemory, Cond.instanceMethod yX5_saveMemory, Cond.selects RX5 yX5_saveMemory yX5_saveMemory, Cond.code yX5_saveMemory cX5_saveMemory 1 (some .int), Cond.methodLink RL 77 yX8_save, Cond.instanceMethod yX8_save, Cond.selects RX8 yX8_save yX8_save, Cond.code yX8_save cX8_save 1 (some .int), Cond.methodLink RX8 182 yX8_saves, Cond.instanceMethod yX8_saves, Cond.selects RX8 yX8_saves yX8_saves, Cond.code yX8_saves cX8_saves 3 (some .int), Cond.methodLink RL 78 yX7_ack, Cond.instanceMethod yX7_ack, Cond.selects RX7 yX7_ack yX7_ack, Cond.code yX7_ack cX7_ack 2 (some .int), Cond.methodLink RX7 168 yX2_hear, Cond.instanceMethod yX2_hear]
def wsL_law_r23 : List Cond := [Cond.selects RX2 yX2_hear yX2_hear, Cond.code yX2_hear cX2_hear 2 none, Cond.methodLink RX2 66 Lib.Math.max.name, Cond.methodLink RL 82 yX8_ack, Cond.instanceMethod yX8_ack, Cond.selects RX8 yX8_ack yX8_ack, Cond.code yX8_ack cX8_ack 2 (some .int), Cond.methodLink RX8 188 yX8_acks, Cond.instanceMethod yX8_acks, Cond.selects RX8 yX8_acks yX8_acks, Cond.code yX8_acks cX8_acks 3 (some .int), Cond.methodLink RX8 185 yX8_toAck, Cond.instanceMethod yX8_toAck, Cond.selects RX8 yX8_toAck yX8_toAck, Cond.code yX8_toAck cX8_toAck 2 (some .int), Cond.methodLink RL 83 yX7_flow, Cond.instanceMethod yX7_flow, Cond.selects RX7 yX7_flow yX7_flow, Cond.code yX7_flow cX7_flow 4 (some .int), Cond.methodLink RX7 174 yX7_deliverAll, Cond.instanceMethod yX7_deliverAll, Cond.selects RX7 yX7_deliverAll yX7_deliverAll, Cond.code yX7_deliverAll cX7_deliverAll 5 none, Cond.methodLink RX7 225 yX3_at]
def wsL_law_r24 : List Cond := [Cond.methodLink RX7 226 yX3_clear, Cond.methodLink RL 86 yX8_flow, Cond.instanceMethod yX8_flow, Cond.selects RX8 yX8_flow yX8_flow, Cond.code yX8_flow cX8_flow 7 (some .int), Cond.methodLink RL 87 yX7_whole, Cond.instanceMethod yX7_whole, Cond.selects RX7 yX7_whole yX7_whole, Cond.code yX7_whole cX7_whole 1 (some .int), Cond.methodLink RX7 177 yX5_diskIsWhole, Cond.instanceMethod yX5_diskIsWhole, Cond.selects RX5 yX5_diskIsWhole yX5_diskIsWhole, Cond.code yX5_diskIsWhole cX5_diskIsWhole 5 (some .boolean), Cond.fieldLink RX5 101 "OutboxHouse$Change" "last" "Z", Cond.methodLink RX5 96 yX1_flushedAt, Cond.methodLink RL 90 yX8_whole, Cond.instanceMethod yX8_whole, Cond.selects RX8 yX8_whole yX8_whole, Cond.code yX8_whole cX8_whole 5 (some .int), Cond.methodLink RL 91 yX7_prefix, Cond.instanceMethod yX7_prefix, Cond.selects RX7 yX7_prefix yX7_prefix, Cond.code yX7_prefix cX7_prefix 3 (some .int), Cond.methodLink RX7 181 yX6_isAsFlushed]
def wsL_law_r25 : List Cond := [Cond.instanceMethod yX6_isAsFlushed, Cond.selects RX6 yX6_isAsFlushed yX6_isAsFlushed, Cond.code yX6_isAsFlushed cX6_isAsFlushed 4 (some .boolean), Cond.methodLink RL 94 yX8_prefix, Cond.instanceMethod yX8_prefix, Cond.selects RX8 yX8_prefix yX8_prefix, Cond.code yX8_prefix cX8_prefix 4 (some .int), Cond.methodLink RX8 192 yX8_hasPrefix, Cond.instanceMethod yX8_hasPrefix, Cond.selects RX8 yX8_hasPrefix yX8_hasPrefix, Cond.code yX8_hasPrefix cX8_hasPrefix 6 (some .boolean), Cond.methodLink RL 95 yX7_count, Cond.instanceMethod yX7_count, Cond.selects RX7 yX7_count yX7_count, Cond.code yX7_count cX7_count 2 (some .int), Cond.methodLink RX7 185 yX4_openTransactions, Cond.instanceMethod yX4_openTransactions, Cond.selects RX4 yX4_openTransactions yX4_openTransactions, Cond.code yX4_openTransactions cX4_openTransactions 3 (some .int), Cond.methodLink RX7 200 yX2_lettersUnderWay, Cond.instanceMethod yX2_lettersUnderWay, Cond.selects RX2 yX2_lettersUnderWay yX2_lettersUnderWay, Cond.code yX2_lettersUnderWay cX2_lettersUnderWay 3 (some .int), Cond.methodLink RL 98 yX8_count]
def wsL_law_r26 : List Cond := [Cond.instanceMethod yX8_count, Cond.selects RX8 yX8_count yX8_count, Cond.code yX8_count cX8_count 4 (some .int)]
def wsL_law : List Cond := (wsL_law_r1 ++ (wsL_law_r2 ++ (wsL_law_r3 ++ (wsL_law_r4 ++ (wsL_law_r5 ++ (wsL_law_r6 ++ (wsL_law_r7 ++ (wsL_law_r8 ++ (wsL_law_r9 ++ (wsL_law_r10 ++ (wsL_law_r11 ++ (wsL_law_r12 ++ (wsL_law_r13 ++ (wsL_law_r14 ++ (wsL_law_r15 ++ (wsL_law_r16 ++ (wsL_law_r17 ++ (wsL_law_r18 ++ (wsL_law_r19 ++ (wsL_law_r20 ++ (wsL_law_r21 ++ (wsL_law_r22 ++ (wsL_law_r23 ++ (wsL_law_r24 ++ (wsL_law_r25 ++ wsL_law_r26))))))))))))))))))))))))) ++ wsX70 ++ wsX80 ++ wsX10 ++ wsX40 ++ wsX20 ++ wsX50 ++ wsX30 ++ wsX60 ++ wsX00 ++ ([] : List Cond)
theorem dX0_init_0 : decode cX0_init 0 = .ok (.aload_n 0, 1) := by decide +kernel
theorem dX0_init_1 : decode cX0_init 1 = .ok (.invokespecial 1, 3) := by decide +kernel
theorem dX0_init_4 : decode cX0_init 4 = .ok (.aload_n 0, 1) := by decide +kernel
end
section
theorem dX0_init_5 : decode cX0_init 5 = .ok (.iload_n 1, 1) := by decide +kernel
theorem dX0_init_6 : decode cX0_init 6 = .ok (.putfield 7, 3) := by decide +kernel
theorem dX0_init_9 : decode cX0_init 9 = .ok (.aload_n 0, 1) := by decide +kernel
theorem dX0_init_10 : decode cX0_init 10 = .ok (.iload_n 2, 1) := by decide +kernel
theorem dX0_init_11 : decode cX0_init 11 = .ok (.putfield 13, 3) := by decide +kernel
theorem dX0_init_14 : decode cX0_init 14 = .ok (.aload_n 0, 1) := by decide +kernel
theorem dX0_init_15 : decode cX0_init 15 = .ok (.iload_n 3, 1) := by decide +kernel
theorem dX0_init_16 : decode cX0_init 16 = .ok (.putfield 16, 3) := by decide +kernel
theorem dX0_init_19 : decode cX0_init 19 = .ok (.aload_n 0, 1) := by decide +kernel
theorem dX0_init_20 : decode cX0_init 20 = .ok (.iload 4, 2) := by decide +kernel
theorem dX0_init_22 : decode cX0_init 22 = .ok (.putfield 19, 3) := by decide +kernel
theorem dX0_init_25 : decode cX0_init 25 = .ok (.aload_n 0, 1) := by decide +kernel
theorem dX0_init_26 : decode cX0_init 26 = .ok (.iload 5, 2) := by decide +kernel
theorem dX0_init_28 : decode cX0_init 28 = .ok (.putfield 22, 3) := by decide +kernel
theorem dX0_init_31 : decode cX0_init 31 = .ok (.return_, 1) := by decide +kernel
theorem dX1_init_0 : decode cX1_init 0 = .ok (.aload_n 0, 1) := by decide +kernel
theorem dX1_init_1 : decode cX1_init 1 = .ok (.invokespecial 3, 3) := by decide +kernel
theorem dX1_init_4 : decode cX1_init 4 = .ok (.aload_n 0, 1) := by decide +kernel
theorem dX1_init_5 : decode cX1_init 5 = .ok (.sipush 400, 3) := by decide +kernel
theorem dX1_init_8 : decode cX1_init 8 = .ok (.anewarray 9, 3) := by decide +kernel
theorem dX1_init_11 : decode cX1_init 11 = .ok (.putfield 11, 3) := by decide +kernel
theorem dX1_init_14 : decode cX1_init 14 = .ok (.return_, 1) := by decide +kernel
theorem dX1_hasRoomFor_0 : decode cX1_hasRoomFor 0 = .ok (.iload_n 1, 1) := by decide +kernel
theorem dX1_hasRoomFor_1 : decode cX1_hasRoomFor 1 = .ok (.sipush 400, 3) := by decide +kernel
theorem dX1_hasRoomFor_4 : decode cX1_hasRoomFor 4 = .ok (.aload_n 0, 1) := by decide +kernel
theorem dX1_hasRoomFor_5 : decode cX1_hasRoomFor 5 = .ok (.getfield 17, 3) := by decide +kernel
theorem dX1_hasRoomFor_8 : decode cX1_hasRoomFor 8 = .ok (.isub, 1) := by decide +kernel
theorem dX1_hasRoomFor_9 : decode cX1_hasRoomFor 9 = .ok (.if_icmp .gt 7, 3) := by decide +kernel
theorem dX1_hasRoomFor_12 : decode cX1_hasRoomFor 12 = .ok (.iconst 1, 1) := by decide +kernel
theorem dX1_hasRoomFor_13 : decode cX1_hasRoomFor 13 = .ok (.goto 4, 3) := by decide +kernel
theorem dX1_hasRoomFor_16 : decode cX1_hasRoomFor 16 = .ok (.iconst 0, 1) := by decide +kernel
theorem dX1_hasRoomFor_17 : decode cX1_hasRoomFor 17 = .ok (.ireturn, 1) := by decide +kernel
set_option maxRecDepth 20000 in
theorem ggX1_append_X0_init : GoodIn wsX1_append wsX0_init := goodIn_r _ [8, 9, 10, 11, 12, 13, 14, 15, 16, 21, 22, 23, 24, 25] (by decide +kernel) (by decide +kernel)
set_option maxRecDepth 20000 in
theorem gX1_append_X0_init : GoodIn wsX1_append (wsX0_init) := ggX1_append_X0_init
theorem dX1_append_0 : decode cX1_append 0 = .ok (.aload_n 0, 1) := by decide +kernel
theorem dX1_append_1 : decode cX1_append 1 = .ok (.getfield 17, 3) := by decide +kernel
theorem dX1_append_4 : decode cX1_append 4 = .ok (.sipush 400, 3) := by decide +kernel
theorem dX1_append_7 : decode cX1_append 7 = .ok (.if_icmp .ge 38, 3) := by decide +kernel
theorem dX1_append_10 : decode cX1_append 10 = .ok (.aload_n 0, 1) := by decide +kernel
theorem dX1_append_11 : decode cX1_append 11 = .ok (.getfield 11, 3) := by decide +kernel
theorem dX1_append_14 : decode cX1_append 14 = .ok (.aload_n 0, 1) := by decide +kernel
theorem dX1_append_15 : decode cX1_append 15 = .ok (.getfield 17, 3) := by decide +kernel
theorem dX1_append_18 : decode cX1_append 18 = .ok (.new 9, 3) := by decide +kernel
theorem dX1_append_21 : decode cX1_append 21 = .ok (.dup, 1) := by decide +kernel
theorem dX1_append_22 : decode cX1_append 22 = .ok (.aload_n 0, 1) := by decide +kernel
theorem dX1_append_23 : decode cX1_append 23 = .ok (.getfield 17, 3) := by decide +kernel
theorem dX1_append_26 : decode cX1_append 26 = .ok (.iload_n 1, 1) := by decide +kernel
theorem dX1_append_27 : decode cX1_append 27 = .ok (.iload_n 2, 1) := by decide +kernel
theorem dX1_append_28 : decode cX1_append 28 = .ok (.iload_n 3, 1) := by decide +kernel
theorem dX1_append_29 : decode cX1_append 29 = .ok (.iload 4, 2) := by decide +kernel
theorem dX1_append_31 : decode cX1_append 31 = .ok (.invokespecial 21, 3) := by decide +kernel
theorem dX1_append_34 : decode cX1_append 34 = .ok (.aastore, 1) := by decide +kernel
theorem dX1_append_35 : decode cX1_append 35 = .ok (.aload_n 0, 1) := by decide +kernel
theorem dX1_append_36 : decode cX1_append 36 = .ok (.dup, 1) := by decide +kernel
theorem dX1_append_37 : decode cX1_append 37 = .ok (.getfield 17, 3) := by decide +kernel
theorem dX1_append_40 : decode cX1_append 40 = .ok (.iconst 1, 1) := by decide +kernel
theorem dX1_append_41 : decode cX1_append 41 = .ok (.iadd, 1) := by decide +kernel
theorem dX1_append_42 : decode cX1_append 42 = .ok (.putfield 17, 3) := by decide +kernel
theorem dX1_append_45 : decode cX1_append 45 = .ok (.return_, 1) := by decide +kernel
theorem dX1_at_0 : decode cX1_at 0 = .ok (.iload_n 1, 1) := by decide +kernel
theorem dX1_at_1 : decode cX1_at 1 = .ok (.ifCond .lt 20, 3) := by decide +kernel
theorem dX1_at_4 : decode cX1_at 4 = .ok (.iload_n 1, 1) := by decide +kernel
theorem dX1_at_5 : decode cX1_at 5 = .ok (.aload_n 0, 1) := by decide +kernel
theorem dX1_at_6 : decode cX1_at 6 = .ok (.getfield 17, 3) := by decide +kernel
theorem dX1_at_9 : decode cX1_at 9 = .ok (.if_icmp .ge 12, 3) := by decide +kernel
theorem dX1_at_12 : decode cX1_at 12 = .ok (.aload_n 0, 1) := by decide +kernel
theorem dX1_at_13 : decode cX1_at 13 = .ok (.getfield 11, 3) := by decide +kernel
theorem dX1_at_16 : decode cX1_at 16 = .ok (.iload_n 1, 1) := by decide +kernel
theorem dX1_at_17 : decode cX1_at 17 = .ok (.aaload, 1) := by decide +kernel
theorem dX1_at_18 : decode cX1_at 18 = .ok (.goto 4, 3) := by decide +kernel
theorem dX1_at_21 : decode cX1_at 21 = .ok (.aconst_null, 1) := by decide +kernel
theorem dX1_at_22 : decode cX1_at 22 = .ok (.areturn, 1) := by decide +kernel
theorem dX1_flushedAt_0 : decode cX1_flushedAt 0 = .ok (.iload_n 1, 1) := by decide +kernel
theorem dX1_flushedAt_1 : decode cX1_flushedAt 1 = .ok (.ifCond .lt 20, 3) := by decide +kernel
theorem dX1_flushedAt_4 : decode cX1_flushedAt 4 = .ok (.iload_n 1, 1) := by decide +kernel
theorem dX1_flushedAt_5 : decode cX1_flushedAt 5 = .ok (.aload_n 0, 1) := by decide +kernel
theorem dX1_flushedAt_6 : decode cX1_flushedAt 6 = .ok (.getfield 24, 3) := by decide +kernel
theorem dX1_flushedAt_9 : decode cX1_flushedAt 9 = .ok (.if_icmp .ge 12, 3) := by decide +kernel
theorem dX1_flushedAt_12 : decode cX1_flushedAt 12 = .ok (.aload_n 0, 1) := by decide +kernel
theorem dX1_flushedAt_13 : decode cX1_flushedAt 13 = .ok (.getfield 11, 3) := by decide +kernel
theorem dX1_flushedAt_16 : decode cX1_flushedAt 16 = .ok (.iload_n 1, 1) := by decide +kernel
theorem dX1_flushedAt_17 : decode cX1_flushedAt 17 = .ok (.aaload, 1) := by decide +kernel
theorem dX1_flushedAt_18 : decode cX1_flushedAt 18 = .ok (.goto 4, 3) := by decide +kernel
theorem dX1_flushedAt_21 : decode cX1_flushedAt 21 = .ok (.aconst_null, 1) := by decide +kernel
theorem dX1_flushedAt_22 : decode cX1_flushedAt 22 = .ok (.areturn, 1) := by decide +kernel
theorem dX1_isFlushed_0 : decode cX1_isFlushed 0 = .ok (.iload_n 1, 1) := by decide +kernel
theorem dX1_isFlushed_1 : decode cX1_isFlushed 1 = .ok (.aload_n 0, 1) := by decide +kernel
theorem dX1_isFlushed_2 : decode cX1_isFlushed 2 = .ok (.getfield 24, 3) := by decide +kernel
theorem dX1_isFlushed_5 : decode cX1_isFlushed 5 = .ok (.if_icmp .ge 7, 3) := by decide +kernel
theorem dX1_isFlushed_8 : decode cX1_isFlushed 8 = .ok (.iconst 1, 1) := by decide +kernel
theorem dX1_isFlushed_9 : decode cX1_isFlushed 9 = .ok (.goto 4, 3) := by decide +kernel
theorem dX1_isFlushed_12 : decode cX1_isFlushed 12 = .ok (.iconst 0, 1) := by decide +kernel
theorem dX1_isFlushed_13 : decode cX1_isFlushed 13 = .ok (.ireturn, 1) := by decide +kernel
theorem dX1_isCut_0 : decode cX1_isCut 0 = .ok (.iload_n 1, 1) := by decide +kernel
theorem dX1_isCut_1 : decode cX1_isCut 1 = .ok (.aload_n 0, 1) := by decide +kernel
theorem dX1_isCut_2 : decode cX1_isCut 2 = .ok (.getfield 27, 3) := by decide +kernel
theorem dX1_isCut_5 : decode cX1_isCut 5 = .ok (.if_icmp .ge 7, 3) := by decide +kernel
theorem dX1_isCut_8 : decode cX1_isCut 8 = .ok (.iconst 1, 1) := by decide +kernel
theorem dX1_isCut_9 : decode cX1_isCut 9 = .ok (.goto 4, 3) := by decide +kernel
theorem dX1_isCut_12 : decode cX1_isCut 12 = .ok (.iconst 0, 1) := by decide +kernel
theorem dX1_isCut_13 : decode cX1_isCut 13 = .ok (.ireturn, 1) := by decide +kernel
theorem dX1_dropUnflushed_0 : decode cX1_dropUnflushed 0 = .ok (.aload_n 0, 1) := by decide +kernel
theorem dX1_dropUnflushed_1 : decode cX1_dropUnflushed 1 = .ok (.getfield 17, 3) := by decide +kernel
theorem dX1_dropUnflushed_4 : decode cX1_dropUnflushed 4 = .ok (.aload_n 0, 1) := by decide +kernel
theorem dX1_dropUnflushed_5 : decode cX1_dropUnflushed 5 = .ok (.getfield 24, 3) := by decide +kernel
theorem dX1_dropUnflushed_8 : decode cX1_dropUnflushed 8 = .ok (.isub, 1) := by decide +kernel
theorem dX1_dropUnflushed_9 : decode cX1_dropUnflushed 9 = .ok (.istore_n 1, 1) := by decide +kernel
theorem dX1_dropUnflushed_10 : decode cX1_dropUnflushed 10 = .ok (.aload_n 0, 1) := by decide +kernel
theorem dX1_dropUnflushed_11 : decode cX1_dropUnflushed 11 = .ok (.aload_n 0, 1) := by decide +kernel
theorem dX1_dropUnflushed_12 : decode cX1_dropUnflushed 12 = .ok (.getfield 24, 3) := by decide +kernel
theorem dX1_dropUnflushed_15 : decode cX1_dropUnflushed 15 = .ok (.putfield 17, 3) := by decide +kernel
theorem dX1_dropUnflushed_18 : decode cX1_dropUnflushed 18 = .ok (.iload_n 1, 1) := by decide +kernel
theorem dX1_dropUnflushed_19 : decode cX1_dropUnflushed 19 = .ok (.ireturn, 1) := by decide +kernel
theorem dX1_cutUpTo_0 : decode cX1_cutUpTo 0 = .ok (.iload_n 1, 1) := by decide +kernel
theorem dX1_cutUpTo_1 : decode cX1_cutUpTo 1 = .ok (.aload_n 0, 1) := by decide +kernel
theorem dX1_cutUpTo_2 : decode cX1_cutUpTo 2 = .ok (.getfield 27, 3) := by decide +kernel
theorem dX1_cutUpTo_5 : decode cX1_cutUpTo 5 = .ok (.isub, 1) := by decide +kernel
theorem dX1_cutUpTo_6 : decode cX1_cutUpTo 6 = .ok (.istore_n 2, 1) := by decide +kernel
theorem dX1_cutUpTo_7 : decode cX1_cutUpTo 7 = .ok (.aload_n 0, 1) := by decide +kernel
theorem dX1_cutUpTo_8 : decode cX1_cutUpTo 8 = .ok (.iload_n 1, 1) := by decide +kernel
theorem dX1_cutUpTo_9 : decode cX1_cutUpTo 9 = .ok (.putfield 27, 3) := by decide +kernel
theorem dX1_cutUpTo_12 : decode cX1_cutUpTo 12 = .ok (.iload_n 2, 1) := by decide +kernel
theorem dX1_cutUpTo_13 : decode cX1_cutUpTo 13 = .ok (.ireturn, 1) := by decide +kernel
set_option maxRecDepth 20000 in
theorem ggX2_init_X3_init : GoodIn wsX2_init wsX3_init := goodIn_r _ [11, 12, 2, 3, 13, 14, 15, 16, 17, 18, 25, 26] (by decide +kernel) (by decide +kernel)
set_option maxRecDepth 20000 in
theorem gX2_init_X3_init : GoodIn wsX2_init (wsX3_init) := ggX2_init_X3_init
theorem dX2_init_0 : decode cX2_init 0 = .ok (.aload_n 0, 1) := by decide +kernel
theorem dX2_init_1 : decode cX2_init 1 = .ok (.invokespecial 3, 3) := by decide +kernel
theorem dX2_init_4 : decode cX2_init 4 = .ok (.aload_n 0, 1) := by decide +kernel
theorem dX2_init_5 : decode cX2_init 5 = .ok (.iconst 3, 1) := by decide +kernel
theorem dX2_init_6 : decode cX2_init 6 = .ok (.anewarray 9, 3) := by decide +kernel
theorem dX2_init_9 : decode cX2_init 9 = .ok (.putfield 11, 3) := by decide +kernel
theorem dX2_init_12 : decode cX2_init 12 = .ok (.aload_n 0, 1) := by decide +kernel
theorem dX2_init_13 : decode cX2_init 13 = .ok (.aload_n 1, 1) := by decide +kernel
theorem dX2_init_14 : decode cX2_init 14 = .ok (.putfield 17, 3) := by decide +kernel
theorem dX2_init_17 : decode cX2_init 17 = .ok (.iconst 0, 1) := by decide +kernel
theorem dX2_init_18 : decode cX2_init 18 = .ok (.istore_n 2, 1) := by decide +kernel
theorem dX2_init_19 : decode cX2_init 19 = .ok (.iload_n 2, 1) := by decide +kernel
theorem dX2_init_20 : decode cX2_init 20 = .ok (.iconst 3, 1) := by decide +kernel
theorem dX2_init_21 : decode cX2_init 21 = .ok (.if_icmp .ge 24, 3) := by decide +kernel
theorem dX2_init_24 : decode cX2_init 24 = .ok (.aload_n 0, 1) := by decide +kernel
theorem dX2_init_25 : decode cX2_init 25 = .ok (.getfield 11, 3) := by decide +kernel
theorem dX2_init_28 : decode cX2_init 28 = .ok (.iload_n 2, 1) := by decide +kernel
theorem dX2_init_29 : decode cX2_init 29 = .ok (.new 9, 3) := by decide +kernel
theorem dX2_init_32 : decode cX2_init 32 = .ok (.dup, 1) := by decide +kernel
theorem dX2_init_33 : decode cX2_init 33 = .ok (.bipush 40, 2) := by decide +kernel
theorem dX2_init_35 : decode cX2_init 35 = .ok (.invokespecial 21, 3) := by decide +kernel
theorem dX2_init_38 : decode cX2_init 38 = .ok (.aastore, 1) := by decide +kernel
theorem dX2_init_39 : decode cX2_init 39 = .ok (.iinc 2 1, 3) := by decide +kernel
theorem dX2_init_42 : decode cX2_init 42 = .ok (.goto (-23), 3) := by decide +kernel
theorem dX2_init_45 : decode cX2_init 45 = .ok (.return_, 1) := by decide +kernel
set_option maxRecDepth 20000 in
theorem ggX2_readOn_X2_readOne : GoodIn wsX2_readOn wsX2_readOne := goodIn_r _ [5, 6, 7, 8, 9, 10, 11, 12, 13, 14, 15, 16, 17, 18, 19, 20, 21, 22, 23, 24, 25, 26, 27, 28, 29, 30, 31, 32, 33, 34, 35, 36, 37, 38, 39, 40, 41, 42, 43, 44, 45] (by decide +kernel) (by decide +kernel)
set_option maxRecDepth 20000 in
theorem gX2_readOn_X2_readOne : GoodIn wsX2_readOn (wsV RX2 24 RX2 yX2_readOne wsX2_readOne) := goodIn_app (goodIn_of _ (by decide +kernel)) ggX2_readOn_X2_readOne
theorem dX2_readOn_0 : decode cX2_readOn 0 = .ok (.iconst 0, 1) := by decide +kernel
theorem dX2_readOn_1 : decode cX2_readOn 1 = .ok (.istore_n 2, 1) := by decide +kernel
theorem dX2_readOn_2 : decode cX2_readOn 2 = .ok (.iload_n 2, 1) := by decide +kernel
theorem dX2_readOn_3 : decode cX2_readOn 3 = .ok (.iload_n 1, 1) := by decide +kernel
theorem dX2_readOn_4 : decode cX2_readOn 4 = .ok (.if_icmp .ge 16, 3) := by decide +kernel
theorem dX2_readOn_7 : decode cX2_readOn 7 = .ok (.aload_n 0, 1) := by decide +kernel
theorem dX2_readOn_8 : decode cX2_readOn 8 = .ok (.invokevirtual 24, 3) := by decide +kernel
theorem dX2_readOn_11 : decode cX2_readOn 11 = .ok (.ifCond .eq 9, 3) := by decide +kernel
theorem dX2_readOn_14 : decode cX2_readOn 14 = .ok (.iinc 2 1, 3) := by decide +kernel
theorem dX2_readOn_17 : decode cX2_readOn 17 = .ok (.goto (-15), 3) := by decide +kernel
theorem dX2_readOn_20 : decode cX2_readOn 20 = .ok (.iload_n 2, 1) := by decide +kernel
theorem dX2_readOn_21 : decode cX2_readOn 21 = .ok (.ireturn, 1) := by decide +kernel
set_option maxRecDepth 20000 in
theorem ggX2_readOne_X1_flushedAt : GoodIn wsX2_readOne wsX1_flushedAt := goodIn_r _ [10, 11, 12, 35, 36, 37, 38] (by decide +kernel) (by decide +kernel)
set_option maxRecDepth 20000 in
theorem gX2_readOne_X1_flushedAt : GoodIn wsX2_readOne (wsV RX2 32 RX1 yX1_flushedAt wsX1_flushedAt) := goodIn_app (goodIn_of _ (by decide +kernel)) ggX2_readOne_X1_flushedAt
set_option maxRecDepth 20000 in
theorem ggX2_readOne_X3_isFull : GoodIn wsX2_readOne wsX3_isFull := goodIn_r _ [17, 18, 19, 39, 40] (by decide +kernel) (by decide +kernel)
set_option maxRecDepth 20000 in
theorem gX2_readOne_X3_isFull : GoodIn wsX2_readOne (wsV RX2 43 RX3 yX3_isFull wsX3_isFull) := goodIn_app (goodIn_of _ (by decide +kernel)) ggX2_readOne_X3_isFull
set_option maxRecDepth 20000 in
theorem ggX2_readOne_X3_add : GoodIn wsX2_readOne wsX3_add := goodIn_r _ [23, 18, 19, 39, 40] (by decide +kernel) (by decide +kernel)
set_option maxRecDepth 20000 in
theorem gX2_readOne_X3_add : GoodIn wsX2_readOne (wsV RX2 46 RX3 yX3_add wsX3_add) := goodIn_app (goodIn_of _ (by decide +kernel)) ggX2_readOne_X3_add
theorem dX2_readOne_0 : decode cX2_readOne 0 = .ok (.aload_n 0, 1) := by decide +kernel
theorem dX2_readOne_1 : decode cX2_readOne 1 = .ok (.getfield 17, 3) := by decide +kernel
theorem dX2_readOne_4 : decode cX2_readOne 4 = .ok (.aload_n 0, 1) := by decide +kernel
theorem dX2_readOne_5 : decode cX2_readOne 5 = .ok (.getfield 28, 3) := by decide +kernel
theorem dX2_readOne_8 : decode cX2_readOne 8 = .ok (.invokevirtual 32, 3) := by decide +kernel
theorem dX2_readOne_11 : decode cX2_readOne 11 = .ok (.astore_n 1, 1) := by decide +kernel
theorem dX2_readOne_12 : decode cX2_readOne 12 = .ok (.aload_n 1, 1) := by decide +kernel
theorem dX2_readOne_13 : decode cX2_readOne 13 = .ok (.ifnonnull 5, 3) := by decide +kernel
theorem dX2_readOne_16 : decode cX2_readOne 16 = .ok (.iconst 0, 1) := by decide +kernel
theorem dX2_readOne_17 : decode cX2_readOne 17 = .ok (.ireturn, 1) := by decide +kernel
theorem dX2_readOne_18 : decode cX2_readOne 18 = .ok (.aload_n 0, 1) := by decide +kernel
theorem dX2_readOne_19 : decode cX2_readOne 19 = .ok (.getfield 11, 3) := by decide +kernel
theorem dX2_readOne_22 : decode cX2_readOne 22 = .ok (.aload_n 1, 1) := by decide +kernel
theorem dX2_readOne_23 : decode cX2_readOne 23 = .ok (.getfield 38, 3) := by decide +kernel
theorem dX2_readOne_26 : decode cX2_readOne 26 = .ok (.iconst 3, 1) := by decide +kernel
theorem dX2_readOne_27 : decode cX2_readOne 27 = .ok (.irem, 1) := by decide +kernel
theorem dX2_readOne_28 : decode cX2_readOne 28 = .ok (.aaload, 1) := by decide +kernel
theorem dX2_readOne_29 : decode cX2_readOne 29 = .ok (.astore_n 2, 1) := by decide +kernel
theorem dX2_readOne_30 : decode cX2_readOne 30 = .ok (.aload_n 2, 1) := by decide +kernel
theorem dX2_readOne_31 : decode cX2_readOne 31 = .ok (.invokevirtual 43, 3) := by decide +kernel
theorem dX2_readOne_34 : decode cX2_readOne 34 = .ok (.ifCond .eq 5, 3) := by decide +kernel
theorem dX2_readOne_37 : decode cX2_readOne 37 = .ok (.iconst 0, 1) := by decide +kernel
theorem dX2_readOne_38 : decode cX2_readOne 38 = .ok (.ireturn, 1) := by decide +kernel
theorem dX2_readOne_39 : decode cX2_readOne 39 = .ok (.aload_n 2, 1) := by decide +kernel
theorem dX2_readOne_40 : decode cX2_readOne 40 = .ok (.aload_n 1, 1) := by decide +kernel
theorem dX2_readOne_41 : decode cX2_readOne 41 = .ok (.invokevirtual 46, 3) := by decide +kernel
theorem dX2_readOne_44 : decode cX2_readOne 44 = .ok (.aload_n 0, 1) := by decide +kernel
theorem dX2_readOne_45 : decode cX2_readOne 45 = .ok (.dup, 1) := by decide +kernel
theorem dX2_readOne_46 : decode cX2_readOne 46 = .ok (.getfield 28, 3) := by decide +kernel
theorem dX2_readOne_49 : decode cX2_readOne 49 = .ok (.iconst 1, 1) := by decide +kernel
theorem dX2_readOne_50 : decode cX2_readOne 50 = .ok (.iadd, 1) := by decide +kernel
theorem dX2_readOne_51 : decode cX2_readOne 51 = .ok (.putfield 28, 3) := by decide +kernel
theorem dX2_readOne_54 : decode cX2_readOne 54 = .ok (.aload_n 0, 1) := by decide +kernel
theorem dX2_readOne_55 : decode cX2_readOne 55 = .ok (.dup, 1) := by decide +kernel
theorem dX2_readOne_56 : decode cX2_readOne 56 = .ok (.getfield 50, 3) := by decide +kernel
theorem dX2_readOne_59 : decode cX2_readOne 59 = .ok (.iconst 1, 1) := by decide +kernel
theorem dX2_readOne_60 : decode cX2_readOne 60 = .ok (.iadd, 1) := by decide +kernel
theorem dX2_readOne_61 : decode cX2_readOne 61 = .ok (.putfield 50, 3) := by decide +kernel
theorem dX2_readOne_64 : decode cX2_readOne 64 = .ok (.iconst 1, 1) := by decide +kernel
theorem dX2_readOne_65 : decode cX2_readOne 65 = .ok (.ireturn, 1) := by decide +kernel
set_option maxRecDepth 20000 in
theorem ggX2_letterAt_X7_isLane : GoodIn wsX2_letterAt wsX7_isLane := goodIn_r _ [4] (by decide +kernel) (by decide +kernel)
set_option maxRecDepth 20000 in
theorem gX2_letterAt_X7_isLane_n53 : GoodIn wsX2_letterAt (wsX7_isLane) := ggX2_letterAt_X7_isLane
set_option maxRecDepth 20000 in
theorem ggX2_letterAt_X3_at : GoodIn wsX2_letterAt wsX3_at := goodIn_r _ [9, 10, 11, 18, 19] (by decide +kernel) (by decide +kernel)
set_option maxRecDepth 20000 in
theorem gX2_letterAt_X3_at : GoodIn wsX2_letterAt (wsV RX2 57 RX3 yX3_at wsX3_at) := goodIn_app (goodIn_of _ (by decide +kernel)) ggX2_letterAt_X3_at
theorem dX2_letterAt_0 : decode cX2_letterAt 0 = .ok (.iload_n 1, 1) := by decide +kernel
theorem dX2_letterAt_1 : decode cX2_letterAt 1 = .ok (.invokestatic 53, 3) := by decide +kernel
theorem dX2_letterAt_4 : decode cX2_letterAt 4 = .ok (.ifCond .eq 16, 3) := by decide +kernel
theorem dX2_letterAt_7 : decode cX2_letterAt 7 = .ok (.aload_n 0, 1) := by decide +kernel
theorem dX2_letterAt_8 : decode cX2_letterAt 8 = .ok (.getfield 11, 3) := by decide +kernel
theorem dX2_letterAt_11 : decode cX2_letterAt 11 = .ok (.iload_n 1, 1) := by decide +kernel
theorem dX2_letterAt_12 : decode cX2_letterAt 12 = .ok (.aaload, 1) := by decide +kernel
theorem dX2_letterAt_13 : decode cX2_letterAt 13 = .ok (.iload_n 2, 1) := by decide +kernel
theorem dX2_letterAt_14 : decode cX2_letterAt 14 = .ok (.invokevirtual 57, 3) := by decide +kernel
theorem dX2_letterAt_17 : decode cX2_letterAt 17 = .ok (.goto 4, 3) := by decide +kernel
theorem dX2_letterAt_20 : decode cX2_letterAt 20 = .ok (.aconst_null, 1) := by decide +kernel
theorem dX2_letterAt_21 : decode cX2_letterAt 21 = .ok (.areturn, 1) := by decide +kernel
set_option maxRecDepth 20000 in
theorem ggX2_dropLetter_X7_isLane : GoodIn wsX2_dropLetter wsX7_isLane := goodIn_r _ [4] (by decide +kernel) (by decide +kernel)
set_option maxRecDepth 20000 in
theorem gX2_dropLetter_X7_isLane_n53 : GoodIn wsX2_dropLetter (wsX7_isLane) := ggX2_dropLetter_X7_isLane
set_option maxRecDepth 20000 in
theorem ggX2_dropLetter_X3_remove : GoodIn wsX2_dropLetter wsX3_remove := goodIn_r _ [9, 10, 11, 18, 19] (by decide +kernel) (by decide +kernel)
set_option maxRecDepth 20000 in
theorem gX2_dropLetter_X3_remove : GoodIn wsX2_dropLetter (wsV RX2 60 RX3 yX3_remove wsX3_remove) := goodIn_app (goodIn_of _ (by decide +kernel)) ggX2_dropLetter_X3_remove
theorem dX2_dropLetter_0 : decode cX2_dropLetter 0 = .ok (.iload_n 1, 1) := by decide +kernel
theorem dX2_dropLetter_1 : decode cX2_dropLetter 1 = .ok (.invokestatic 53, 3) := by decide +kernel
theorem dX2_dropLetter_4 : decode cX2_dropLetter 4 = .ok (.ifCond .eq 13, 3) := by decide +kernel
theorem dX2_dropLetter_7 : decode cX2_dropLetter 7 = .ok (.aload_n 0, 1) := by decide +kernel
theorem dX2_dropLetter_8 : decode cX2_dropLetter 8 = .ok (.getfield 11, 3) := by decide +kernel
theorem dX2_dropLetter_11 : decode cX2_dropLetter 11 = .ok (.iload_n 1, 1) := by decide +kernel
theorem dX2_dropLetter_12 : decode cX2_dropLetter 12 = .ok (.aaload, 1) := by decide +kernel
theorem dX2_dropLetter_13 : decode cX2_dropLetter 13 = .ok (.iload_n 2, 1) := by decide +kernel
theorem dX2_dropLetter_14 : decode cX2_dropLetter 14 = .ok (.invokevirtual 60, 3) := by decide +kernel
theorem dX2_dropLetter_17 : decode cX2_dropLetter 17 = .ok (.return_, 1) := by decide +kernel
theorem dX2_hear_0 : decode cX2_hear 0 = .ok (.aload_n 0, 1) := by decide +kernel
theorem dX2_hear_1 : decode cX2_hear 1 = .ok (.aload_n 0, 1) := by decide +kernel
theorem dX2_hear_2 : decode cX2_hear 2 = .ok (.getfield 63, 3) := by decide +kernel
theorem dX2_hear_5 : decode cX2_hear 5 = .ok (.iload_n 1, 1) := by decide +kernel
theorem dX2_hear_6 : decode cX2_hear 6 = .ok (.invokestatic 66, 3) := by decide +kernel
theorem dX2_hear_9 : decode cX2_hear 9 = .ok (.putfield 63, 3) := by decide +kernel
theorem dX2_hear_12 : decode cX2_hear 12 = .ok (.aload_n 0, 1) := by decide +kernel
theorem dX2_hear_13 : decode cX2_hear 13 = .ok (.aload_n 0, 1) := by decide +kernel
theorem dX2_hear_14 : decode cX2_hear 14 = .ok (.getfield 28, 3) := by decide +kernel
theorem dX2_hear_17 : decode cX2_hear 17 = .ok (.aload_n 0, 1) := by decide +kernel
theorem dX2_hear_18 : decode cX2_hear 18 = .ok (.getfield 63, 3) := by decide +kernel
theorem dX2_hear_21 : decode cX2_hear 21 = .ok (.invokestatic 66, 3) := by decide +kernel
theorem dX2_hear_24 : decode cX2_hear 24 = .ok (.putfield 28, 3) := by decide +kernel
theorem dX2_hear_27 : decode cX2_hear 27 = .ok (.return_, 1) := by decide +kernel
theorem dX2_restart_0 : decode cX2_restart 0 = .ok (.aload_n 0, 1) := by decide +kernel
theorem dX2_restart_1 : decode cX2_restart 1 = .ok (.getfield 28, 3) := by decide +kernel
theorem dX2_restart_4 : decode cX2_restart 4 = .ok (.aload_n 0, 1) := by decide +kernel
theorem dX2_restart_5 : decode cX2_restart 5 = .ok (.getfield 63, 3) := by decide +kernel
theorem dX2_restart_8 : decode cX2_restart 8 = .ok (.isub, 1) := by decide +kernel
theorem dX2_restart_9 : decode cX2_restart 9 = .ok (.istore_n 1, 1) := by decide +kernel
theorem dX2_restart_10 : decode cX2_restart 10 = .ok (.aload_n 0, 1) := by decide +kernel
theorem dX2_restart_11 : decode cX2_restart 11 = .ok (.aload_n 0, 1) := by decide +kernel
theorem dX2_restart_12 : decode cX2_restart 12 = .ok (.getfield 63, 3) := by decide +kernel
theorem dX2_restart_15 : decode cX2_restart 15 = .ok (.putfield 28, 3) := by decide +kernel
theorem dX2_restart_18 : decode cX2_restart 18 = .ok (.iload_n 1, 1) := by decide +kernel
theorem dX2_restart_19 : decode cX2_restart 19 = .ok (.ireturn, 1) := by decide +kernel
theorem dX2_lettersUnderWay_0 : decode cX2_lettersUnderWay 0 = .ok (.iconst 0, 1) := by decide +kernel
theorem dX2_lettersUnderWay_1 : decode cX2_lettersUnderWay 1 = .ok (.istore_n 1, 1) := by decide +kernel
theorem dX2_lettersUnderWay_2 : decode cX2_lettersUnderWay 2 = .ok (.iconst 0, 1) := by decide +kernel
theorem dX2_lettersUnderWay_3 : decode cX2_lettersUnderWay 3 = .ok (.istore_n 2, 1) := by decide +kernel
theorem dX2_lettersUnderWay_4 : decode cX2_lettersUnderWay 4 = .ok (.iload_n 2, 1) := by decide +kernel
theorem dX2_lettersUnderWay_5 : decode cX2_lettersUnderWay 5 = .ok (.iconst 3, 1) := by decide +kernel
theorem dX2_lettersUnderWay_6 : decode cX2_lettersUnderWay 6 = .ok (.if_icmp .ge 21, 3) := by decide +kernel
theorem dX2_lettersUnderWay_9 : decode cX2_lettersUnderWay 9 = .ok (.iload_n 1, 1) := by decide +kernel
theorem dX2_lettersUnderWay_10 : decode cX2_lettersUnderWay 10 = .ok (.aload_n 0, 1) := by decide +kernel
theorem dX2_lettersUnderWay_11 : decode cX2_lettersUnderWay 11 = .ok (.getfield 11, 3) := by decide +kernel
theorem dX2_lettersUnderWay_14 : decode cX2_lettersUnderWay 14 = .ok (.iload_n 2, 1) := by decide +kernel
theorem dX2_lettersUnderWay_15 : decode cX2_lettersUnderWay 15 = .ok (.aaload, 1) := by decide +kernel
theorem dX2_lettersUnderWay_16 : decode cX2_lettersUnderWay 16 = .ok (.getfield 72, 3) := by decide +kernel
theorem dX2_lettersUnderWay_19 : decode cX2_lettersUnderWay 19 = .ok (.iadd, 1) := by decide +kernel
theorem dX2_lettersUnderWay_20 : decode cX2_lettersUnderWay 20 = .ok (.istore_n 1, 1) := by decide +kernel
theorem dX2_lettersUnderWay_21 : decode cX2_lettersUnderWay 21 = .ok (.iinc 2 1, 3) := by decide +kernel
theorem dX2_lettersUnderWay_24 : decode cX2_lettersUnderWay 24 = .ok (.goto (-20), 3) := by decide +kernel
theorem dX2_lettersUnderWay_27 : decode cX2_lettersUnderWay 27 = .ok (.iload_n 1, 1) := by decide +kernel
theorem dX2_lettersUnderWay_28 : decode cX2_lettersUnderWay 28 = .ok (.ireturn, 1) := by decide +kernel
theorem dX3_init_0 : decode cX3_init 0 = .ok (.aload_n 0, 1) := by decide +kernel
theorem dX3_init_1 : decode cX3_init 1 = .ok (.invokespecial 3, 3) := by decide +kernel
theorem dX3_init_4 : decode cX3_init 4 = .ok (.aload_n 0, 1) := by decide +kernel
theorem dX3_init_5 : decode cX3_init 5 = .ok (.iload_n 1, 1) := by decide +kernel
theorem dX3_init_6 : decode cX3_init 6 = .ok (.iconst 0, 1) := by decide +kernel
theorem dX3_init_7 : decode cX3_init 7 = .ok (.invokestatic 9, 3) := by decide +kernel
theorem dX3_init_10 : decode cX3_init 10 = .ok (.anewarray 15, 3) := by decide +kernel
theorem dX3_init_13 : decode cX3_init 13 = .ok (.putfield 17, 3) := by decide +kernel
theorem dX3_init_16 : decode cX3_init 16 = .ok (.return_, 1) := by decide +kernel
theorem dX3_isFull_0 : decode cX3_isFull 0 = .ok (.aload_n 0, 1) := by decide +kernel
theorem dX3_isFull_1 : decode cX3_isFull 1 = .ok (.getfield 23, 3) := by decide +kernel
theorem dX3_isFull_4 : decode cX3_isFull 4 = .ok (.aload_n 0, 1) := by decide +kernel
theorem dX3_isFull_5 : decode cX3_isFull 5 = .ok (.getfield 17, 3) := by decide +kernel
theorem dX3_isFull_8 : decode cX3_isFull 8 = .ok (.arraylength, 1) := by decide +kernel
theorem dX3_isFull_9 : decode cX3_isFull 9 = .ok (.if_icmp .lt 7, 3) := by decide +kernel
theorem dX3_isFull_12 : decode cX3_isFull 12 = .ok (.iconst 1, 1) := by decide +kernel
theorem dX3_isFull_13 : decode cX3_isFull 13 = .ok (.goto 4, 3) := by decide +kernel
theorem dX3_isFull_16 : decode cX3_isFull 16 = .ok (.iconst 0, 1) := by decide +kernel
theorem dX3_isFull_17 : decode cX3_isFull 17 = .ok (.ireturn, 1) := by decide +kernel
theorem dX3_add_0 : decode cX3_add 0 = .ok (.aload_n 0, 1) := by decide +kernel
theorem dX3_add_1 : decode cX3_add 1 = .ok (.getfield 23, 3) := by decide +kernel
theorem dX3_add_4 : decode cX3_add 4 = .ok (.aload_n 0, 1) := by decide +kernel
theorem dX3_add_5 : decode cX3_add 5 = .ok (.getfield 17, 3) := by decide +kernel
theorem dX3_add_8 : decode cX3_add 8 = .ok (.arraylength, 1) := by decide +kernel
theorem dX3_add_9 : decode cX3_add 9 = .ok (.if_icmp .ge 23, 3) := by decide +kernel
theorem dX3_add_12 : decode cX3_add 12 = .ok (.aload_n 0, 1) := by decide +kernel
theorem dX3_add_13 : decode cX3_add 13 = .ok (.getfield 17, 3) := by decide +kernel
theorem dX3_add_16 : decode cX3_add 16 = .ok (.aload_n 0, 1) := by decide +kernel
theorem dX3_add_17 : decode cX3_add 17 = .ok (.getfield 23, 3) := by decide +kernel
theorem dX3_add_20 : decode cX3_add 20 = .ok (.aload_n 1, 1) := by decide +kernel
theorem dX3_add_21 : decode cX3_add 21 = .ok (.aastore, 1) := by decide +kernel
theorem dX3_add_22 : decode cX3_add 22 = .ok (.aload_n 0, 1) := by decide +kernel
theorem dX3_add_23 : decode cX3_add 23 = .ok (.dup, 1) := by decide +kernel
theorem dX3_add_24 : decode cX3_add 24 = .ok (.getfield 23, 3) := by decide +kernel
theorem dX3_add_27 : decode cX3_add 27 = .ok (.iconst 1, 1) := by decide +kernel
theorem dX3_add_28 : decode cX3_add 28 = .ok (.iadd, 1) := by decide +kernel
theorem dX3_add_29 : decode cX3_add 29 = .ok (.putfield 23, 3) := by decide +kernel
theorem dX3_add_32 : decode cX3_add 32 = .ok (.return_, 1) := by decide +kernel
theorem dX3_at_0 : decode cX3_at 0 = .ok (.iload_n 1, 1) := by decide +kernel
theorem dX3_at_1 : decode cX3_at 1 = .ok (.ifCond .lt 20, 3) := by decide +kernel
theorem dX3_at_4 : decode cX3_at 4 = .ok (.iload_n 1, 1) := by decide +kernel
theorem dX3_at_5 : decode cX3_at 5 = .ok (.aload_n 0, 1) := by decide +kernel
theorem dX3_at_6 : decode cX3_at 6 = .ok (.getfield 23, 3) := by decide +kernel
theorem dX3_at_9 : decode cX3_at 9 = .ok (.if_icmp .ge 12, 3) := by decide +kernel
theorem dX3_at_12 : decode cX3_at 12 = .ok (.aload_n 0, 1) := by decide +kernel
theorem dX3_at_13 : decode cX3_at 13 = .ok (.getfield 17, 3) := by decide +kernel
theorem dX3_at_16 : decode cX3_at 16 = .ok (.iload_n 1, 1) := by decide +kernel
theorem dX3_at_17 : decode cX3_at 17 = .ok (.aaload, 1) := by decide +kernel
theorem dX3_at_18 : decode cX3_at 18 = .ok (.goto 4, 3) := by decide +kernel
theorem dX3_at_21 : decode cX3_at 21 = .ok (.aconst_null, 1) := by decide +kernel
theorem dX3_at_22 : decode cX3_at 22 = .ok (.areturn, 1) := by decide +kernel
theorem dX3_remove_0 : decode cX3_remove 0 = .ok (.iload_n 1, 1) := by decide +kernel
theorem dX3_remove_1 : decode cX3_remove 1 = .ok (.ifCond .lt 11, 3) := by decide +kernel
theorem dX3_remove_4 : decode cX3_remove 4 = .ok (.iload_n 1, 1) := by decide +kernel
theorem dX3_remove_5 : decode cX3_remove 5 = .ok (.aload_n 0, 1) := by decide +kernel
theorem dX3_remove_6 : decode cX3_remove 6 = .ok (.getfield 23, 3) := by decide +kernel
theorem dX3_remove_9 : decode cX3_remove 9 = .ok (.if_icmp .lt 4, 3) := by decide +kernel
theorem dX3_remove_12 : decode cX3_remove 12 = .ok (.return_, 1) := by decide +kernel
theorem dX3_remove_13 : decode cX3_remove 13 = .ok (.iload_n 1, 1) := by decide +kernel
theorem dX3_remove_14 : decode cX3_remove 14 = .ok (.iconst 1, 1) := by decide +kernel
theorem dX3_remove_15 : decode cX3_remove 15 = .ok (.iadd, 1) := by decide +kernel
theorem dX3_remove_16 : decode cX3_remove 16 = .ok (.istore_n 2, 1) := by decide +kernel
theorem dX3_remove_17 : decode cX3_remove 17 = .ok (.iload_n 2, 1) := by decide +kernel
theorem dX3_remove_18 : decode cX3_remove 18 = .ok (.aload_n 0, 1) := by decide +kernel
theorem dX3_remove_19 : decode cX3_remove 19 = .ok (.getfield 23, 3) := by decide +kernel
theorem dX3_remove_22 : decode cX3_remove 22 = .ok (.if_icmp .ge 23, 3) := by decide +kernel
theorem dX3_remove_25 : decode cX3_remove 25 = .ok (.aload_n 0, 1) := by decide +kernel
theorem dX3_remove_26 : decode cX3_remove 26 = .ok (.getfield 17, 3) := by decide +kernel
theorem dX3_remove_29 : decode cX3_remove 29 = .ok (.iload_n 2, 1) := by decide +kernel
theorem dX3_remove_30 : decode cX3_remove 30 = .ok (.iconst 1, 1) := by decide +kernel
theorem dX3_remove_31 : decode cX3_remove 31 = .ok (.isub, 1) := by decide +kernel
theorem dX3_remove_32 : decode cX3_remove 32 = .ok (.aload_n 0, 1) := by decide +kernel
theorem dX3_remove_33 : decode cX3_remove 33 = .ok (.getfield 17, 3) := by decide +kernel
theorem dX3_remove_36 : decode cX3_remove 36 = .ok (.iload_n 2, 1) := by decide +kernel
theorem dX3_remove_37 : decode cX3_remove 37 = .ok (.aaload, 1) := by decide +kernel
theorem dX3_remove_38 : decode cX3_remove 38 = .ok (.aastore, 1) := by decide +kernel
theorem dX3_remove_39 : decode cX3_remove 39 = .ok (.iinc 2 1, 3) := by decide +kernel
theorem dX3_remove_42 : decode cX3_remove 42 = .ok (.goto (-25), 3) := by decide +kernel
theorem dX3_remove_45 : decode cX3_remove 45 = .ok (.aload_n 0, 1) := by decide +kernel
theorem dX3_remove_46 : decode cX3_remove 46 = .ok (.dup, 1) := by decide +kernel
theorem dX3_remove_47 : decode cX3_remove 47 = .ok (.getfield 23, 3) := by decide +kernel
theorem dX3_remove_50 : decode cX3_remove 50 = .ok (.iconst 1, 1) := by decide +kernel
theorem dX3_remove_51 : decode cX3_remove 51 = .ok (.isub, 1) := by decide +kernel
theorem dX3_remove_52 : decode cX3_remove 52 = .ok (.putfield 23, 3) := by decide +kernel
theorem dX3_remove_55 : decode cX3_remove 55 = .ok (.return_, 1) := by decide +kernel
theorem dX3_find_0 : decode cX3_find 0 = .ok (.iconst 0, 1) := by decide +kernel
theorem dX3_find_1 : decode cX3_find 1 = .ok (.istore_n 3, 1) := by decide +kernel
theorem dX3_find_2 : decode cX3_find 2 = .ok (.iload_n 3, 1) := by decide +kernel
theorem dX3_find_3 : decode cX3_find 3 = .ok (.aload_n 0, 1) := by decide +kernel
theorem dX3_find_4 : decode cX3_find 4 = .ok (.getfield 23, 3) := by decide +kernel
theorem dX3_find_7 : decode cX3_find 7 = .ok (.if_icmp .ge 42, 3) := by decide +kernel
theorem dX3_find_10 : decode cX3_find 10 = .ok (.aload_n 0, 1) := by decide +kernel
theorem dX3_find_11 : decode cX3_find 11 = .ok (.getfield 17, 3) := by decide +kernel
theorem dX3_find_14 : decode cX3_find 14 = .ok (.iload_n 3, 1) := by decide +kernel
theorem dX3_find_15 : decode cX3_find 15 = .ok (.aaload, 1) := by decide +kernel
theorem dX3_find_16 : decode cX3_find 16 = .ok (.astore 4, 2) := by decide +kernel
theorem dX3_find_18 : decode cX3_find 18 = .ok (.aload 4, 2) := by decide +kernel
theorem dX3_find_20 : decode cX3_find 20 = .ok (.ifnull 23, 3) := by decide +kernel
theorem dX3_find_23 : decode cX3_find 23 = .ok (.aload 4, 2) := by decide +kernel
theorem dX3_find_25 : decode cX3_find 25 = .ok (.getfield 27, 3) := by decide +kernel
theorem dX3_find_28 : decode cX3_find 28 = .ok (.iload_n 1, 1) := by decide +kernel
theorem dX3_find_29 : decode cX3_find 29 = .ok (.if_icmp .ne 14, 3) := by decide +kernel
theorem dX3_find_32 : decode cX3_find 32 = .ok (.aload 4, 2) := by decide +kernel
theorem dX3_find_34 : decode cX3_find 34 = .ok (.getfield 30, 3) := by decide +kernel
theorem dX3_find_37 : decode cX3_find 37 = .ok (.iload_n 2, 1) := by decide +kernel
theorem dX3_find_38 : decode cX3_find 38 = .ok (.if_icmp .ne 5, 3) := by decide +kernel
theorem dX3_find_41 : decode cX3_find 41 = .ok (.iload_n 3, 1) := by decide +kernel
theorem dX3_find_42 : decode cX3_find 42 = .ok (.ireturn, 1) := by decide +kernel
theorem dX3_find_43 : decode cX3_find 43 = .ok (.iinc 3 1, 3) := by decide +kernel
theorem dX3_find_46 : decode cX3_find 46 = .ok (.goto (-44), 3) := by decide +kernel
theorem dX3_find_49 : decode cX3_find 49 = .ok (.bipush (-9), 2) := by decide +kernel
theorem dX3_find_51 : decode cX3_find 51 = .ok (.ireturn, 1) := by decide +kernel
theorem dX3_clear_0 : decode cX3_clear 0 = .ok (.aload_n 0, 1) := by decide +kernel
theorem dX3_clear_1 : decode cX3_clear 1 = .ok (.iconst 0, 1) := by decide +kernel
theorem dX3_clear_2 : decode cX3_clear 2 = .ok (.putfield 23, 3) := by decide +kernel
theorem dX3_clear_5 : decode cX3_clear 5 = .ok (.return_, 1) := by decide +kernel
set_option maxRecDepth 20000 in
theorem ggX4_init_J7_fill_53178 : GoodIn wsX4_init wsJ7_fill_53178 := goodIn_r _ [15] (by decide +kernel) (by decide +kernel)
set_option maxRecDepth 20000 in
theorem gX4_init_J7_fill_53178 : GoodIn wsX4_init (va_wsS RX4 32 yJ7_fill_53178 wsJ7_fill_53178) := goodIn_app (goodIn_of _ (by decide +kernel)) ggX4_init_J7_fill_53178
theorem dX4_init_0 : decode cX4_init 0 = .ok (.aload_n 0, 1) := by decide +kernel
theorem dX4_init_1 : decode cX4_init 1 = .ok (.invokespecial 3, 3) := by decide +kernel
theorem dX4_init_4 : decode cX4_init 4 = .ok (.aload_n 0, 1) := by decide +kernel
theorem dX4_init_5 : decode cX4_init 5 = .ok (.bipush 6, 2) := by decide +kernel
theorem dX4_init_7 : decode cX4_init 7 = .ok (.newarray .int, 2) := by decide +kernel
theorem dX4_init_9 : decode cX4_init 9 = .ok (.putfield 9, 3) := by decide +kernel
theorem dX4_init_12 : decode cX4_init 12 = .ok (.aload_n 0, 1) := by decide +kernel
theorem dX4_init_13 : decode cX4_init 13 = .ok (.bipush 6, 2) := by decide +kernel
theorem dX4_init_15 : decode cX4_init 15 = .ok (.newarray .int, 2) := by decide +kernel
theorem dX4_init_17 : decode cX4_init 17 = .ok (.putfield 15, 3) := by decide +kernel
theorem dX4_init_20 : decode cX4_init 20 = .ok (.aload_n 0, 1) := by decide +kernel
theorem dX4_init_21 : decode cX4_init 21 = .ok (.bipush 6, 2) := by decide +kernel
theorem dX4_init_23 : decode cX4_init 23 = .ok (.newarray .int, 2) := by decide +kernel
theorem dX4_init_25 : decode cX4_init 25 = .ok (.putfield 18, 3) := by decide +kernel
theorem dX4_init_28 : decode cX4_init 28 = .ok (.aload_n 0, 1) := by decide +kernel
theorem dX4_init_29 : decode cX4_init 29 = .ok (.bipush 6, 2) := by decide +kernel
theorem dX4_init_31 : decode cX4_init 31 = .ok (.newarray .int, 2) := by decide +kernel
theorem dX4_init_33 : decode cX4_init 33 = .ok (.putfield 21, 3) := by decide +kernel
theorem dX4_init_36 : decode cX4_init 36 = .ok (.aload_n 0, 1) := by decide +kernel
theorem dX4_init_37 : decode cX4_init 37 = .ok (.iconst 4, 1) := by decide +kernel
theorem dX4_init_38 : decode cX4_init 38 = .ok (.newarray .boolean, 2) := by decide +kernel
theorem dX4_init_40 : decode cX4_init 40 = .ok (.putfield 24, 3) := by decide +kernel
theorem dX4_init_43 : decode cX4_init 43 = .ok (.aload_n 0, 1) := by decide +kernel
theorem dX4_init_44 : decode cX4_init 44 = .ok (.aload_n 1, 1) := by decide +kernel
theorem dX4_init_45 : decode cX4_init 45 = .ok (.putfield 28, 3) := by decide +kernel
theorem dX4_init_48 : decode cX4_init 48 = .ok (.aload_n 0, 1) := by decide +kernel
theorem dX4_init_49 : decode cX4_init 49 = .ok (.getfield 18, 3) := by decide +kernel
theorem dX4_init_52 : decode cX4_init 52 = .ok (.iconst (-1), 1) := by decide +kernel
theorem dX4_init_53 : decode cX4_init 53 = .ok (.invokestatic 32, 3) := by decide +kernel
theorem dX4_init_56 : decode cX4_init 56 = .ok (.return_, 1) := by decide +kernel
theorem dX4_isOpen_0 : decode cX4_isOpen 0 = .ok (.iload_n 1, 1) := by decide +kernel
theorem dX4_isOpen_1 : decode cX4_isOpen 1 = .ok (.ifCond .lt 21, 3) := by decide +kernel
theorem dX4_isOpen_4 : decode cX4_isOpen 4 = .ok (.iload_n 1, 1) := by decide +kernel
theorem dX4_isOpen_5 : decode cX4_isOpen 5 = .ok (.iconst 4, 1) := by decide +kernel
theorem dX4_isOpen_6 : decode cX4_isOpen 6 = .ok (.if_icmp .ge 16, 3) := by decide +kernel
theorem dX4_isOpen_9 : decode cX4_isOpen 9 = .ok (.aload_n 0, 1) := by decide +kernel
theorem dX4_isOpen_10 : decode cX4_isOpen 10 = .ok (.getfield 24, 3) := by decide +kernel
theorem dX4_isOpen_13 : decode cX4_isOpen 13 = .ok (.iload_n 1, 1) := by decide +kernel
theorem dX4_isOpen_14 : decode cX4_isOpen 14 = .ok (.baload, 1) := by decide +kernel
theorem dX4_isOpen_15 : decode cX4_isOpen 15 = .ok (.ifCond .eq 7, 3) := by decide +kernel
theorem dX4_isOpen_18 : decode cX4_isOpen 18 = .ok (.iconst 1, 1) := by decide +kernel
theorem dX4_isOpen_19 : decode cX4_isOpen 19 = .ok (.goto 4, 3) := by decide +kernel
theorem dX4_isOpen_22 : decode cX4_isOpen 22 = .ok (.iconst 0, 1) := by decide +kernel
theorem dX4_isOpen_23 : decode cX4_isOpen 23 = .ok (.ireturn, 1) := by decide +kernel
theorem dX4_openFirstFree_0 : decode cX4_openFirstFree 0 = .ok (.iconst 0, 1) := by decide +kernel
theorem dX4_openFirstFree_1 : decode cX4_openFirstFree 1 = .ok (.istore_n 1, 1) := by decide +kernel
theorem dX4_openFirstFree_2 : decode cX4_openFirstFree 2 = .ok (.iload_n 1, 1) := by decide +kernel
theorem dX4_openFirstFree_3 : decode cX4_openFirstFree 3 = .ok (.iconst 4, 1) := by decide +kernel
theorem dX4_openFirstFree_4 : decode cX4_openFirstFree 4 = .ok (.if_icmp .ge 27, 3) := by decide +kernel
theorem dX4_openFirstFree_7 : decode cX4_openFirstFree 7 = .ok (.aload_n 0, 1) := by decide +kernel
theorem dX4_openFirstFree_8 : decode cX4_openFirstFree 8 = .ok (.getfield 24, 3) := by decide +kernel
theorem dX4_openFirstFree_11 : decode cX4_openFirstFree 11 = .ok (.iload_n 1, 1) := by decide +kernel
theorem dX4_openFirstFree_12 : decode cX4_openFirstFree 12 = .ok (.baload, 1) := by decide +kernel
theorem dX4_openFirstFree_13 : decode cX4_openFirstFree 13 = .ok (.ifCond .ne 12, 3) := by decide +kernel
theorem dX4_openFirstFree_16 : decode cX4_openFirstFree 16 = .ok (.aload_n 0, 1) := by decide +kernel
theorem dX4_openFirstFree_17 : decode cX4_openFirstFree 17 = .ok (.getfield 24, 3) := by decide +kernel
theorem dX4_openFirstFree_20 : decode cX4_openFirstFree 20 = .ok (.iload_n 1, 1) := by decide +kernel
theorem dX4_openFirstFree_21 : decode cX4_openFirstFree 21 = .ok (.iconst 1, 1) := by decide +kernel
theorem dX4_openFirstFree_22 : decode cX4_openFirstFree 22 = .ok (.bastore, 1) := by decide +kernel
theorem dX4_openFirstFree_23 : decode cX4_openFirstFree 23 = .ok (.iload_n 1, 1) := by decide +kernel
theorem dX4_openFirstFree_24 : decode cX4_openFirstFree 24 = .ok (.ireturn, 1) := by decide +kernel
theorem dX4_openFirstFree_25 : decode cX4_openFirstFree 25 = .ok (.iinc 1 1, 3) := by decide +kernel
theorem dX4_openFirstFree_28 : decode cX4_openFirstFree 28 = .ok (.goto (-26), 3) := by decide +kernel
theorem dX4_openFirstFree_31 : decode cX4_openFirstFree 31 = .ok (.bipush (-3), 2) := by decide +kernel
theorem dX4_openFirstFree_33 : decode cX4_openFirstFree 33 = .ok (.ireturn, 1) := by decide +kernel
theorem dX4_openTransactions_0 : decode cX4_openTransactions 0 = .ok (.iconst 0, 1) := by decide +kernel
theorem dX4_openTransactions_1 : decode cX4_openTransactions 1 = .ok (.istore_n 1, 1) := by decide +kernel
theorem dX4_openTransactions_2 : decode cX4_openTransactions 2 = .ok (.iconst 0, 1) := by decide +kernel
theorem dX4_openTransactions_3 : decode cX4_openTransactions 3 = .ok (.istore_n 2, 1) := by decide +kernel
theorem dX4_openTransactions_4 : decode cX4_openTransactions 4 = .ok (.iload_n 2, 1) := by decide +kernel
theorem dX4_openTransactions_5 : decode cX4_openTransactions 5 = .ok (.iconst 4, 1) := by decide +kernel
theorem dX4_openTransactions_6 : decode cX4_openTransactions 6 = .ok (.if_icmp .ge 21, 3) := by decide +kernel
theorem dX4_openTransactions_9 : decode cX4_openTransactions 9 = .ok (.aload_n 0, 1) := by decide +kernel
theorem dX4_openTransactions_10 : decode cX4_openTransactions 10 = .ok (.getfield 24, 3) := by decide +kernel
theorem dX4_openTransactions_13 : decode cX4_openTransactions 13 = .ok (.iload_n 2, 1) := by decide +kernel
theorem dX4_openTransactions_14 : decode cX4_openTransactions 14 = .ok (.baload, 1) := by decide +kernel
theorem dX4_openTransactions_15 : decode cX4_openTransactions 15 = .ok (.ifCond .eq 6, 3) := by decide +kernel
theorem dX4_openTransactions_18 : decode cX4_openTransactions 18 = .ok (.iinc 1 1, 3) := by decide +kernel
theorem dX4_openTransactions_21 : decode cX4_openTransactions 21 = .ok (.iinc 2 1, 3) := by decide +kernel
theorem dX4_openTransactions_24 : decode cX4_openTransactions 24 = .ok (.goto (-20), 3) := by decide +kernel
theorem dX4_openTransactions_27 : decode cX4_openTransactions 27 = .ok (.iload_n 1, 1) := by decide +kernel
theorem dX4_openTransactions_28 : decode cX4_openTransactions 28 = .ok (.ireturn, 1) := by decide +kernel
theorem dX4_draft_0 : decode cX4_draft 0 = .ok (.aload_n 0, 1) := by decide +kernel
theorem dX4_draft_1 : decode cX4_draft 1 = .ok (.getfield 18, 3) := by decide +kernel
theorem dX4_draft_4 : decode cX4_draft 4 = .ok (.iload_n 2, 1) := by decide +kernel
theorem dX4_draft_5 : decode cX4_draft 5 = .ok (.iaload, 1) := by decide +kernel
theorem dX4_draft_6 : decode cX4_draft 6 = .ok (.iconst (-1), 1) := by decide +kernel
theorem dX4_draft_7 : decode cX4_draft 7 = .ok (.if_icmp .eq 15, 3) := by decide +kernel
theorem dX4_draft_10 : decode cX4_draft 10 = .ok (.aload_n 0, 1) := by decide +kernel
theorem dX4_draft_11 : decode cX4_draft 11 = .ok (.getfield 18, 3) := by decide +kernel
theorem dX4_draft_14 : decode cX4_draft 14 = .ok (.iload_n 2, 1) := by decide +kernel
theorem dX4_draft_15 : decode cX4_draft 15 = .ok (.iaload, 1) := by decide +kernel
theorem dX4_draft_16 : decode cX4_draft 16 = .ok (.iload_n 1, 1) := by decide +kernel
theorem dX4_draft_17 : decode cX4_draft 17 = .ok (.if_icmp .eq 5, 3) := by decide +kernel
theorem dX4_draft_20 : decode cX4_draft 20 = .ok (.iconst 0, 1) := by decide +kernel
theorem dX4_draft_21 : decode cX4_draft 21 = .ok (.ireturn, 1) := by decide +kernel
theorem dX4_draft_22 : decode cX4_draft 22 = .ok (.aload_n 0, 1) := by decide +kernel
theorem dX4_draft_23 : decode cX4_draft 23 = .ok (.getfield 18, 3) := by decide +kernel
theorem dX4_draft_26 : decode cX4_draft 26 = .ok (.iload_n 2, 1) := by decide +kernel
theorem dX4_draft_27 : decode cX4_draft 27 = .ok (.iload_n 1, 1) := by decide +kernel
theorem dX4_draft_28 : decode cX4_draft 28 = .ok (.iastore, 1) := by decide +kernel
theorem dX4_draft_29 : decode cX4_draft 29 = .ok (.aload_n 0, 1) := by decide +kernel
theorem dX4_draft_30 : decode cX4_draft 30 = .ok (.getfield 21, 3) := by decide +kernel
theorem dX4_draft_33 : decode cX4_draft 33 = .ok (.iload_n 2, 1) := by decide +kernel
theorem dX4_draft_34 : decode cX4_draft 34 = .ok (.iload_n 3, 1) := by decide +kernel
theorem dX4_draft_35 : decode cX4_draft 35 = .ok (.iastore, 1) := by decide +kernel
theorem dX4_draft_36 : decode cX4_draft 36 = .ok (.iconst 1, 1) := by decide +kernel
theorem dX4_draft_37 : decode cX4_draft 37 = .ok (.ireturn, 1) := by decide +kernel
theorem dX4_seenBy_0 : decode cX4_seenBy 0 = .ok (.aload_n 0, 1) := by decide +kernel
theorem dX4_seenBy_1 : decode cX4_seenBy 1 = .ok (.getfield 18, 3) := by decide +kernel
theorem dX4_seenBy_4 : decode cX4_seenBy 4 = .ok (.iload_n 2, 1) := by decide +kernel
theorem dX4_seenBy_5 : decode cX4_seenBy 5 = .ok (.iaload, 1) := by decide +kernel
theorem dX4_seenBy_6 : decode cX4_seenBy 6 = .ok (.iload_n 1, 1) := by decide +kernel
theorem dX4_seenBy_7 : decode cX4_seenBy 7 = .ok (.if_icmp .ne 12, 3) := by decide +kernel
theorem dX4_seenBy_10 : decode cX4_seenBy 10 = .ok (.aload_n 0, 1) := by decide +kernel
theorem dX4_seenBy_11 : decode cX4_seenBy 11 = .ok (.getfield 21, 3) := by decide +kernel
theorem dX4_seenBy_14 : decode cX4_seenBy 14 = .ok (.iload_n 2, 1) := by decide +kernel
theorem dX4_seenBy_15 : decode cX4_seenBy 15 = .ok (.iaload, 1) := by decide +kernel
theorem dX4_seenBy_16 : decode cX4_seenBy 16 = .ok (.goto 9, 3) := by decide +kernel
theorem dX4_seenBy_19 : decode cX4_seenBy 19 = .ok (.aload_n 0, 1) := by decide +kernel
theorem dX4_seenBy_20 : decode cX4_seenBy 20 = .ok (.getfield 9, 3) := by decide +kernel
theorem dX4_seenBy_23 : decode cX4_seenBy 23 = .ok (.iload_n 2, 1) := by decide +kernel
theorem dX4_seenBy_24 : decode cX4_seenBy 24 = .ok (.iaload, 1) := by decide +kernel
theorem dX4_seenBy_25 : decode cX4_seenBy 25 = .ok (.ireturn, 1) := by decide +kernel
theorem dX4_lockedKeys_0 : decode cX4_lockedKeys 0 = .ok (.iconst 0, 1) := by decide +kernel
theorem dX4_lockedKeys_1 : decode cX4_lockedKeys 1 = .ok (.istore_n 2, 1) := by decide +kernel
theorem dX4_lockedKeys_2 : decode cX4_lockedKeys 2 = .ok (.iconst 0, 1) := by decide +kernel
theorem dX4_lockedKeys_3 : decode cX4_lockedKeys 3 = .ok (.istore_n 3, 1) := by decide +kernel
theorem dX4_lockedKeys_4 : decode cX4_lockedKeys 4 = .ok (.iload_n 3, 1) := by decide +kernel
theorem dX4_lockedKeys_5 : decode cX4_lockedKeys 5 = .ok (.bipush 6, 2) := by decide +kernel
theorem dX4_lockedKeys_7 : decode cX4_lockedKeys 7 = .ok (.if_icmp .ge 22, 3) := by decide +kernel
theorem dX4_lockedKeys_10 : decode cX4_lockedKeys 10 = .ok (.aload_n 0, 1) := by decide +kernel
theorem dX4_lockedKeys_11 : decode cX4_lockedKeys 11 = .ok (.getfield 18, 3) := by decide +kernel
theorem dX4_lockedKeys_14 : decode cX4_lockedKeys 14 = .ok (.iload_n 3, 1) := by decide +kernel
theorem dX4_lockedKeys_15 : decode cX4_lockedKeys 15 = .ok (.iaload, 1) := by decide +kernel
theorem dX4_lockedKeys_16 : decode cX4_lockedKeys 16 = .ok (.iload_n 1, 1) := by decide +kernel
theorem dX4_lockedKeys_17 : decode cX4_lockedKeys 17 = .ok (.if_icmp .ne 6, 3) := by decide +kernel
theorem dX4_lockedKeys_20 : decode cX4_lockedKeys 20 = .ok (.iinc 2 1, 3) := by decide +kernel
theorem dX4_lockedKeys_23 : decode cX4_lockedKeys 23 = .ok (.iinc 3 1, 3) := by decide +kernel
theorem dX4_lockedKeys_26 : decode cX4_lockedKeys 26 = .ok (.goto (-22), 3) := by decide +kernel
theorem dX4_lockedKeys_29 : decode cX4_lockedKeys 29 = .ok (.iload_n 2, 1) := by decide +kernel
theorem dX4_lockedKeys_30 : decode cX4_lockedKeys 30 = .ok (.ireturn, 1) := by decide +kernel
theorem dX4_lockOf_0 : decode cX4_lockOf 0 = .ok (.aload_n 0, 1) := by decide +kernel
theorem dX4_lockOf_1 : decode cX4_lockOf 1 = .ok (.getfield 18, 3) := by decide +kernel
theorem dX4_lockOf_4 : decode cX4_lockOf 4 = .ok (.iload_n 1, 1) := by decide +kernel
theorem dX4_lockOf_5 : decode cX4_lockOf 5 = .ok (.iaload, 1) := by decide +kernel
theorem dX4_lockOf_6 : decode cX4_lockOf 6 = .ok (.iconst (-1), 1) := by decide +kernel
theorem dX4_lockOf_7 : decode cX4_lockOf 7 = .ok (.if_icmp .ne 5, 3) := by decide +kernel
theorem dX4_lockOf_10 : decode cX4_lockOf 10 = .ok (.iconst 0, 1) := by decide +kernel
theorem dX4_lockOf_11 : decode cX4_lockOf 11 = .ok (.ireturn, 1) := by decide +kernel
theorem dX4_lockOf_12 : decode cX4_lockOf 12 = .ok (.aload_n 0, 1) := by decide +kernel
theorem dX4_lockOf_13 : decode cX4_lockOf 13 = .ok (.getfield 18, 3) := by decide +kernel
theorem dX4_lockOf_16 : decode cX4_lockOf 16 = .ok (.iload_n 1, 1) := by decide +kernel
theorem dX4_lockOf_17 : decode cX4_lockOf 17 = .ok (.iaload, 1) := by decide +kernel
theorem dX4_lockOf_18 : decode cX4_lockOf 18 = .ok (.iconst 4, 1) := by decide +kernel
theorem dX4_lockOf_19 : decode cX4_lockOf 19 = .ok (.if_icmp .ne 7, 3) := by decide +kernel
theorem dX4_lockOf_22 : decode cX4_lockOf 22 = .ok (.iconst 2, 1) := by decide +kernel
theorem dX4_lockOf_23 : decode cX4_lockOf 23 = .ok (.goto 4, 3) := by decide +kernel
theorem dX4_lockOf_26 : decode cX4_lockOf 26 = .ok (.iconst 1, 1) := by decide +kernel
theorem dX4_lockOf_27 : decode cX4_lockOf 27 = .ok (.ireturn, 1) := by decide +kernel
set_option maxRecDepth 20000 in
theorem ggX4_putIntoLog_X1_append : GoodIn wsX4_putIntoLog wsX1_append := goodIn_r _ [9, 10, 11, 12, 13, 14, 15, 16, 17, 18, 19, 20, 21, 22, 23, 24, 25, 38, 39, 40, 41, 42, 43, 44, 45, 46] (by decide +kernel) (by decide +kernel)
set_option maxRecDepth 20000 in
theorem gX4_putIntoLog_X1_append : GoodIn wsX4_putIntoLog (wsV RX4 38 RX1 yX1_append wsX1_append) := goodIn_app (goodIn_of _ (by decide +kernel)) ggX4_putIntoLog_X1_append
set_option maxRecDepth 20000 in
theorem ggX4_putIntoLog_X4_finish : GoodIn wsX4_putIntoLog wsX4_finish := goodIn_r _ [30, 1, 31, 32, 33, 34, 35, 36, 37] (by decide +kernel) (by decide +kernel)
set_option maxRecDepth 20000 in
theorem gX4_putIntoLog_X4_finish : GoodIn wsX4_putIntoLog (wsV RX4 44 RX4 yX4_finish wsX4_finish) := goodIn_app (goodIn_of _ (by decide +kernel)) ggX4_putIntoLog_X4_finish
theorem dX4_putIntoLog_0 : decode cX4_putIntoLog 0 = .ok (.iconst 0, 1) := by decide +kernel
theorem dX4_putIntoLog_1 : decode cX4_putIntoLog 1 = .ok (.istore_n 3, 1) := by decide +kernel
theorem dX4_putIntoLog_2 : decode cX4_putIntoLog 2 = .ok (.iconst 0, 1) := by decide +kernel
theorem dX4_putIntoLog_3 : decode cX4_putIntoLog 3 = .ok (.istore 4, 2) := by decide +kernel
theorem dX4_putIntoLog_5 : decode cX4_putIntoLog 5 = .ok (.iload 4, 2) := by decide +kernel
theorem dX4_putIntoLog_7 : decode cX4_putIntoLog 7 = .ok (.bipush 6, 2) := by decide +kernel
theorem dX4_putIntoLog_9 : decode cX4_putIntoLog 9 = .ok (.if_icmp .ge 58, 3) := by decide +kernel
theorem dX4_putIntoLog_12 : decode cX4_putIntoLog 12 = .ok (.aload_n 0, 1) := by decide +kernel
theorem dX4_putIntoLog_13 : decode cX4_putIntoLog 13 = .ok (.getfield 18, 3) := by decide +kernel
theorem dX4_putIntoLog_16 : decode cX4_putIntoLog 16 = .ok (.iload 4, 2) := by decide +kernel
theorem dX4_putIntoLog_18 : decode cX4_putIntoLog 18 = .ok (.iaload, 1) := by decide +kernel
theorem dX4_putIntoLog_19 : decode cX4_putIntoLog 19 = .ok (.iload_n 1, 1) := by decide +kernel
theorem dX4_putIntoLog_20 : decode cX4_putIntoLog 20 = .ok (.if_icmp .ne 41, 3) := by decide +kernel
theorem dX4_putIntoLog_23 : decode cX4_putIntoLog 23 = .ok (.iinc 3 1, 3) := by decide +kernel
theorem dX4_putIntoLog_26 : decode cX4_putIntoLog 26 = .ok (.aload_n 0, 1) := by decide +kernel
theorem dX4_putIntoLog_27 : decode cX4_putIntoLog 27 = .ok (.getfield 28, 3) := by decide +kernel
theorem dX4_putIntoLog_30 : decode cX4_putIntoLog 30 = .ok (.iload 4, 2) := by decide +kernel
theorem dX4_putIntoLog_32 : decode cX4_putIntoLog 32 = .ok (.aload_n 0, 1) := by decide +kernel
theorem dX4_putIntoLog_33 : decode cX4_putIntoLog 33 = .ok (.getfield 21, 3) := by decide +kernel
theorem dX4_putIntoLog_36 : decode cX4_putIntoLog 36 = .ok (.iload 4, 2) := by decide +kernel
theorem dX4_putIntoLog_38 : decode cX4_putIntoLog 38 = .ok (.iaload, 1) := by decide +kernel
theorem dX4_putIntoLog_39 : decode cX4_putIntoLog 39 = .ok (.aload_n 0, 1) := by decide +kernel
theorem dX4_putIntoLog_40 : decode cX4_putIntoLog 40 = .ok (.getfield 15, 3) := by decide +kernel
theorem dX4_putIntoLog_43 : decode cX4_putIntoLog 43 = .ok (.iload 4, 2) := by decide +kernel
theorem dX4_putIntoLog_45 : decode cX4_putIntoLog 45 = .ok (.iaload, 1) := by decide +kernel
theorem dX4_putIntoLog_46 : decode cX4_putIntoLog 46 = .ok (.iconst 1, 1) := by decide +kernel
theorem dX4_putIntoLog_47 : decode cX4_putIntoLog 47 = .ok (.iadd, 1) := by decide +kernel
theorem dX4_putIntoLog_48 : decode cX4_putIntoLog 48 = .ok (.iload_n 3, 1) := by decide +kernel
theorem dX4_putIntoLog_49 : decode cX4_putIntoLog 49 = .ok (.iload_n 2, 1) := by decide +kernel
theorem dX4_putIntoLog_50 : decode cX4_putIntoLog 50 = .ok (.if_icmp .ne 7, 3) := by decide +kernel
theorem dX4_putIntoLog_53 : decode cX4_putIntoLog 53 = .ok (.iconst 1, 1) := by decide +kernel
theorem dX4_putIntoLog_54 : decode cX4_putIntoLog 54 = .ok (.goto 4, 3) := by decide +kernel
theorem dX4_putIntoLog_57 : decode cX4_putIntoLog 57 = .ok (.iconst 0, 1) := by decide +kernel
theorem dX4_putIntoLog_58 : decode cX4_putIntoLog 58 = .ok (.invokevirtual 38, 3) := by decide +kernel
theorem dX4_putIntoLog_61 : decode cX4_putIntoLog 61 = .ok (.iinc 4 1, 3) := by decide +kernel
theorem dX4_putIntoLog_64 : decode cX4_putIntoLog 64 = .ok (.goto (-59), 3) := by decide +kernel
theorem dX4_putIntoLog_67 : decode cX4_putIntoLog 67 = .ok (.aload_n 0, 1) := by decide +kernel
theorem dX4_putIntoLog_68 : decode cX4_putIntoLog 68 = .ok (.iload_n 1, 1) := by decide +kernel
theorem dX4_putIntoLog_69 : decode cX4_putIntoLog 69 = .ok (.iconst 4, 1) := by decide +kernel
theorem dX4_putIntoLog_70 : decode cX4_putIntoLog 70 = .ok (.invokevirtual 44, 3) := by decide +kernel
theorem dX4_putIntoLog_73 : decode cX4_putIntoLog 73 = .ok (.return_, 1) := by decide +kernel
set_option maxRecDepth 20000 in
theorem ggX4_giveUp_X4_finish : GoodIn wsX4_giveUp wsX4_finish := goodIn_r _ [5, 6, 7, 8, 9, 10, 11, 12, 13] (by decide +kernel) (by decide +kernel)
set_option maxRecDepth 20000 in
theorem gX4_giveUp_X4_finish : GoodIn wsX4_giveUp (wsV RX4 44 RX4 yX4_finish wsX4_finish) := goodIn_app (goodIn_of _ (by decide +kernel)) ggX4_giveUp_X4_finish
theorem dX4_giveUp_0 : decode cX4_giveUp 0 = .ok (.aload_n 0, 1) := by decide +kernel
theorem dX4_giveUp_1 : decode cX4_giveUp 1 = .ok (.iload_n 1, 1) := by decide +kernel
theorem dX4_giveUp_2 : decode cX4_giveUp 2 = .ok (.iconst (-1), 1) := by decide +kernel
theorem dX4_giveUp_3 : decode cX4_giveUp 3 = .ok (.invokevirtual 44, 3) := by decide +kernel
theorem dX4_giveUp_6 : decode cX4_giveUp 6 = .ok (.return_, 1) := by decide +kernel
theorem dX4_finish_0 : decode cX4_finish 0 = .ok (.iconst 0, 1) := by decide +kernel
theorem dX4_finish_1 : decode cX4_finish 1 = .ok (.istore_n 3, 1) := by decide +kernel
theorem dX4_finish_2 : decode cX4_finish 2 = .ok (.iload_n 3, 1) := by decide +kernel
theorem dX4_finish_3 : decode cX4_finish 3 = .ok (.bipush 6, 2) := by decide +kernel
theorem dX4_finish_5 : decode cX4_finish 5 = .ok (.if_icmp .ge 26, 3) := by decide +kernel
theorem dX4_finish_8 : decode cX4_finish 8 = .ok (.aload_n 0, 1) := by decide +kernel
theorem dX4_finish_9 : decode cX4_finish 9 = .ok (.getfield 18, 3) := by decide +kernel
theorem dX4_finish_12 : decode cX4_finish 12 = .ok (.iload_n 3, 1) := by decide +kernel
theorem dX4_finish_13 : decode cX4_finish 13 = .ok (.iaload, 1) := by decide +kernel
theorem dX4_finish_14 : decode cX4_finish 14 = .ok (.iload_n 1, 1) := by decide +kernel
theorem dX4_finish_15 : decode cX4_finish 15 = .ok (.if_icmp .ne 10, 3) := by decide +kernel
theorem dX4_finish_18 : decode cX4_finish 18 = .ok (.aload_n 0, 1) := by decide +kernel
theorem dX4_finish_19 : decode cX4_finish 19 = .ok (.getfield 18, 3) := by decide +kernel
theorem dX4_finish_22 : decode cX4_finish 22 = .ok (.iload_n 3, 1) := by decide +kernel
theorem dX4_finish_23 : decode cX4_finish 23 = .ok (.iload_n 2, 1) := by decide +kernel
theorem dX4_finish_24 : decode cX4_finish 24 = .ok (.iastore, 1) := by decide +kernel
theorem dX4_finish_25 : decode cX4_finish 25 = .ok (.iinc 3 1, 3) := by decide +kernel
theorem dX4_finish_28 : decode cX4_finish 28 = .ok (.goto (-26), 3) := by decide +kernel
theorem dX4_finish_31 : decode cX4_finish 31 = .ok (.aload_n 0, 1) := by decide +kernel
theorem dX4_finish_32 : decode cX4_finish 32 = .ok (.getfield 24, 3) := by decide +kernel
theorem dX4_finish_35 : decode cX4_finish 35 = .ok (.iload_n 1, 1) := by decide +kernel
theorem dX4_finish_36 : decode cX4_finish 36 = .ok (.iconst 0, 1) := by decide +kernel
theorem dX4_finish_37 : decode cX4_finish 37 = .ok (.bastore, 1) := by decide +kernel
theorem dX4_finish_38 : decode cX4_finish 38 = .ok (.return_, 1) := by decide +kernel
set_option maxRecDepth 20000 in
theorem ggX4_flushChanges_X1_at : GoodIn wsX4_flushChanges wsX1_at := goodIn_r _ [12, 13, 14, 21, 22, 23, 24] (by decide +kernel) (by decide +kernel)
set_option maxRecDepth 20000 in
theorem gX4_flushChanges_X1_at : GoodIn wsX4_flushChanges (wsV RX4 52 RX1 yX1_at wsX1_at) := goodIn_app (goodIn_of _ (by decide +kernel)) ggX4_flushChanges_X1_at
theorem dX4_flushChanges_0 : decode cX4_flushChanges 0 = .ok (.aload_n 0, 1) := by decide +kernel
theorem dX4_flushChanges_1 : decode cX4_flushChanges 1 = .ok (.getfield 28, 3) := by decide +kernel
theorem dX4_flushChanges_4 : decode cX4_flushChanges 4 = .ok (.getfield 48, 3) := by decide +kernel
theorem dX4_flushChanges_7 : decode cX4_flushChanges 7 = .ok (.istore_n 1, 1) := by decide +kernel
theorem dX4_flushChanges_8 : decode cX4_flushChanges 8 = .ok (.iload_n 1, 1) := by decide +kernel
theorem dX4_flushChanges_9 : decode cX4_flushChanges 9 = .ok (.istore_n 2, 1) := by decide +kernel
theorem dX4_flushChanges_10 : decode cX4_flushChanges 10 = .ok (.iload_n 2, 1) := by decide +kernel
theorem dX4_flushChanges_11 : decode cX4_flushChanges 11 = .ok (.sipush 400, 3) := by decide +kernel
theorem dX4_flushChanges_14 : decode cX4_flushChanges 14 = .ok (.if_icmp .ge 61, 3) := by decide +kernel
theorem dX4_flushChanges_17 : decode cX4_flushChanges 17 = .ok (.aload_n 0, 1) := by decide +kernel
theorem dX4_flushChanges_18 : decode cX4_flushChanges 18 = .ok (.getfield 28, 3) := by decide +kernel
theorem dX4_flushChanges_21 : decode cX4_flushChanges 21 = .ok (.iload_n 2, 1) := by decide +kernel
theorem dX4_flushChanges_22 : decode cX4_flushChanges 22 = .ok (.invokevirtual 52, 3) := by decide +kernel
theorem dX4_flushChanges_25 : decode cX4_flushChanges 25 = .ok (.astore_n 3, 1) := by decide +kernel
theorem dX4_flushChanges_26 : decode cX4_flushChanges 26 = .ok (.aload_n 3, 1) := by decide +kernel
theorem dX4_flushChanges_27 : decode cX4_flushChanges 27 = .ok (.ifnonnull 6, 3) := by decide +kernel
theorem dX4_flushChanges_30 : decode cX4_flushChanges 30 = .ok (.goto 45, 3) := by decide +kernel
theorem dX4_flushChanges_33 : decode cX4_flushChanges 33 = .ok (.aload_n 0, 1) := by decide +kernel
theorem dX4_flushChanges_34 : decode cX4_flushChanges 34 = .ok (.getfield 9, 3) := by decide +kernel
theorem dX4_flushChanges_37 : decode cX4_flushChanges 37 = .ok (.aload_n 3, 1) := by decide +kernel
theorem dX4_flushChanges_38 : decode cX4_flushChanges 38 = .ok (.getfield 56, 3) := by decide +kernel
theorem dX4_flushChanges_41 : decode cX4_flushChanges 41 = .ok (.aload_n 3, 1) := by decide +kernel
theorem dX4_flushChanges_42 : decode cX4_flushChanges 42 = .ok (.getfield 61, 3) := by decide +kernel
theorem dX4_flushChanges_45 : decode cX4_flushChanges 45 = .ok (.iastore, 1) := by decide +kernel
theorem dX4_flushChanges_46 : decode cX4_flushChanges 46 = .ok (.aload_n 0, 1) := by decide +kernel
theorem dX4_flushChanges_47 : decode cX4_flushChanges 47 = .ok (.getfield 15, 3) := by decide +kernel
theorem dX4_flushChanges_50 : decode cX4_flushChanges 50 = .ok (.aload_n 3, 1) := by decide +kernel
theorem dX4_flushChanges_51 : decode cX4_flushChanges 51 = .ok (.getfield 56, 3) := by decide +kernel
theorem dX4_flushChanges_54 : decode cX4_flushChanges 54 = .ok (.aload_n 3, 1) := by decide +kernel
theorem dX4_flushChanges_55 : decode cX4_flushChanges 55 = .ok (.getfield 64, 3) := by decide +kernel
theorem dX4_flushChanges_58 : decode cX4_flushChanges 58 = .ok (.iastore, 1) := by decide +kernel
theorem dX4_flushChanges_59 : decode cX4_flushChanges 59 = .ok (.aload_n 0, 1) := by decide +kernel
theorem dX4_flushChanges_60 : decode cX4_flushChanges 60 = .ok (.getfield 18, 3) := by decide +kernel
theorem dX4_flushChanges_63 : decode cX4_flushChanges 63 = .ok (.aload_n 3, 1) := by decide +kernel
theorem dX4_flushChanges_64 : decode cX4_flushChanges 64 = .ok (.getfield 56, 3) := by decide +kernel
theorem dX4_flushChanges_67 : decode cX4_flushChanges 67 = .ok (.iconst (-1), 1) := by decide +kernel
theorem dX4_flushChanges_68 : decode cX4_flushChanges 68 = .ok (.iastore, 1) := by decide +kernel
theorem dX4_flushChanges_69 : decode cX4_flushChanges 69 = .ok (.iinc 2 1, 3) := by decide +kernel
theorem dX4_flushChanges_72 : decode cX4_flushChanges 72 = .ok (.goto (-62), 3) := by decide +kernel
theorem dX4_flushChanges_75 : decode cX4_flushChanges 75 = .ok (.aload_n 0, 1) := by decide +kernel
theorem dX4_flushChanges_76 : decode cX4_flushChanges 76 = .ok (.getfield 28, 3) := by decide +kernel
theorem dX4_flushChanges_79 : decode cX4_flushChanges 79 = .ok (.aload_n 0, 1) := by decide +kernel
theorem dX4_flushChanges_80 : decode cX4_flushChanges 80 = .ok (.getfield 28, 3) := by decide +kernel
theorem dX4_flushChanges_83 : decode cX4_flushChanges 83 = .ok (.getfield 67, 3) := by decide +kernel
theorem dX4_flushChanges_86 : decode cX4_flushChanges 86 = .ok (.putfield 48, 3) := by decide +kernel
theorem dX4_flushChanges_89 : decode cX4_flushChanges 89 = .ok (.aload_n 0, 1) := by decide +kernel
theorem dX4_flushChanges_90 : decode cX4_flushChanges 90 = .ok (.getfield 28, 3) := by decide +kernel
theorem dX4_flushChanges_93 : decode cX4_flushChanges 93 = .ok (.getfield 48, 3) := by decide +kernel
theorem dX4_flushChanges_96 : decode cX4_flushChanges 96 = .ok (.iload_n 1, 1) := by decide +kernel
theorem dX4_flushChanges_97 : decode cX4_flushChanges 97 = .ok (.isub, 1) := by decide +kernel
theorem dX4_flushChanges_98 : decode cX4_flushChanges 98 = .ok (.ireturn, 1) := by decide +kernel
set_option maxRecDepth 20000 in
theorem ggX4_restart_J7_fill_53178 : GoodIn wsX4_restart wsJ7_fill_53178 := goodIn_r _ [7] (by decide +kernel) (by decide +kernel)
set_option maxRecDepth 20000 in
theorem gX4_restart_J7_fill_53178 : GoodIn wsX4_restart (va_wsS RX4 32 yJ7_fill_53178 wsJ7_fill_53178) := goodIn_app (goodIn_of _ (by decide +kernel)) ggX4_restart_J7_fill_53178
set_option maxRecDepth 20000 in
theorem ggX4_restart_X1_dropUnflushed : GoodIn wsX4_restart wsX1_dropUnflushed := goodIn_r _ [12, 13, 14, 21, 22, 23, 24] (by decide +kernel) (by decide +kernel)
set_option maxRecDepth 20000 in
theorem gX4_restart_X1_dropUnflushed : GoodIn wsX4_restart (wsV RX4 70 RX1 yX1_dropUnflushed wsX1_dropUnflushed) := goodIn_app (goodIn_of _ (by decide +kernel)) ggX4_restart_X1_dropUnflushed
theorem dX4_restart_0 : decode cX4_restart 0 = .ok (.iconst 0, 1) := by decide +kernel
theorem dX4_restart_1 : decode cX4_restart 1 = .ok (.istore_n 1, 1) := by decide +kernel
theorem dX4_restart_2 : decode cX4_restart 2 = .ok (.iload_n 1, 1) := by decide +kernel
theorem dX4_restart_3 : decode cX4_restart 3 = .ok (.iconst 4, 1) := by decide +kernel
theorem dX4_restart_4 : decode cX4_restart 4 = .ok (.if_icmp .ge 16, 3) := by decide +kernel
theorem dX4_restart_7 : decode cX4_restart 7 = .ok (.aload_n 0, 1) := by decide +kernel
theorem dX4_restart_8 : decode cX4_restart 8 = .ok (.getfield 24, 3) := by decide +kernel
theorem dX4_restart_11 : decode cX4_restart 11 = .ok (.iload_n 1, 1) := by decide +kernel
theorem dX4_restart_12 : decode cX4_restart 12 = .ok (.iconst 0, 1) := by decide +kernel
theorem dX4_restart_13 : decode cX4_restart 13 = .ok (.bastore, 1) := by decide +kernel
theorem dX4_restart_14 : decode cX4_restart 14 = .ok (.iinc 1 1, 3) := by decide +kernel
theorem dX4_restart_17 : decode cX4_restart 17 = .ok (.goto (-15), 3) := by decide +kernel
theorem dX4_restart_20 : decode cX4_restart 20 = .ok (.aload_n 0, 1) := by decide +kernel
theorem dX4_restart_21 : decode cX4_restart 21 = .ok (.getfield 18, 3) := by decide +kernel
theorem dX4_restart_24 : decode cX4_restart 24 = .ok (.iconst (-1), 1) := by decide +kernel
theorem dX4_restart_25 : decode cX4_restart 25 = .ok (.invokestatic 32, 3) := by decide +kernel
theorem dX4_restart_28 : decode cX4_restart 28 = .ok (.aload_n 0, 1) := by decide +kernel
theorem dX4_restart_29 : decode cX4_restart 29 = .ok (.getfield 28, 3) := by decide +kernel
theorem dX4_restart_32 : decode cX4_restart 32 = .ok (.invokevirtual 70, 3) := by decide +kernel
theorem dX4_restart_35 : decode cX4_restart 35 = .ok (.ireturn, 1) := by decide +kernel
set_option maxRecDepth 20000 in
theorem ggX5_init_X6_init : GoodIn wsX5_init wsX6_init := goodIn_r _ [15, 16, 2, 3, 17, 18, 19, 30, 31, 32] (by decide +kernel) (by decide +kernel)
set_option maxRecDepth 20000 in
theorem gX5_init_X6_init_n11 : GoodIn wsX5_init (wsX6_init) := ggX5_init_X6_init
set_option maxRecDepth 20000 in
theorem ggX5_init_X3_init : GoodIn wsX5_init wsX3_init := goodIn_r _ [22, 23, 2, 3, 24, 25, 26, 27, 28, 29, 40, 41] (by decide +kernel) (by decide +kernel)
set_option maxRecDepth 20000 in
theorem gX5_init_X3_init : GoodIn wsX5_init (wsX3_init) := ggX5_init_X3_init
theorem dX5_init_0 : decode cX5_init 0 = .ok (.aload_n 0, 1) := by decide +kernel
theorem dX5_init_1 : decode cX5_init 1 = .ok (.invokespecial 3, 3) := by decide +kernel
theorem dX5_init_4 : decode cX5_init 4 = .ok (.aload_n 0, 1) := by decide +kernel
theorem dX5_init_5 : decode cX5_init 5 = .ok (.new 9, 3) := by decide +kernel
theorem dX5_init_8 : decode cX5_init 8 = .ok (.dup, 1) := by decide +kernel
theorem dX5_init_9 : decode cX5_init 9 = .ok (.invokespecial 11, 3) := by decide +kernel
theorem dX5_init_12 : decode cX5_init 12 = .ok (.putfield 12, 3) := by decide +kernel
theorem dX5_init_15 : decode cX5_init 15 = .ok (.aload_n 0, 1) := by decide +kernel
theorem dX5_init_16 : decode cX5_init 16 = .ok (.new 9, 3) := by decide +kernel
theorem dX5_init_19 : decode cX5_init 19 = .ok (.dup, 1) := by decide +kernel
theorem dX5_init_20 : decode cX5_init 20 = .ok (.invokespecial 11, 3) := by decide +kernel
theorem dX5_init_23 : decode cX5_init 23 = .ok (.putfield 18, 3) := by decide +kernel
theorem dX5_init_26 : decode cX5_init 26 = .ok (.aload_n 0, 1) := by decide +kernel
theorem dX5_init_27 : decode cX5_init 27 = .ok (.new 21, 3) := by decide +kernel
theorem dX5_init_30 : decode cX5_init 30 = .ok (.dup, 1) := by decide +kernel
theorem dX5_init_31 : decode cX5_init 31 = .ok (.bipush 8, 2) := by decide +kernel
theorem dX5_init_33 : decode cX5_init 33 = .ok (.invokespecial 23, 3) := by decide +kernel
theorem dX5_init_36 : decode cX5_init 36 = .ok (.putfield 26, 3) := by decide +kernel
theorem dX5_init_39 : decode cX5_init 39 = .ok (.aload_n 0, 1) := by decide +kernel
theorem dX5_init_40 : decode cX5_init 40 = .ok (.aload_n 1, 1) := by decide +kernel
theorem dX5_init_41 : decode cX5_init 41 = .ok (.putfield 30, 3) := by decide +kernel
theorem dX5_init_44 : decode cX5_init 44 = .ok (.return_, 1) := by decide +kernel
set_option maxRecDepth 20000 in
theorem ggX5_take_X6_has : GoodIn wsX5_take wsX6_has := goodIn_r _ [11, 12, 13, 14, 73, 74, 75, 76, 77, 78, 79, 80] (by decide +kernel) (by decide +kernel)
set_option maxRecDepth 20000 in
theorem gX5_take_X6_has : GoodIn wsX5_take (wsV RX5 34 RX6 yX6_has wsX6_has) := goodIn_app (goodIn_of _ (by decide +kernel)) ggX5_take_X6_has
set_option maxRecDepth 20000 in
theorem ggX5_take_X3_find : GoodIn wsX5_take wsX3_find := goodIn_r _ [19, 20, 21, 22, 23, 81, 82, 73, 74, 75, 76, 77] (by decide +kernel) (by decide +kernel)
set_option maxRecDepth 20000 in
theorem gX5_take_X3_find : GoodIn wsX5_take (wsV RX5 47 RX3 yX3_find wsX3_find) := goodIn_app (goodIn_of _ (by decide +kernel)) ggX5_take_X3_find
set_option maxRecDepth 20000 in
theorem ggX5_take_X5_doNow : GoodIn wsX5_take wsX5_doNow := goodIn_r _ [28, 1, 29, 30, 31, 32, 33, 10, 34, 35, 14, 36, 13, 12, 37, 38, 39, 40, 41, 42, 43, 44, 45, 8, 9, 11, 66, 67, 68, 69, 70, 71, 72, 78, 79, 80, 73, 74, 75, 76, 77, 83, 84, 85, 86] (by decide +kernel) (by decide +kernel)
set_option maxRecDepth 20000 in
theorem gX5_take_X5_doNow : GoodIn wsX5_take (wsV RX5 58 RX5 yX5_doNow wsX5_doNow) := goodIn_app (goodIn_of _ (by decide +kernel)) ggX5_take_X5_doNow
set_option maxRecDepth 20000 in
theorem ggX5_take_X5_doHeldThatFollow : GoodIn wsX5_take wsX5_doHeldThatFollow := goodIn_r _ [49, 2, 1, 15, 16, 17, 18, 19, 20, 21, 22, 23, 50, 51, 52, 53, 54, 55, 56, 57, 24, 25, 26, 27, 28, 29, 30, 31, 32, 33, 10, 34, 35, 14, 36, 13, 12, 37, 38, 39, 40, 41, 42, 43, 44, 45, 8, 9, 11, 66, 67, 68, 69, 70, 71, 72, 78, 79, 80, 81, 82, 73, 74, 75, 76, 77, 83, 84, 85, 86] (by decide +kernel) (by decide +kernel)
set_option maxRecDepth 20000 in
theorem gX5_take_X5_doHeldThatFollow : GoodIn wsX5_take (wsV RX5 62 RX5 yX5_doHeldThatFollow wsX5_doHeldThatFollow) := goodIn_app (goodIn_of _ (by decide +kernel)) ggX5_take_X5_doHeldThatFollow
set_option maxRecDepth 20000 in
theorem ggX5_take_X3_isFull : GoodIn wsX5_take wsX3_isFull := goodIn_r _ [61, 20, 21, 81, 82] (by decide +kernel) (by decide +kernel)
set_option maxRecDepth 20000 in
theorem gX5_take_X3_isFull : GoodIn wsX5_take (wsV RX5 65 RX3 yX3_isFull wsX3_isFull) := goodIn_app (goodIn_of _ (by decide +kernel)) ggX5_take_X3_isFull
set_option maxRecDepth 20000 in
theorem ggX5_take_X3_add : GoodIn wsX5_take wsX3_add := goodIn_r _ [65, 20, 21, 81, 82] (by decide +kernel) (by decide +kernel)
set_option maxRecDepth 20000 in
theorem gX5_take_X3_add : GoodIn wsX5_take (wsV RX5 72 RX3 yX3_add wsX3_add) := goodIn_app (goodIn_of _ (by decide +kernel)) ggX5_take_X3_add
theorem dX5_take_0 : decode cX5_take 0 = .ok (.aload_n 0, 1) := by decide +kernel
theorem dX5_take_1 : decode cX5_take 1 = .ok (.getfield 12, 3) := by decide +kernel
theorem dX5_take_4 : decode cX5_take 4 = .ok (.aload_n 1, 1) := by decide +kernel
theorem dX5_take_5 : decode cX5_take 5 = .ok (.invokevirtual 34, 3) := by decide +kernel
theorem dX5_take_8 : decode cX5_take 8 = .ok (.ifCond .ne 23, 3) := by decide +kernel
theorem dX5_take_11 : decode cX5_take 11 = .ok (.aload_n 0, 1) := by decide +kernel
theorem dX5_take_12 : decode cX5_take 12 = .ok (.getfield 26, 3) := by decide +kernel
theorem dX5_take_15 : decode cX5_take 15 = .ok (.aload_n 1, 1) := by decide +kernel
theorem dX5_take_16 : decode cX5_take 16 = .ok (.getfield 38, 3) := by decide +kernel
theorem dX5_take_19 : decode cX5_take 19 = .ok (.aload_n 1, 1) := by decide +kernel
theorem dX5_take_20 : decode cX5_take 20 = .ok (.getfield 44, 3) := by decide +kernel
theorem dX5_take_23 : decode cX5_take 23 = .ok (.invokevirtual 47, 3) := by decide +kernel
theorem dX5_take_26 : decode cX5_take 26 = .ok (.bipush (-9), 2) := by decide +kernel
theorem dX5_take_28 : decode cX5_take 28 = .ok (.if_icmp .eq 15, 3) := by decide +kernel
theorem dX5_take_31 : decode cX5_take 31 = .ok (.aload_n 0, 1) := by decide +kernel
theorem dX5_take_32 : decode cX5_take 32 = .ok (.dup, 1) := by decide +kernel
theorem dX5_take_33 : decode cX5_take 33 = .ok (.getfield 51, 3) := by decide +kernel
theorem dX5_take_36 : decode cX5_take 36 = .ok (.iconst 1, 1) := by decide +kernel
theorem dX5_take_37 : decode cX5_take 37 = .ok (.iadd, 1) := by decide +kernel
theorem dX5_take_38 : decode cX5_take 38 = .ok (.putfield 51, 3) := by decide +kernel
theorem dX5_take_41 : decode cX5_take 41 = .ok (.iconst 2, 1) := by decide +kernel
theorem dX5_take_42 : decode cX5_take 42 = .ok (.ireturn, 1) := by decide +kernel
theorem dX5_take_43 : decode cX5_take 43 = .ok (.aload_n 1, 1) := by decide +kernel
theorem dX5_take_44 : decode cX5_take 44 = .ok (.getfield 44, 3) := by decide +kernel
theorem dX5_take_47 : decode cX5_take 47 = .ok (.aload_n 0, 1) := by decide +kernel
theorem dX5_take_48 : decode cX5_take 48 = .ok (.getfield 12, 3) := by decide +kernel
theorem dX5_take_51 : decode cX5_take 51 = .ok (.getfield 54, 3) := by decide +kernel
theorem dX5_take_54 : decode cX5_take 54 = .ok (.aload_n 1, 1) := by decide +kernel
theorem dX5_take_55 : decode cX5_take 55 = .ok (.getfield 38, 3) := by decide +kernel
theorem dX5_take_58 : decode cX5_take 58 = .ok (.iaload, 1) := by decide +kernel
theorem dX5_take_59 : decode cX5_take 59 = .ok (.iconst 1, 1) := by decide +kernel
theorem dX5_take_60 : decode cX5_take 60 = .ok (.iadd, 1) := by decide +kernel
theorem dX5_take_61 : decode cX5_take 61 = .ok (.if_icmp .ne 18, 3) := by decide +kernel
theorem dX5_take_64 : decode cX5_take 64 = .ok (.aload_n 0, 1) := by decide +kernel
theorem dX5_take_65 : decode cX5_take 65 = .ok (.aload_n 1, 1) := by decide +kernel
theorem dX5_take_66 : decode cX5_take 66 = .ok (.invokevirtual 58, 3) := by decide +kernel
theorem dX5_take_69 : decode cX5_take 69 = .ok (.aload_n 0, 1) := by decide +kernel
theorem dX5_take_70 : decode cX5_take 70 = .ok (.aload_n 1, 1) := by decide +kernel
theorem dX5_take_71 : decode cX5_take 71 = .ok (.getfield 38, 3) := by decide +kernel
theorem dX5_take_74 : decode cX5_take 74 = .ok (.invokevirtual 62, 3) := by decide +kernel
theorem dX5_take_77 : decode cX5_take 77 = .ok (.iconst 1, 1) := by decide +kernel
theorem dX5_take_78 : decode cX5_take 78 = .ok (.ireturn, 1) := by decide +kernel
theorem dX5_take_79 : decode cX5_take 79 = .ok (.aload_n 0, 1) := by decide +kernel
theorem dX5_take_80 : decode cX5_take 80 = .ok (.getfield 26, 3) := by decide +kernel
theorem dX5_take_83 : decode cX5_take 83 = .ok (.invokevirtual 65, 3) := by decide +kernel
theorem dX5_take_86 : decode cX5_take 86 = .ok (.ifCond .eq 15, 3) := by decide +kernel
theorem dX5_take_89 : decode cX5_take 89 = .ok (.aload_n 0, 1) := by decide +kernel
theorem dX5_take_90 : decode cX5_take 90 = .ok (.dup, 1) := by decide +kernel
theorem dX5_take_91 : decode cX5_take 91 = .ok (.getfield 69, 3) := by decide +kernel
theorem dX5_take_94 : decode cX5_take 94 = .ok (.iconst 1, 1) := by decide +kernel
theorem dX5_take_95 : decode cX5_take 95 = .ok (.iadd, 1) := by decide +kernel
theorem dX5_take_96 : decode cX5_take 96 = .ok (.putfield 69, 3) := by decide +kernel
theorem dX5_take_99 : decode cX5_take 99 = .ok (.iconst 4, 1) := by decide +kernel
theorem dX5_take_100 : decode cX5_take 100 = .ok (.ireturn, 1) := by decide +kernel
theorem dX5_take_101 : decode cX5_take 101 = .ok (.aload_n 0, 1) := by decide +kernel
theorem dX5_take_102 : decode cX5_take 102 = .ok (.getfield 26, 3) := by decide +kernel
theorem dX5_take_105 : decode cX5_take 105 = .ok (.aload_n 1, 1) := by decide +kernel
theorem dX5_take_106 : decode cX5_take 106 = .ok (.invokevirtual 72, 3) := by decide +kernel
theorem dX5_take_109 : decode cX5_take 109 = .ok (.iconst 3, 1) := by decide +kernel
theorem dX5_take_110 : decode cX5_take 110 = .ok (.ireturn, 1) := by decide +kernel
set_option maxRecDepth 20000 in
theorem ggX5_doNow_X6_apply : GoodIn wsX5_doNow wsX6_apply := goodIn_r _ [8, 9, 10, 11, 12, 13, 14, 15, 16, 17, 18, 19, 20, 21, 22, 23, 24, 7, 25, 33, 34, 35, 36, 37, 38, 39, 40, 41, 42, 43, 44] (by decide +kernel) (by decide +kernel)
set_option maxRecDepth 20000 in
theorem gX5_doNow_X6_apply : GoodIn wsX5_doNow (wsV RX5 75 RX6 yX6_apply wsX6_apply) := goodIn_app (goodIn_of _ (by decide +kernel)) ggX5_doNow_X6_apply
theorem dX5_doNow_0 : decode cX5_doNow 0 = .ok (.aload_n 0, 1) := by decide +kernel
theorem dX5_doNow_1 : decode cX5_doNow 1 = .ok (.getfield 12, 3) := by decide +kernel
theorem dX5_doNow_4 : decode cX5_doNow 4 = .ok (.aload_n 1, 1) := by decide +kernel
theorem dX5_doNow_5 : decode cX5_doNow 5 = .ok (.aload_n 0, 1) := by decide +kernel
theorem dX5_doNow_6 : decode cX5_doNow 6 = .ok (.getfield 30, 3) := by decide +kernel
theorem dX5_doNow_9 : decode cX5_doNow 9 = .ok (.invokevirtual 75, 3) := by decide +kernel
theorem dX5_doNow_12 : decode cX5_doNow 12 = .ok (.aload_n 0, 1) := by decide +kernel
theorem dX5_doNow_13 : decode cX5_doNow 13 = .ok (.dup, 1) := by decide +kernel
theorem dX5_doNow_14 : decode cX5_doNow 14 = .ok (.getfield 79, 3) := by decide +kernel
theorem dX5_doNow_17 : decode cX5_doNow 17 = .ok (.iconst 1, 1) := by decide +kernel
theorem dX5_doNow_18 : decode cX5_doNow 18 = .ok (.iadd, 1) := by decide +kernel
theorem dX5_doNow_19 : decode cX5_doNow 19 = .ok (.putfield 79, 3) := by decide +kernel
theorem dX5_doNow_22 : decode cX5_doNow 22 = .ok (.return_, 1) := by decide +kernel
set_option maxRecDepth 20000 in
theorem ggX5_doHeldThatFollow_X3_find : GoodIn wsX5_doHeldThatFollow wsX3_find := goodIn_r _ [7, 8, 9, 10, 11, 59, 60, 61, 62, 63, 64, 65] (by decide +kernel) (by decide +kernel)
set_option maxRecDepth 20000 in
theorem gX5_doHeldThatFollow_X3_find : GoodIn wsX5_doHeldThatFollow (wsV RX5 47 RX3 yX3_find wsX3_find) := goodIn_app (goodIn_of _ (by decide +kernel)) ggX5_doHeldThatFollow_X3_find
set_option maxRecDepth 20000 in
theorem ggX5_doHeldThatFollow_X3_at : GoodIn wsX5_doHeldThatFollow wsX3_at := goodIn_r _ [15, 8, 9, 59, 60] (by decide +kernel) (by decide +kernel)
set_option maxRecDepth 20000 in
theorem gX5_doHeldThatFollow_X3_at : GoodIn wsX5_doHeldThatFollow (wsV RX5 82 RX3 yX3_at wsX3_at) := goodIn_app (goodIn_of _ (by decide +kernel)) ggX5_doHeldThatFollow_X3_at
set_option maxRecDepth 20000 in
theorem ggX5_doHeldThatFollow_X3_remove : GoodIn wsX5_doHeldThatFollow wsX3_remove := goodIn_r _ [19, 8, 9, 59, 60] (by decide +kernel) (by decide +kernel)
set_option maxRecDepth 20000 in
theorem gX5_doHeldThatFollow_X3_remove : GoodIn wsX5_doHeldThatFollow (wsV RX5 86 RX3 yX3_remove wsX3_remove) := goodIn_app (goodIn_of _ (by decide +kernel)) ggX5_doHeldThatFollow_X3_remove
set_option maxRecDepth 20000 in
theorem ggX5_doHeldThatFollow_X5_doNow : GoodIn wsX5_doHeldThatFollow wsX5_doNow := goodIn_r _ [24, 2, 25, 26, 27, 28, 29, 30, 31, 32, 33, 34, 35, 36, 37, 38, 39, 40, 41, 42, 43, 44, 45, 46, 47, 48, 49, 50, 51, 52, 53, 54, 55, 56, 57, 58, 61, 62, 63, 64, 65, 66, 67, 68, 69] (by decide +kernel) (by decide +kernel)
set_option maxRecDepth 20000 in
theorem gX5_doHeldThatFollow_X5_doNow : GoodIn wsX5_doHeldThatFollow (wsV RX5 58 RX5 yX5_doNow wsX5_doNow) := goodIn_app (goodIn_of _ (by decide +kernel)) ggX5_doHeldThatFollow_X5_doNow
theorem dX5_doHeldThatFollow_0 : decode cX5_doHeldThatFollow 0 = .ok (.iconst 0, 1) := by decide +kernel
theorem dX5_doHeldThatFollow_1 : decode cX5_doHeldThatFollow 1 = .ok (.istore_n 2, 1) := by decide +kernel
theorem dX5_doHeldThatFollow_2 : decode cX5_doHeldThatFollow 2 = .ok (.iload_n 2, 1) := by decide +kernel
end
section
theorem dX5_doHeldThatFollow_3 : decode cX5_doHeldThatFollow 3 = .ok (.bipush 8, 2) := by decide +kernel
theorem dX5_doHeldThatFollow_5 : decode cX5_doHeldThatFollow 5 = .ok (.if_icmp .ge 59, 3) := by decide +kernel
theorem dX5_doHeldThatFollow_8 : decode cX5_doHeldThatFollow 8 = .ok (.aload_n 0, 1) := by decide +kernel
theorem dX5_doHeldThatFollow_9 : decode cX5_doHeldThatFollow 9 = .ok (.getfield 26, 3) := by decide +kernel
theorem dX5_doHeldThatFollow_12 : decode cX5_doHeldThatFollow 12 = .ok (.iload_n 1, 1) := by decide +kernel
theorem dX5_doHeldThatFollow_13 : decode cX5_doHeldThatFollow 13 = .ok (.aload_n 0, 1) := by decide +kernel
theorem dX5_doHeldThatFollow_14 : decode cX5_doHeldThatFollow 14 = .ok (.getfield 12, 3) := by decide +kernel
theorem dX5_doHeldThatFollow_17 : decode cX5_doHeldThatFollow 17 = .ok (.getfield 54, 3) := by decide +kernel
theorem dX5_doHeldThatFollow_20 : decode cX5_doHeldThatFollow 20 = .ok (.iload_n 1, 1) := by decide +kernel
theorem dX5_doHeldThatFollow_21 : decode cX5_doHeldThatFollow 21 = .ok (.iaload, 1) := by decide +kernel
theorem dX5_doHeldThatFollow_22 : decode cX5_doHeldThatFollow 22 = .ok (.iconst 1, 1) := by decide +kernel
theorem dX5_doHeldThatFollow_23 : decode cX5_doHeldThatFollow 23 = .ok (.iadd, 1) := by decide +kernel
theorem dX5_doHeldThatFollow_24 : decode cX5_doHeldThatFollow 24 = .ok (.invokevirtual 47, 3) := by decide +kernel
theorem dX5_doHeldThatFollow_27 : decode cX5_doHeldThatFollow 27 = .ok (.istore_n 3, 1) := by decide +kernel
theorem dX5_doHeldThatFollow_28 : decode cX5_doHeldThatFollow 28 = .ok (.aload_n 0, 1) := by decide +kernel
theorem dX5_doHeldThatFollow_29 : decode cX5_doHeldThatFollow 29 = .ok (.getfield 26, 3) := by decide +kernel
theorem dX5_doHeldThatFollow_32 : decode cX5_doHeldThatFollow 32 = .ok (.iload_n 3, 1) := by decide +kernel
theorem dX5_doHeldThatFollow_33 : decode cX5_doHeldThatFollow 33 = .ok (.invokevirtual 82, 3) := by decide +kernel
theorem dX5_doHeldThatFollow_36 : decode cX5_doHeldThatFollow 36 = .ok (.astore 4, 2) := by decide +kernel
theorem dX5_doHeldThatFollow_38 : decode cX5_doHeldThatFollow 38 = .ok (.aload 4, 2) := by decide +kernel
theorem dX5_doHeldThatFollow_40 : decode cX5_doHeldThatFollow 40 = .ok (.ifnonnull 4, 3) := by decide +kernel
theorem dX5_doHeldThatFollow_43 : decode cX5_doHeldThatFollow 43 = .ok (.return_, 1) := by decide +kernel
theorem dX5_doHeldThatFollow_44 : decode cX5_doHeldThatFollow 44 = .ok (.aload_n 0, 1) := by decide +kernel
theorem dX5_doHeldThatFollow_45 : decode cX5_doHeldThatFollow 45 = .ok (.getfield 26, 3) := by decide +kernel
theorem dX5_doHeldThatFollow_48 : decode cX5_doHeldThatFollow 48 = .ok (.iload_n 3, 1) := by decide +kernel
theorem dX5_doHeldThatFollow_49 : decode cX5_doHeldThatFollow 49 = .ok (.invokevirtual 86, 3) := by decide +kernel
theorem dX5_doHeldThatFollow_52 : decode cX5_doHeldThatFollow 52 = .ok (.aload_n 0, 1) := by decide +kernel
theorem dX5_doHeldThatFollow_53 : decode cX5_doHeldThatFollow 53 = .ok (.aload 4, 2) := by decide +kernel
theorem dX5_doHeldThatFollow_55 : decode cX5_doHeldThatFollow 55 = .ok (.invokevirtual 58, 3) := by decide +kernel
theorem dX5_doHeldThatFollow_58 : decode cX5_doHeldThatFollow 58 = .ok (.iinc 2 1, 3) := by decide +kernel
theorem dX5_doHeldThatFollow_61 : decode cX5_doHeldThatFollow 61 = .ok (.goto (-59), 3) := by decide +kernel
theorem dX5_doHeldThatFollow_64 : decode cX5_doHeldThatFollow 64 = .ok (.return_, 1) := by decide +kernel
set_option maxRecDepth 20000 in
theorem ggX5_saveMemory_X6_become : GoodIn wsX5_saveMemory wsX6_become := goodIn_r _ [7, 8, 9, 10, 18, 19, 20] (by decide +kernel) (by decide +kernel)
set_option maxRecDepth 20000 in
theorem gX5_saveMemory_X6_become : GoodIn wsX5_saveMemory (wsV RX5 89 RX6 yX6_become wsX6_become) := goodIn_app (goodIn_of _ (by decide +kernel)) ggX5_saveMemory_X6_become
theorem dX5_saveMemory_0 : decode cX5_saveMemory 0 = .ok (.aload_n 0, 1) := by decide +kernel
theorem dX5_saveMemory_1 : decode cX5_saveMemory 1 = .ok (.getfield 18, 3) := by decide +kernel
theorem dX5_saveMemory_4 : decode cX5_saveMemory 4 = .ok (.aload_n 0, 1) := by decide +kernel
theorem dX5_saveMemory_5 : decode cX5_saveMemory 5 = .ok (.getfield 12, 3) := by decide +kernel
theorem dX5_saveMemory_8 : decode cX5_saveMemory 8 = .ok (.invokevirtual 89, 3) := by decide +kernel
theorem dX5_saveMemory_11 : decode cX5_saveMemory 11 = .ok (.ireturn, 1) := by decide +kernel
set_option maxRecDepth 20000 in
theorem ggX5_restart_X3_clear : GoodIn wsX5_restart wsX3_clear := goodIn_r _ [8, 9, 25, 26] (by decide +kernel) (by decide +kernel)
set_option maxRecDepth 20000 in
theorem gX5_restart_X3_clear : GoodIn wsX5_restart (wsV RX5 93 RX3 yX3_clear wsX3_clear) := goodIn_app (goodIn_of _ (by decide +kernel)) ggX5_restart_X3_clear
set_option maxRecDepth 20000 in
theorem ggX5_restart_X6_become : GoodIn wsX5_restart wsX6_become := goodIn_r _ [14, 15, 16, 17, 27, 28, 29] (by decide +kernel) (by decide +kernel)
set_option maxRecDepth 20000 in
theorem gX5_restart_X6_become : GoodIn wsX5_restart (wsV RX5 89 RX6 yX6_become wsX6_become) := goodIn_app (goodIn_of _ (by decide +kernel)) ggX5_restart_X6_become
theorem dX5_restart_0 : decode cX5_restart 0 = .ok (.aload_n 0, 1) := by decide +kernel
theorem dX5_restart_1 : decode cX5_restart 1 = .ok (.getfield 26, 3) := by decide +kernel
theorem dX5_restart_4 : decode cX5_restart 4 = .ok (.invokevirtual 93, 3) := by decide +kernel
theorem dX5_restart_7 : decode cX5_restart 7 = .ok (.aload_n 0, 1) := by decide +kernel
theorem dX5_restart_8 : decode cX5_restart 8 = .ok (.getfield 12, 3) := by decide +kernel
theorem dX5_restart_11 : decode cX5_restart 11 = .ok (.aload_n 0, 1) := by decide +kernel
theorem dX5_restart_12 : decode cX5_restart 12 = .ok (.getfield 18, 3) := by decide +kernel
theorem dX5_restart_15 : decode cX5_restart 15 = .ok (.invokevirtual 89, 3) := by decide +kernel
theorem dX5_restart_18 : decode cX5_restart 18 = .ok (.ineg, 1) := by decide +kernel
theorem dX5_restart_19 : decode cX5_restart 19 = .ok (.ireturn, 1) := by decide +kernel
set_option maxRecDepth 20000 in
theorem ggX5_diskIsWhole_X1_flushedAt : GoodIn wsX5_diskIsWhole wsX1_flushedAt := goodIn_r _ [8, 9, 10, 31, 32, 33, 34] (by decide +kernel) (by decide +kernel)
set_option maxRecDepth 20000 in
theorem gX5_diskIsWhole_X1_flushedAt : GoodIn wsX5_diskIsWhole (wsV RX5 96 RX1 yX1_flushedAt wsX1_flushedAt) := goodIn_app (goodIn_of _ (by decide +kernel)) ggX5_diskIsWhole_X1_flushedAt
set_option maxRecDepth 20000 in
theorem ggX5_diskIsWhole_X6_has : GoodIn wsX5_diskIsWhole wsX6_has := goodIn_r _ [15, 16, 17, 18, 26, 27, 28, 29, 30, 35, 36, 37] (by decide +kernel) (by decide +kernel)
set_option maxRecDepth 20000 in
theorem gX5_diskIsWhole_X6_has : GoodIn wsX5_diskIsWhole (wsV RX5 34 RX6 yX6_has wsX6_has) := goodIn_app (goodIn_of _ (by decide +kernel)) ggX5_diskIsWhole_X6_has
theorem dX5_diskIsWhole_0 : decode cX5_diskIsWhole 0 = .ok (.iconst 0, 1) := by decide +kernel
theorem dX5_diskIsWhole_1 : decode cX5_diskIsWhole 1 = .ok (.istore_n 1, 1) := by decide +kernel
theorem dX5_diskIsWhole_2 : decode cX5_diskIsWhole 2 = .ok (.iconst 0, 1) := by decide +kernel
theorem dX5_diskIsWhole_3 : decode cX5_diskIsWhole 3 = .ok (.istore_n 2, 1) := by decide +kernel
theorem dX5_diskIsWhole_4 : decode cX5_diskIsWhole 4 = .ok (.iconst 0, 1) := by decide +kernel
theorem dX5_diskIsWhole_5 : decode cX5_diskIsWhole 5 = .ok (.istore_n 3, 1) := by decide +kernel
theorem dX5_diskIsWhole_6 : decode cX5_diskIsWhole 6 = .ok (.iload_n 3, 1) := by decide +kernel
theorem dX5_diskIsWhole_7 : decode cX5_diskIsWhole 7 = .ok (.sipush 400, 3) := by decide +kernel
theorem dX5_diskIsWhole_10 : decode cX5_diskIsWhole 10 = .ok (.if_icmp .ge 68, 3) := by decide +kernel
theorem dX5_diskIsWhole_13 : decode cX5_diskIsWhole 13 = .ok (.aload_n 0, 1) := by decide +kernel
theorem dX5_diskIsWhole_14 : decode cX5_diskIsWhole 14 = .ok (.getfield 30, 3) := by decide +kernel
theorem dX5_diskIsWhole_17 : decode cX5_diskIsWhole 17 = .ok (.iload_n 3, 1) := by decide +kernel
theorem dX5_diskIsWhole_18 : decode cX5_diskIsWhole 18 = .ok (.invokevirtual 96, 3) := by decide +kernel
theorem dX5_diskIsWhole_21 : decode cX5_diskIsWhole 21 = .ok (.astore 4, 2) := by decide +kernel
theorem dX5_diskIsWhole_23 : decode cX5_diskIsWhole 23 = .ok (.aload 4, 2) := by decide +kernel
theorem dX5_diskIsWhole_25 : decode cX5_diskIsWhole 25 = .ok (.ifnonnull 6, 3) := by decide +kernel
theorem dX5_diskIsWhole_28 : decode cX5_diskIsWhole 28 = .ok (.goto 50, 3) := by decide +kernel
theorem dX5_diskIsWhole_31 : decode cX5_diskIsWhole 31 = .ok (.aload_n 0, 1) := by decide +kernel
theorem dX5_diskIsWhole_32 : decode cX5_diskIsWhole 32 = .ok (.getfield 18, 3) := by decide +kernel
theorem dX5_diskIsWhole_35 : decode cX5_diskIsWhole 35 = .ok (.aload 4, 2) := by decide +kernel
theorem dX5_diskIsWhole_37 : decode cX5_diskIsWhole 37 = .ok (.invokevirtual 34, 3) := by decide +kernel
theorem dX5_diskIsWhole_40 : decode cX5_diskIsWhole 40 = .ok (.ifCond .eq 8, 3) := by decide +kernel
theorem dX5_diskIsWhole_43 : decode cX5_diskIsWhole 43 = .ok (.iconst 1, 1) := by decide +kernel
theorem dX5_diskIsWhole_44 : decode cX5_diskIsWhole 44 = .ok (.istore_n 1, 1) := by decide +kernel
theorem dX5_diskIsWhole_45 : decode cX5_diskIsWhole 45 = .ok (.goto 5, 3) := by decide +kernel
theorem dX5_diskIsWhole_48 : decode cX5_diskIsWhole 48 = .ok (.iconst 1, 1) := by decide +kernel
theorem dX5_diskIsWhole_49 : decode cX5_diskIsWhole 49 = .ok (.istore_n 2, 1) := by decide +kernel
theorem dX5_diskIsWhole_50 : decode cX5_diskIsWhole 50 = .ok (.iload_n 1, 1) := by decide +kernel
theorem dX5_diskIsWhole_51 : decode cX5_diskIsWhole 51 = .ok (.ifCond .eq 9, 3) := by decide +kernel
theorem dX5_diskIsWhole_54 : decode cX5_diskIsWhole 54 = .ok (.iload_n 2, 1) := by decide +kernel
theorem dX5_diskIsWhole_55 : decode cX5_diskIsWhole 55 = .ok (.ifCond .eq 5, 3) := by decide +kernel
theorem dX5_diskIsWhole_58 : decode cX5_diskIsWhole 58 = .ok (.iconst 0, 1) := by decide +kernel
theorem dX5_diskIsWhole_59 : decode cX5_diskIsWhole 59 = .ok (.ireturn, 1) := by decide +kernel
theorem dX5_diskIsWhole_60 : decode cX5_diskIsWhole 60 = .ok (.aload 4, 2) := by decide +kernel
theorem dX5_diskIsWhole_62 : decode cX5_diskIsWhole 62 = .ok (.getfield 101, 3) := by decide +kernel
theorem dX5_diskIsWhole_65 : decode cX5_diskIsWhole 65 = .ok (.ifCond .eq 7, 3) := by decide +kernel
theorem dX5_diskIsWhole_68 : decode cX5_diskIsWhole 68 = .ok (.iconst 0, 1) := by decide +kernel
theorem dX5_diskIsWhole_69 : decode cX5_diskIsWhole 69 = .ok (.istore_n 1, 1) := by decide +kernel
theorem dX5_diskIsWhole_70 : decode cX5_diskIsWhole 70 = .ok (.iconst 0, 1) := by decide +kernel
theorem dX5_diskIsWhole_71 : decode cX5_diskIsWhole 71 = .ok (.istore_n 2, 1) := by decide +kernel
theorem dX5_diskIsWhole_72 : decode cX5_diskIsWhole 72 = .ok (.iinc 3 1, 3) := by decide +kernel
theorem dX5_diskIsWhole_75 : decode cX5_diskIsWhole 75 = .ok (.goto (-69), 3) := by decide +kernel
theorem dX5_diskIsWhole_78 : decode cX5_diskIsWhole 78 = .ok (.iconst 1, 1) := by decide +kernel
theorem dX5_diskIsWhole_79 : decode cX5_diskIsWhole 79 = .ok (.ireturn, 1) := by decide +kernel
theorem dX6_init_0 : decode cX6_init 0 = .ok (.aload_n 0, 1) := by decide +kernel
theorem dX6_init_1 : decode cX6_init 1 = .ok (.invokespecial 3, 3) := by decide +kernel
theorem dX6_init_4 : decode cX6_init 4 = .ok (.aload_n 0, 1) := by decide +kernel
theorem dX6_init_5 : decode cX6_init 5 = .ok (.bipush 6, 2) := by decide +kernel
theorem dX6_init_7 : decode cX6_init 7 = .ok (.newarray .int, 2) := by decide +kernel
theorem dX6_init_9 : decode cX6_init 9 = .ok (.putfield 9, 3) := by decide +kernel
theorem dX6_init_12 : decode cX6_init 12 = .ok (.aload_n 0, 1) := by decide +kernel
theorem dX6_init_13 : decode cX6_init 13 = .ok (.bipush 6, 2) := by decide +kernel
theorem dX6_init_15 : decode cX6_init 15 = .ok (.newarray .int, 2) := by decide +kernel
theorem dX6_init_17 : decode cX6_init 17 = .ok (.putfield 15, 3) := by decide +kernel
theorem dX6_init_20 : decode cX6_init 20 = .ok (.return_, 1) := by decide +kernel
theorem dX6_has_0 : decode cX6_has 0 = .ok (.aload_n 1, 1) := by decide +kernel
theorem dX6_has_1 : decode cX6_has 1 = .ok (.ifnull 23, 3) := by decide +kernel
theorem dX6_has_4 : decode cX6_has 4 = .ok (.aload_n 1, 1) := by decide +kernel
theorem dX6_has_5 : decode cX6_has 5 = .ok (.getfield 18, 3) := by decide +kernel
theorem dX6_has_8 : decode cX6_has 8 = .ok (.aload_n 0, 1) := by decide +kernel
theorem dX6_has_9 : decode cX6_has 9 = .ok (.getfield 15, 3) := by decide +kernel
theorem dX6_has_12 : decode cX6_has 12 = .ok (.aload_n 1, 1) := by decide +kernel
theorem dX6_has_13 : decode cX6_has 13 = .ok (.getfield 24, 3) := by decide +kernel
theorem dX6_has_16 : decode cX6_has 16 = .ok (.iaload, 1) := by decide +kernel
theorem dX6_has_17 : decode cX6_has 17 = .ok (.if_icmp .gt 7, 3) := by decide +kernel
theorem dX6_has_20 : decode cX6_has 20 = .ok (.iconst 1, 1) := by decide +kernel
theorem dX6_has_21 : decode cX6_has 21 = .ok (.goto 4, 3) := by decide +kernel
theorem dX6_has_24 : decode cX6_has 24 = .ok (.iconst 0, 1) := by decide +kernel
theorem dX6_has_25 : decode cX6_has 25 = .ok (.ireturn, 1) := by decide +kernel
set_option maxRecDepth 20000 in
theorem ggX6_apply_X1_flushedAt : GoodIn wsX6_apply wsX1_flushedAt := goodIn_r _ [11, 12, 13, 27, 28, 29, 30] (by decide +kernel) (by decide +kernel)
set_option maxRecDepth 20000 in
theorem gX6_apply_X1_flushedAt : GoodIn wsX6_apply (wsV RX6 33 RX1 yX1_flushedAt wsX1_flushedAt) := goodIn_app (goodIn_of _ (by decide +kernel)) ggX6_apply_X1_flushedAt
set_option maxRecDepth 20000 in
theorem ggX6_apply_X6_has : GoodIn wsX6_apply wsX6_has := goodIn_r _ [18, 5, 4, 2, 22, 23, 24, 25, 26, 19, 20, 21] (by decide +kernel) (by decide +kernel)
set_option maxRecDepth 20000 in
theorem gX6_apply_X6_has : GoodIn wsX6_apply (wsV RX6 39 RX6 yX6_has wsX6_has) := goodIn_app (goodIn_of _ (by decide +kernel)) ggX6_apply_X6_has
theorem dX6_apply_0 : decode cX6_apply 0 = .ok (.aload_n 0, 1) := by decide +kernel
theorem dX6_apply_1 : decode cX6_apply 1 = .ok (.getfield 9, 3) := by decide +kernel
theorem dX6_apply_4 : decode cX6_apply 4 = .ok (.aload_n 1, 1) := by decide +kernel
theorem dX6_apply_5 : decode cX6_apply 5 = .ok (.getfield 24, 3) := by decide +kernel
theorem dX6_apply_8 : decode cX6_apply 8 = .ok (.aload_n 1, 1) := by decide +kernel
theorem dX6_apply_9 : decode cX6_apply 9 = .ok (.getfield 27, 3) := by decide +kernel
theorem dX6_apply_12 : decode cX6_apply 12 = .ok (.iastore, 1) := by decide +kernel
theorem dX6_apply_13 : decode cX6_apply 13 = .ok (.aload_n 0, 1) := by decide +kernel
theorem dX6_apply_14 : decode cX6_apply 14 = .ok (.getfield 15, 3) := by decide +kernel
theorem dX6_apply_17 : decode cX6_apply 17 = .ok (.aload_n 1, 1) := by decide +kernel
theorem dX6_apply_18 : decode cX6_apply 18 = .ok (.getfield 24, 3) := by decide +kernel
theorem dX6_apply_21 : decode cX6_apply 21 = .ok (.aload_n 1, 1) := by decide +kernel
theorem dX6_apply_22 : decode cX6_apply 22 = .ok (.getfield 18, 3) := by decide +kernel
theorem dX6_apply_25 : decode cX6_apply 25 = .ok (.iastore, 1) := by decide +kernel
theorem dX6_apply_26 : decode cX6_apply 26 = .ok (.iconst 0, 1) := by decide +kernel
theorem dX6_apply_27 : decode cX6_apply 27 = .ok (.istore_n 3, 1) := by decide +kernel
theorem dX6_apply_28 : decode cX6_apply 28 = .ok (.iload_n 3, 1) := by decide +kernel
theorem dX6_apply_29 : decode cX6_apply 29 = .ok (.sipush 400, 3) := by decide +kernel
theorem dX6_apply_32 : decode cX6_apply 32 = .ok (.if_icmp .ge 34, 3) := by decide +kernel
theorem dX6_apply_35 : decode cX6_apply 35 = .ok (.aload_n 0, 1) := by decide +kernel
theorem dX6_apply_36 : decode cX6_apply 36 = .ok (.aload_n 2, 1) := by decide +kernel
theorem dX6_apply_37 : decode cX6_apply 37 = .ok (.aload_n 0, 1) := by decide +kernel
theorem dX6_apply_38 : decode cX6_apply 38 = .ok (.getfield 30, 3) := by decide +kernel
theorem dX6_apply_41 : decode cX6_apply 41 = .ok (.invokevirtual 33, 3) := by decide +kernel
theorem dX6_apply_44 : decode cX6_apply 44 = .ok (.invokevirtual 39, 3) := by decide +kernel
theorem dX6_apply_47 : decode cX6_apply 47 = .ok (.ifCond .eq 19, 3) := by decide +kernel
theorem dX6_apply_50 : decode cX6_apply 50 = .ok (.aload_n 0, 1) := by decide +kernel
theorem dX6_apply_51 : decode cX6_apply 51 = .ok (.dup, 1) := by decide +kernel
theorem dX6_apply_52 : decode cX6_apply 52 = .ok (.getfield 30, 3) := by decide +kernel
theorem dX6_apply_55 : decode cX6_apply 55 = .ok (.iconst 1, 1) := by decide +kernel
theorem dX6_apply_56 : decode cX6_apply 56 = .ok (.iadd, 1) := by decide +kernel
theorem dX6_apply_57 : decode cX6_apply 57 = .ok (.putfield 30, 3) := by decide +kernel
theorem dX6_apply_60 : decode cX6_apply 60 = .ok (.iinc 3 1, 3) := by decide +kernel
theorem dX6_apply_63 : decode cX6_apply 63 = .ok (.goto (-35), 3) := by decide +kernel
theorem dX6_apply_66 : decode cX6_apply 66 = .ok (.return_, 1) := by decide +kernel
theorem dX6_become_0 : decode cX6_become 0 = .ok (.iconst 0, 1) := by decide +kernel
theorem dX6_become_1 : decode cX6_become 1 = .ok (.istore_n 2, 1) := by decide +kernel
theorem dX6_become_2 : decode cX6_become 2 = .ok (.iconst 0, 1) := by decide +kernel
theorem dX6_become_3 : decode cX6_become 3 = .ok (.istore_n 3, 1) := by decide +kernel
theorem dX6_become_4 : decode cX6_become 4 = .ok (.iload_n 3, 1) := by decide +kernel
theorem dX6_become_5 : decode cX6_become 5 = .ok (.bipush 6, 2) := by decide +kernel
theorem dX6_become_7 : decode cX6_become 7 = .ok (.if_icmp .ge 49, 3) := by decide +kernel
theorem dX6_become_10 : decode cX6_become 10 = .ok (.iload_n 2, 1) := by decide +kernel
theorem dX6_become_11 : decode cX6_become 11 = .ok (.aload_n 1, 1) := by decide +kernel
theorem dX6_become_12 : decode cX6_become 12 = .ok (.getfield 15, 3) := by decide +kernel
theorem dX6_become_15 : decode cX6_become 15 = .ok (.iload_n 3, 1) := by decide +kernel
theorem dX6_become_16 : decode cX6_become 16 = .ok (.iaload, 1) := by decide +kernel
theorem dX6_become_17 : decode cX6_become 17 = .ok (.aload_n 0, 1) := by decide +kernel
theorem dX6_become_18 : decode cX6_become 18 = .ok (.getfield 15, 3) := by decide +kernel
theorem dX6_become_21 : decode cX6_become 21 = .ok (.iload_n 3, 1) := by decide +kernel
theorem dX6_become_22 : decode cX6_become 22 = .ok (.iaload, 1) := by decide +kernel
theorem dX6_become_23 : decode cX6_become 23 = .ok (.isub, 1) := by decide +kernel
theorem dX6_become_24 : decode cX6_become 24 = .ok (.iadd, 1) := by decide +kernel
theorem dX6_become_25 : decode cX6_become 25 = .ok (.istore_n 2, 1) := by decide +kernel
theorem dX6_become_26 : decode cX6_become 26 = .ok (.aload_n 0, 1) := by decide +kernel
theorem dX6_become_27 : decode cX6_become 27 = .ok (.getfield 9, 3) := by decide +kernel
theorem dX6_become_30 : decode cX6_become 30 = .ok (.iload_n 3, 1) := by decide +kernel
theorem dX6_become_31 : decode cX6_become 31 = .ok (.aload_n 1, 1) := by decide +kernel
theorem dX6_become_32 : decode cX6_become 32 = .ok (.getfield 9, 3) := by decide +kernel
theorem dX6_become_35 : decode cX6_become 35 = .ok (.iload_n 3, 1) := by decide +kernel
theorem dX6_become_36 : decode cX6_become 36 = .ok (.iaload, 1) := by decide +kernel
theorem dX6_become_37 : decode cX6_become 37 = .ok (.iastore, 1) := by decide +kernel
theorem dX6_become_38 : decode cX6_become 38 = .ok (.aload_n 0, 1) := by decide +kernel
theorem dX6_become_39 : decode cX6_become 39 = .ok (.getfield 15, 3) := by decide +kernel
theorem dX6_become_42 : decode cX6_become 42 = .ok (.iload_n 3, 1) := by decide +kernel
theorem dX6_become_43 : decode cX6_become 43 = .ok (.aload_n 1, 1) := by decide +kernel
theorem dX6_become_44 : decode cX6_become 44 = .ok (.getfield 15, 3) := by decide +kernel
theorem dX6_become_47 : decode cX6_become 47 = .ok (.iload_n 3, 1) := by decide +kernel
theorem dX6_become_48 : decode cX6_become 48 = .ok (.iaload, 1) := by decide +kernel
theorem dX6_become_49 : decode cX6_become 49 = .ok (.iastore, 1) := by decide +kernel
theorem dX6_become_50 : decode cX6_become 50 = .ok (.iinc 3 1, 3) := by decide +kernel
theorem dX6_become_53 : decode cX6_become 53 = .ok (.goto (-49), 3) := by decide +kernel
theorem dX6_become_56 : decode cX6_become 56 = .ok (.aload_n 0, 1) := by decide +kernel
theorem dX6_become_57 : decode cX6_become 57 = .ok (.aload_n 1, 1) := by decide +kernel
theorem dX6_become_58 : decode cX6_become 58 = .ok (.getfield 30, 3) := by decide +kernel
theorem dX6_become_61 : decode cX6_become 61 = .ok (.putfield 30, 3) := by decide +kernel
theorem dX6_become_64 : decode cX6_become 64 = .ok (.iload_n 2, 1) := by decide +kernel
theorem dX6_become_65 : decode cX6_become 65 = .ok (.ireturn, 1) := by decide +kernel
set_option maxRecDepth 20000 in
theorem ggX6_isAsFlushed_X1_flushedAt : GoodIn wsX6_isAsFlushed wsX1_flushedAt := goodIn_r _ [10, 11, 12, 21, 22, 23, 24] (by decide +kernel) (by decide +kernel)
set_option maxRecDepth 20000 in
theorem gX6_isAsFlushed_X1_flushedAt : GoodIn wsX6_isAsFlushed (wsV RX6 33 RX1 yX1_flushedAt wsX1_flushedAt) := goodIn_app (goodIn_of _ (by decide +kernel)) ggX6_isAsFlushed_X1_flushedAt
theorem dX6_isAsFlushed_0 : decode cX6_isAsFlushed 0 = .ok (.iconst 0, 1) := by decide +kernel
theorem dX6_isAsFlushed_1 : decode cX6_isAsFlushed 1 = .ok (.istore_n 2, 1) := by decide +kernel
theorem dX6_isAsFlushed_2 : decode cX6_isAsFlushed 2 = .ok (.iload_n 2, 1) := by decide +kernel
theorem dX6_isAsFlushed_3 : decode cX6_isAsFlushed 3 = .ok (.sipush 400, 3) := by decide +kernel
theorem dX6_isAsFlushed_6 : decode cX6_isAsFlushed 6 = .ok (.if_icmp .ge 56, 3) := by decide +kernel
theorem dX6_isAsFlushed_9 : decode cX6_isAsFlushed 9 = .ok (.aload_n 1, 1) := by decide +kernel
theorem dX6_isAsFlushed_10 : decode cX6_isAsFlushed 10 = .ok (.iload_n 2, 1) := by decide +kernel
theorem dX6_isAsFlushed_11 : decode cX6_isAsFlushed 11 = .ok (.invokevirtual 33, 3) := by decide +kernel
theorem dX6_isAsFlushed_14 : decode cX6_isAsFlushed 14 = .ok (.astore_n 3, 1) := by decide +kernel
theorem dX6_isAsFlushed_15 : decode cX6_isAsFlushed 15 = .ok (.aload_n 3, 1) := by decide +kernel
theorem dX6_isAsFlushed_16 : decode cX6_isAsFlushed 16 = .ok (.ifnonnull 6, 3) := by decide +kernel
theorem dX6_isAsFlushed_19 : decode cX6_isAsFlushed 19 = .ok (.goto 43, 3) := by decide +kernel
theorem dX6_isAsFlushed_22 : decode cX6_isAsFlushed 22 = .ok (.aload_n 3, 1) := by decide +kernel
theorem dX6_isAsFlushed_23 : decode cX6_isAsFlushed 23 = .ok (.getfield 18, 3) := by decide +kernel
theorem dX6_isAsFlushed_26 : decode cX6_isAsFlushed 26 = .ok (.aload_n 0, 1) := by decide +kernel
theorem dX6_isAsFlushed_27 : decode cX6_isAsFlushed 27 = .ok (.getfield 15, 3) := by decide +kernel
theorem dX6_isAsFlushed_30 : decode cX6_isAsFlushed 30 = .ok (.aload_n 3, 1) := by decide +kernel
theorem dX6_isAsFlushed_31 : decode cX6_isAsFlushed 31 = .ok (.getfield 24, 3) := by decide +kernel
theorem dX6_isAsFlushed_34 : decode cX6_isAsFlushed 34 = .ok (.iaload, 1) := by decide +kernel
theorem dX6_isAsFlushed_35 : decode cX6_isAsFlushed 35 = .ok (.if_icmp .ne 21, 3) := by decide +kernel
theorem dX6_isAsFlushed_38 : decode cX6_isAsFlushed 38 = .ok (.aload_n 3, 1) := by decide +kernel
theorem dX6_isAsFlushed_39 : decode cX6_isAsFlushed 39 = .ok (.getfield 27, 3) := by decide +kernel
theorem dX6_isAsFlushed_42 : decode cX6_isAsFlushed 42 = .ok (.aload_n 0, 1) := by decide +kernel
theorem dX6_isAsFlushed_43 : decode cX6_isAsFlushed 43 = .ok (.getfield 9, 3) := by decide +kernel
theorem dX6_isAsFlushed_46 : decode cX6_isAsFlushed 46 = .ok (.aload_n 3, 1) := by decide +kernel
theorem dX6_isAsFlushed_47 : decode cX6_isAsFlushed 47 = .ok (.getfield 24, 3) := by decide +kernel
theorem dX6_isAsFlushed_50 : decode cX6_isAsFlushed 50 = .ok (.iaload, 1) := by decide +kernel
theorem dX6_isAsFlushed_51 : decode cX6_isAsFlushed 51 = .ok (.if_icmp .eq 5, 3) := by decide +kernel
theorem dX6_isAsFlushed_54 : decode cX6_isAsFlushed 54 = .ok (.iconst 0, 1) := by decide +kernel
theorem dX6_isAsFlushed_55 : decode cX6_isAsFlushed 55 = .ok (.ireturn, 1) := by decide +kernel
theorem dX6_isAsFlushed_56 : decode cX6_isAsFlushed 56 = .ok (.iinc 2 1, 3) := by decide +kernel
theorem dX6_isAsFlushed_59 : decode cX6_isAsFlushed 59 = .ok (.goto (-57), 3) := by decide +kernel
theorem dX6_isAsFlushed_62 : decode cX6_isAsFlushed 62 = .ok (.iconst 1, 1) := by decide +kernel
theorem dX6_isAsFlushed_63 : decode cX6_isAsFlushed 63 = .ok (.ireturn, 1) := by decide +kernel
set_option maxRecDepth 20000 in
theorem ggX7_init_X1_init : GoodIn wsX7_init wsX1_init := goodIn_r _ [21, 22, 2, 3, 23, 24, 78, 79, 80, 81] (by decide +kernel) (by decide +kernel)
set_option maxRecDepth 20000 in
theorem gX7_init_X1_init_n9 : GoodIn wsX7_init (wsX1_init) := ggX7_init_X1_init
set_option maxRecDepth 20000 in
theorem ggX7_init_X4_init : GoodIn wsX7_init wsX4_init := goodIn_r _ [27, 28, 2, 3, 29, 30, 31, 32, 33, 34, 35, 36, 37, 38, 39, 40, 87, 88, 89, 90, 91, 92] (by decide +kernel) (by decide +kernel)
set_option maxRecDepth 20000 in
theorem gX7_init_X4_init : GoodIn wsX7_init (wsX4_init) := ggX7_init_X4_init
set_option maxRecDepth 20000 in
theorem ggX7_init_X2_init : GoodIn wsX7_init wsX2_init := goodIn_r _ [43, 44, 2, 3, 45, 46, 47, 48, 49, 50, 51, 52, 53, 54, 55, 56, 57, 58, 59, 93, 94, 95, 96, 97, 98, 106, 107] (by decide +kernel) (by decide +kernel)
set_option maxRecDepth 20000 in
theorem gX7_init_X2_init : GoodIn wsX7_init (wsX2_init) := ggX7_init_X2_init
set_option maxRecDepth 20000 in
theorem ggX7_init_X5_init : GoodIn wsX7_init wsX5_init := goodIn_r _ [62, 63, 2, 3, 64, 65, 66, 67, 68, 69, 48, 49, 70, 71, 72, 73, 74, 29, 75, 76, 77, 51, 52, 53, 54, 55, 56, 57, 58, 59, 108, 109, 110, 99, 100, 101, 102, 103, 104, 105, 106, 107] (by decide +kernel) (by decide +kernel)
set_option maxRecDepth 20000 in
theorem gX7_init_X5_init : GoodIn wsX7_init (wsX5_init) := ggX7_init_X5_init
theorem dX7_init_0 : decode cX7_init 0 = .ok (.aload_n 0, 1) := by decide +kernel
theorem dX7_init_1 : decode cX7_init 1 = .ok (.invokespecial 1, 3) := by decide +kernel
theorem dX7_init_4 : decode cX7_init 4 = .ok (.aload_n 0, 1) := by decide +kernel
theorem dX7_init_5 : decode cX7_init 5 = .ok (.new 7, 3) := by decide +kernel
theorem dX7_init_8 : decode cX7_init 8 = .ok (.dup, 1) := by decide +kernel
theorem dX7_init_9 : decode cX7_init 9 = .ok (.invokespecial 9, 3) := by decide +kernel
theorem dX7_init_12 : decode cX7_init 12 = .ok (.putfield 10, 3) := by decide +kernel
theorem dX7_init_15 : decode cX7_init 15 = .ok (.aload_n 0, 1) := by decide +kernel
theorem dX7_init_16 : decode cX7_init 16 = .ok (.new 16, 3) := by decide +kernel
theorem dX7_init_19 : decode cX7_init 19 = .ok (.dup, 1) := by decide +kernel
theorem dX7_init_20 : decode cX7_init 20 = .ok (.aload_n 0, 1) := by decide +kernel
theorem dX7_init_21 : decode cX7_init 21 = .ok (.getfield 10, 3) := by decide +kernel
theorem dX7_init_24 : decode cX7_init 24 = .ok (.invokespecial 18, 3) := by decide +kernel
theorem dX7_init_27 : decode cX7_init 27 = .ok (.putfield 21, 3) := by decide +kernel
theorem dX7_init_30 : decode cX7_init 30 = .ok (.aload_n 0, 1) := by decide +kernel
theorem dX7_init_31 : decode cX7_init 31 = .ok (.new 25, 3) := by decide +kernel
theorem dX7_init_34 : decode cX7_init 34 = .ok (.dup, 1) := by decide +kernel
theorem dX7_init_35 : decode cX7_init 35 = .ok (.aload_n 0, 1) := by decide +kernel
theorem dX7_init_36 : decode cX7_init 36 = .ok (.getfield 10, 3) := by decide +kernel
theorem dX7_init_39 : decode cX7_init 39 = .ok (.invokespecial 27, 3) := by decide +kernel
theorem dX7_init_42 : decode cX7_init 42 = .ok (.putfield 28, 3) := by decide +kernel
theorem dX7_init_45 : decode cX7_init 45 = .ok (.aload_n 0, 1) := by decide +kernel
theorem dX7_init_46 : decode cX7_init 46 = .ok (.new 32, 3) := by decide +kernel
theorem dX7_init_49 : decode cX7_init 49 = .ok (.dup, 1) := by decide +kernel
theorem dX7_init_50 : decode cX7_init 50 = .ok (.aload_n 0, 1) := by decide +kernel
theorem dX7_init_51 : decode cX7_init 51 = .ok (.getfield 10, 3) := by decide +kernel
theorem dX7_init_54 : decode cX7_init 54 = .ok (.invokespecial 34, 3) := by decide +kernel
theorem dX7_init_57 : decode cX7_init 57 = .ok (.putfield 35, 3) := by decide +kernel
theorem dX7_init_60 : decode cX7_init 60 = .ok (.return_, 1) := by decide +kernel
set_option maxRecDepth 20000 in
theorem ggX7_begin_X4_openFirstFree : GoodIn wsX7_begin wsX4_openFirstFree := goodIn_r _ [6, 7, 13, 14, 15, 16, 17, 18] (by decide +kernel) (by decide +kernel)
set_option maxRecDepth 20000 in
theorem gX7_begin_X4_openFirstFree : GoodIn wsX7_begin (wsV RX7 39 RX4 yX4_openFirstFree wsX4_openFirstFree) := goodIn_app (goodIn_of _ (by decide +kernel)) ggX7_begin_X4_openFirstFree
theorem dX7_begin_0 : decode cX7_begin 0 = .ok (.aload_n 0, 1) := by decide +kernel
theorem dX7_begin_1 : decode cX7_begin 1 = .ok (.getfield 21, 3) := by decide +kernel
theorem dX7_begin_4 : decode cX7_begin 4 = .ok (.invokevirtual 39, 3) := by decide +kernel
theorem dX7_begin_7 : decode cX7_begin 7 = .ok (.ireturn, 1) := by decide +kernel
set_option maxRecDepth 20000 in
theorem ggX7_write_X4_isOpen : GoodIn wsX7_write wsX4_isOpen := goodIn_r _ [6, 7, 23, 24, 25, 26, 27, 28] (by decide +kernel) (by decide +kernel)
set_option maxRecDepth 20000 in
theorem gX7_write_X4_isOpen : GoodIn wsX7_write (wsV RX7 43 RX4 yX4_isOpen wsX4_isOpen) := goodIn_app (goodIn_of _ (by decide +kernel)) ggX7_write_X4_isOpen
set_option maxRecDepth 20000 in
theorem ggX7_write_X7_isKey : GoodIn wsX7_write wsX7_isKey := goodIn_r _ [11] (by decide +kernel) (by decide +kernel)
set_option maxRecDepth 20000 in
theorem gX7_write_X7_isKey : GoodIn wsX7_write (va_wsS RX7 47 yX7_isKey wsX7_isKey) := goodIn_app (goodIn_of _ (by decide +kernel)) ggX7_write_X7_isKey
set_option maxRecDepth 20000 in
theorem ggX7_write_X4_draft : GoodIn wsX7_write wsX4_draft := goodIn_r _ [15, 16, 17, 23, 24, 25, 26, 27, 28] (by decide +kernel) (by decide +kernel)
set_option maxRecDepth 20000 in
theorem gX7_write_X4_draft : GoodIn wsX7_write (wsV RX7 50 RX4 yX4_draft wsX4_draft) := goodIn_app (goodIn_of _ (by decide +kernel)) ggX7_write_X4_draft
theorem dX7_write_0 : decode cX7_write 0 = .ok (.aload_n 0, 1) := by decide +kernel
theorem dX7_write_1 : decode cX7_write 1 = .ok (.getfield 21, 3) := by decide +kernel
theorem dX7_write_4 : decode cX7_write 4 = .ok (.iload_n 1, 1) := by decide +kernel
theorem dX7_write_5 : decode cX7_write 5 = .ok (.invokevirtual 43, 3) := by decide +kernel
theorem dX7_write_8 : decode cX7_write 8 = .ok (.ifCond .eq 10, 3) := by decide +kernel
theorem dX7_write_11 : decode cX7_write 11 = .ok (.iload_n 2, 1) := by decide +kernel
theorem dX7_write_12 : decode cX7_write 12 = .ok (.invokestatic 47, 3) := by decide +kernel
theorem dX7_write_15 : decode cX7_write 15 = .ok (.ifCond .ne 5, 3) := by decide +kernel
theorem dX7_write_18 : decode cX7_write 18 = .ok (.iconst (-1), 1) := by decide +kernel
theorem dX7_write_19 : decode cX7_write 19 = .ok (.ireturn, 1) := by decide +kernel
theorem dX7_write_20 : decode cX7_write 20 = .ok (.aload_n 0, 1) := by decide +kernel
theorem dX7_write_21 : decode cX7_write 21 = .ok (.getfield 21, 3) := by decide +kernel
theorem dX7_write_24 : decode cX7_write 24 = .ok (.iload_n 1, 1) := by decide +kernel
theorem dX7_write_25 : decode cX7_write 25 = .ok (.iload_n 2, 1) := by decide +kernel
theorem dX7_write_26 : decode cX7_write 26 = .ok (.iload_n 3, 1) := by decide +kernel
theorem dX7_write_27 : decode cX7_write 27 = .ok (.invokevirtual 50, 3) := by decide +kernel
theorem dX7_write_30 : decode cX7_write 30 = .ok (.ifCond .eq 7, 3) := by decide +kernel
theorem dX7_write_33 : decode cX7_write 33 = .ok (.iconst 1, 1) := by decide +kernel
theorem dX7_write_34 : decode cX7_write 34 = .ok (.goto 5, 3) := by decide +kernel
theorem dX7_write_37 : decode cX7_write 37 = .ok (.bipush (-2), 2) := by decide +kernel
theorem dX7_write_39 : decode cX7_write 39 = .ok (.ireturn, 1) := by decide +kernel
set_option maxRecDepth 20000 in
theorem ggX7_read_X4_isOpen : GoodIn wsX7_read wsX4_isOpen := goodIn_r _ [6, 7, 24, 25, 26, 27, 28, 29] (by decide +kernel) (by decide +kernel)
set_option maxRecDepth 20000 in
theorem gX7_read_X4_isOpen : GoodIn wsX7_read (wsV RX7 43 RX4 yX4_isOpen wsX4_isOpen) := goodIn_app (goodIn_of _ (by decide +kernel)) ggX7_read_X4_isOpen
set_option maxRecDepth 20000 in
theorem ggX7_read_X7_isKey : GoodIn wsX7_read wsX7_isKey := goodIn_r _ [11] (by decide +kernel) (by decide +kernel)
set_option maxRecDepth 20000 in
theorem gX7_read_X7_isKey : GoodIn wsX7_read (va_wsS RX7 47 yX7_isKey wsX7_isKey) := goodIn_app (goodIn_of _ (by decide +kernel)) ggX7_read_X7_isKey
set_option maxRecDepth 20000 in
theorem ggX7_read_X4_seenBy : GoodIn wsX7_read wsX4_seenBy := goodIn_r _ [15, 16, 17, 18, 24, 25, 26, 27, 28, 29] (by decide +kernel) (by decide +kernel)
set_option maxRecDepth 20000 in
theorem gX7_read_X4_seenBy : GoodIn wsX7_read (wsV RX7 54 RX4 yX4_seenBy wsX4_seenBy) := goodIn_app (goodIn_of _ (by decide +kernel)) ggX7_read_X4_seenBy
theorem dX7_read_0 : decode cX7_read 0 = .ok (.aload_n 0, 1) := by decide +kernel
theorem dX7_read_1 : decode cX7_read 1 = .ok (.getfield 21, 3) := by decide +kernel
theorem dX7_read_4 : decode cX7_read 4 = .ok (.iload_n 1, 1) := by decide +kernel
theorem dX7_read_5 : decode cX7_read 5 = .ok (.invokevirtual 43, 3) := by decide +kernel
theorem dX7_read_8 : decode cX7_read 8 = .ok (.ifCond .eq 10, 3) := by decide +kernel
theorem dX7_read_11 : decode cX7_read 11 = .ok (.iload_n 2, 1) := by decide +kernel
theorem dX7_read_12 : decode cX7_read 12 = .ok (.invokestatic 47, 3) := by decide +kernel
theorem dX7_read_15 : decode cX7_read 15 = .ok (.ifCond .ne 5, 3) := by decide +kernel
theorem dX7_read_18 : decode cX7_read 18 = .ok (.iconst 0, 1) := by decide +kernel
theorem dX7_read_19 : decode cX7_read 19 = .ok (.ireturn, 1) := by decide +kernel
theorem dX7_read_20 : decode cX7_read 20 = .ok (.aload_n 0, 1) := by decide +kernel
theorem dX7_read_21 : decode cX7_read 21 = .ok (.getfield 21, 3) := by decide +kernel
theorem dX7_read_24 : decode cX7_read 24 = .ok (.iload_n 1, 1) := by decide +kernel
theorem dX7_read_25 : decode cX7_read 25 = .ok (.iload_n 2, 1) := by decide +kernel
theorem dX7_read_26 : decode cX7_read 26 = .ok (.invokevirtual 54, 3) := by decide +kernel
theorem dX7_read_29 : decode cX7_read 29 = .ok (.ireturn, 1) := by decide +kernel
set_option maxRecDepth 20000 in
theorem ggX7_commit_X4_isOpen : GoodIn wsX7_commit wsX4_isOpen := goodIn_r _ [7, 8, 55, 56, 57, 58, 59, 60] (by decide +kernel) (by decide +kernel)
set_option maxRecDepth 20000 in
theorem gX7_commit_X4_isOpen : GoodIn wsX7_commit (wsV RX7 43 RX4 yX4_isOpen wsX4_isOpen) := goodIn_app (goodIn_of _ (by decide +kernel)) ggX7_commit_X4_isOpen
set_option maxRecDepth 20000 in
theorem ggX7_commit_X4_lockedKeys : GoodIn wsX7_commit wsX4_lockedKeys := goodIn_r _ [12, 13, 55, 56, 57, 58, 59, 60] (by decide +kernel) (by decide +kernel)
set_option maxRecDepth 20000 in
theorem gX7_commit_X4_lockedKeys : GoodIn wsX7_commit (wsV RX7 58 RX4 yX4_lockedKeys wsX4_lockedKeys) := goodIn_app (goodIn_of _ (by decide +kernel)) ggX7_commit_X4_lockedKeys
set_option maxRecDepth 20000 in
theorem ggX7_commit_X1_hasRoomFor : GoodIn wsX7_commit wsX1_hasRoomFor := goodIn_r _ [18, 19, 61, 62, 63, 64] (by decide +kernel) (by decide +kernel)
set_option maxRecDepth 20000 in
theorem gX7_commit_X1_hasRoomFor : GoodIn wsX7_commit (wsV RX7 62 RX1 yX1_hasRoomFor wsX1_hasRoomFor) := goodIn_app (goodIn_of _ (by decide +kernel)) ggX7_commit_X1_hasRoomFor
set_option maxRecDepth 20000 in
theorem ggX7_commit_X4_putIntoLog : GoodIn wsX7_commit wsX4_putIntoLog := goodIn_r _ [23, 13, 24, 25, 26, 27, 28, 29, 17, 30, 19, 31, 32, 33, 34, 35, 36, 37, 38, 39, 40, 41, 42, 43, 44, 45, 46, 47, 48, 6, 49, 8, 55, 56, 57, 58, 59, 60, 61, 62, 63, 64, 65, 66, 67, 68, 69] (by decide +kernel) (by decide +kernel)
set_option maxRecDepth 20000 in
theorem gX7_commit_X4_putIntoLog : GoodIn wsX7_commit (wsV RX7 65 RX4 yX4_putIntoLog wsX4_putIntoLog) := goodIn_app (goodIn_of _ (by decide +kernel)) ggX7_commit_X4_putIntoLog
theorem dX7_commit_0 : decode cX7_commit 0 = .ok (.aload_n 0, 1) := by decide +kernel
theorem dX7_commit_1 : decode cX7_commit 1 = .ok (.getfield 21, 3) := by decide +kernel
theorem dX7_commit_4 : decode cX7_commit 4 = .ok (.iload_n 1, 1) := by decide +kernel
theorem dX7_commit_5 : decode cX7_commit 5 = .ok (.invokevirtual 43, 3) := by decide +kernel
theorem dX7_commit_8 : decode cX7_commit 8 = .ok (.ifCond .ne 5, 3) := by decide +kernel
theorem dX7_commit_11 : decode cX7_commit 11 = .ok (.iconst (-1), 1) := by decide +kernel
theorem dX7_commit_12 : decode cX7_commit 12 = .ok (.ireturn, 1) := by decide +kernel
theorem dX7_commit_13 : decode cX7_commit 13 = .ok (.aload_n 0, 1) := by decide +kernel
theorem dX7_commit_14 : decode cX7_commit 14 = .ok (.getfield 21, 3) := by decide +kernel
theorem dX7_commit_17 : decode cX7_commit 17 = .ok (.iload_n 1, 1) := by decide +kernel
theorem dX7_commit_18 : decode cX7_commit 18 = .ok (.invokevirtual 58, 3) := by decide +kernel
theorem dX7_commit_21 : decode cX7_commit 21 = .ok (.istore_n 2, 1) := by decide +kernel
theorem dX7_commit_22 : decode cX7_commit 22 = .ok (.aload_n 0, 1) := by decide +kernel
theorem dX7_commit_23 : decode cX7_commit 23 = .ok (.getfield 10, 3) := by decide +kernel
theorem dX7_commit_26 : decode cX7_commit 26 = .ok (.iload_n 2, 1) := by decide +kernel
theorem dX7_commit_27 : decode cX7_commit 27 = .ok (.invokevirtual 62, 3) := by decide +kernel
theorem dX7_commit_30 : decode cX7_commit 30 = .ok (.ifCond .ne 6, 3) := by decide +kernel
theorem dX7_commit_33 : decode cX7_commit 33 = .ok (.bipush (-3), 2) := by decide +kernel
theorem dX7_commit_35 : decode cX7_commit 35 = .ok (.ireturn, 1) := by decide +kernel
theorem dX7_commit_36 : decode cX7_commit 36 = .ok (.aload_n 0, 1) := by decide +kernel
theorem dX7_commit_37 : decode cX7_commit 37 = .ok (.getfield 21, 3) := by decide +kernel
theorem dX7_commit_40 : decode cX7_commit 40 = .ok (.iload_n 1, 1) := by decide +kernel
theorem dX7_commit_41 : decode cX7_commit 41 = .ok (.iload_n 2, 1) := by decide +kernel
theorem dX7_commit_42 : decode cX7_commit 42 = .ok (.invokevirtual 65, 3) := by decide +kernel
theorem dX7_commit_45 : decode cX7_commit 45 = .ok (.iload_n 2, 1) := by decide +kernel
theorem dX7_commit_46 : decode cX7_commit 46 = .ok (.ireturn, 1) := by decide +kernel
set_option maxRecDepth 20000 in
theorem ggX7_abort_X4_isOpen : GoodIn wsX7_abort wsX4_isOpen := goodIn_r _ [6, 7, 26, 27, 28, 29, 30, 31] (by decide +kernel) (by decide +kernel)
set_option maxRecDepth 20000 in
theorem gX7_abort_X4_isOpen : GoodIn wsX7_abort (wsV RX7 43 RX4 yX4_isOpen wsX4_isOpen) := goodIn_app (goodIn_of _ (by decide +kernel)) ggX7_abort_X4_isOpen
set_option maxRecDepth 20000 in
theorem ggX7_abort_X4_lockedKeys : GoodIn wsX7_abort wsX4_lockedKeys := goodIn_r _ [11, 12, 26, 27, 28, 29, 30, 31] (by decide +kernel) (by decide +kernel)
set_option maxRecDepth 20000 in
theorem gX7_abort_X4_lockedKeys : GoodIn wsX7_abort (wsV RX7 58 RX4 yX4_lockedKeys wsX4_lockedKeys) := goodIn_app (goodIn_of _ (by decide +kernel)) ggX7_abort_X4_lockedKeys
set_option maxRecDepth 20000 in
theorem ggX7_abort_X4_giveUp : GoodIn wsX7_abort wsX4_giveUp := goodIn_r _ [16, 17, 18, 19, 5, 20, 12, 7, 26, 27, 28, 29, 30, 31] (by decide +kernel) (by decide +kernel)
set_option maxRecDepth 20000 in
theorem gX7_abort_X4_giveUp : GoodIn wsX7_abort (wsV RX7 69 RX4 yX4_giveUp wsX4_giveUp) := goodIn_app (goodIn_of _ (by decide +kernel)) ggX7_abort_X4_giveUp
theorem dX7_abort_0 : decode cX7_abort 0 = .ok (.aload_n 0, 1) := by decide +kernel
theorem dX7_abort_1 : decode cX7_abort 1 = .ok (.getfield 21, 3) := by decide +kernel
theorem dX7_abort_4 : decode cX7_abort 4 = .ok (.iload_n 1, 1) := by decide +kernel
theorem dX7_abort_5 : decode cX7_abort 5 = .ok (.invokevirtual 43, 3) := by decide +kernel
theorem dX7_abort_8 : decode cX7_abort 8 = .ok (.ifCond .ne 5, 3) := by decide +kernel
theorem dX7_abort_11 : decode cX7_abort 11 = .ok (.iconst (-1), 1) := by decide +kernel
theorem dX7_abort_12 : decode cX7_abort 12 = .ok (.ireturn, 1) := by decide +kernel
theorem dX7_abort_13 : decode cX7_abort 13 = .ok (.aload_n 0, 1) := by decide +kernel
theorem dX7_abort_14 : decode cX7_abort 14 = .ok (.getfield 21, 3) := by decide +kernel
theorem dX7_abort_17 : decode cX7_abort 17 = .ok (.iload_n 1, 1) := by decide +kernel
theorem dX7_abort_18 : decode cX7_abort 18 = .ok (.invokevirtual 58, 3) := by decide +kernel
theorem dX7_abort_21 : decode cX7_abort 21 = .ok (.istore_n 2, 1) := by decide +kernel
theorem dX7_abort_22 : decode cX7_abort 22 = .ok (.aload_n 0, 1) := by decide +kernel
theorem dX7_abort_23 : decode cX7_abort 23 = .ok (.getfield 21, 3) := by decide +kernel
theorem dX7_abort_26 : decode cX7_abort 26 = .ok (.iload_n 1, 1) := by decide +kernel
theorem dX7_abort_27 : decode cX7_abort 27 = .ok (.invokevirtual 69, 3) := by decide +kernel
theorem dX7_abort_30 : decode cX7_abort 30 = .ok (.iload_n 2, 1) := by decide +kernel
theorem dX7_abort_31 : decode cX7_abort 31 = .ok (.ireturn, 1) := by decide +kernel
set_option maxRecDepth 20000 in
theorem ggX7_flush_X4_flushChanges : GoodIn wsX7_flush wsX4_flushChanges := goodIn_r _ [6, 7, 8, 9, 10, 11, 12, 13, 14, 15, 16, 17, 18, 19, 20, 26, 27, 28, 29, 30, 31, 32, 33, 34, 35, 36, 37, 38, 39, 40] (by decide +kernel) (by decide +kernel)
set_option maxRecDepth 20000 in
theorem gX7_flush_X4_flushChanges : GoodIn wsX7_flush (wsV RX7 73 RX4 yX4_flushChanges wsX4_flushChanges) := goodIn_app (goodIn_of _ (by decide +kernel)) ggX7_flush_X4_flushChanges
theorem dX7_flush_0 : decode cX7_flush 0 = .ok (.aload_n 0, 1) := by decide +kernel
theorem dX7_flush_1 : decode cX7_flush 1 = .ok (.getfield 21, 3) := by decide +kernel
theorem dX7_flush_4 : decode cX7_flush 4 = .ok (.invokevirtual 73, 3) := by decide +kernel
theorem dX7_flush_7 : decode cX7_flush 7 = .ok (.ireturn, 1) := by decide +kernel
set_option maxRecDepth 20000 in
theorem ggX7_crash_X4_restart : GoodIn wsX7_crash wsX4_restart := goodIn_r _ [9, 10, 11, 12, 13, 14, 15, 16, 17, 18, 19, 20, 21, 22, 23, 58, 59, 60, 61, 62, 63, 64, 65, 66, 67] (by decide +kernel) (by decide +kernel)
set_option maxRecDepth 20000 in
theorem gX7_crash_X4_restart : GoodIn wsX7_crash (wsV RX7 80 RX4 yX4_restart wsX4_restart) := goodIn_app (goodIn_of _ (by decide +kernel)) ggX7_crash_X4_restart
set_option maxRecDepth 20000 in
theorem ggX7_crash_X2_restart : GoodIn wsX7_crash wsX2_restart := goodIn_r _ [28, 29, 30, 68, 69, 70, 71, 72, 73] (by decide +kernel) (by decide +kernel)
set_option maxRecDepth 20000 in
theorem gX7_crash_X2_restart : GoodIn wsX7_crash (wsV RX7 83 RX2 yX2_restart wsX2_restart) := goodIn_app (goodIn_of _ (by decide +kernel)) ggX7_crash_X2_restart
set_option maxRecDepth 20000 in
theorem ggX7_crash_X5_restart : GoodIn wsX7_crash wsX5_restart := goodIn_r _ [35, 36, 37, 38, 39, 40, 41, 42, 43, 44, 45, 46, 47, 48, 49, 50, 51, 52, 74, 75, 76, 77, 78, 79, 80, 81, 82, 83, 84, 85] (by decide +kernel) (by decide +kernel)
set_option maxRecDepth 20000 in
theorem gX7_crash_X5_restart : GoodIn wsX7_crash (wsV RX7 84 RX5 yX5_restart wsX5_restart) := goodIn_app (goodIn_of _ (by decide +kernel)) ggX7_crash_X5_restart
theorem dX7_crash_0 : decode cX7_crash 0 = .ok (.iload_n 1, 1) := by decide +kernel
theorem dX7_crash_1 : decode cX7_crash 1 = .ok (.ifCond .lt 8, 3) := by decide +kernel
theorem dX7_crash_4 : decode cX7_crash 4 = .ok (.iload_n 1, 1) := by decide +kernel
theorem dX7_crash_5 : decode cX7_crash 5 = .ok (.iconst 2, 1) := by decide +kernel
theorem dX7_crash_6 : decode cX7_crash 6 = .ok (.if_icmp .le 5, 3) := by decide +kernel
theorem dX7_crash_9 : decode cX7_crash 9 = .ok (.iconst (-1), 1) := by decide +kernel
theorem dX7_crash_10 : decode cX7_crash 10 = .ok (.ireturn, 1) := by decide +kernel
theorem dX7_crash_11 : decode cX7_crash 11 = .ok (.aload_n 0, 1) := by decide +kernel
theorem dX7_crash_12 : decode cX7_crash 12 = .ok (.dup, 1) := by decide +kernel
theorem dX7_crash_13 : decode cX7_crash 13 = .ok (.getfield 76, 3) := by decide +kernel
theorem dX7_crash_16 : decode cX7_crash 16 = .ok (.iconst 1, 1) := by decide +kernel
theorem dX7_crash_17 : decode cX7_crash 17 = .ok (.iadd, 1) := by decide +kernel
theorem dX7_crash_18 : decode cX7_crash 18 = .ok (.putfield 76, 3) := by decide +kernel
theorem dX7_crash_21 : decode cX7_crash 21 = .ok (.iload_n 1, 1) := by decide +kernel
theorem dX7_crash_22 : decode cX7_crash 22 = .ok (.lookupswitch 42 #[(0, 26), (1, 34)], 26) := by decide +kernel
theorem dX7_crash_48 : decode cX7_crash 48 = .ok (.aload_n 0, 1) := by decide +kernel
theorem dX7_crash_49 : decode cX7_crash 49 = .ok (.getfield 21, 3) := by decide +kernel
theorem dX7_crash_52 : decode cX7_crash 52 = .ok (.invokevirtual 80, 3) := by decide +kernel
theorem dX7_crash_55 : decode cX7_crash 55 = .ok (.ireturn, 1) := by decide +kernel
theorem dX7_crash_56 : decode cX7_crash 56 = .ok (.aload_n 0, 1) := by decide +kernel
theorem dX7_crash_57 : decode cX7_crash 57 = .ok (.getfield 28, 3) := by decide +kernel
theorem dX7_crash_60 : decode cX7_crash 60 = .ok (.invokevirtual 83, 3) := by decide +kernel
theorem dX7_crash_63 : decode cX7_crash 63 = .ok (.ireturn, 1) := by decide +kernel
theorem dX7_crash_64 : decode cX7_crash 64 = .ok (.aload_n 0, 1) := by decide +kernel
theorem dX7_crash_65 : decode cX7_crash 65 = .ok (.getfield 35, 3) := by decide +kernel
theorem dX7_crash_68 : decode cX7_crash 68 = .ok (.invokevirtual 84, 3) := by decide +kernel
theorem dX7_crash_71 : decode cX7_crash 71 = .ok (.ireturn, 1) := by decide +kernel
set_option maxRecDepth 20000 in
theorem ggX7_key_X7_isKey : GoodIn wsX7_key wsX7_isKey := goodIn_r _ [6] (by decide +kernel) (by decide +kernel)
set_option maxRecDepth 20000 in
theorem gX7_key_X7_isKey : GoodIn wsX7_key (va_wsS RX7 47 yX7_isKey wsX7_isKey) := goodIn_app (goodIn_of _ (by decide +kernel)) ggX7_key_X7_isKey
set_option maxRecDepth 20000 in
theorem ggX7_key_X4_lockOf : GoodIn wsX7_key wsX4_lockOf := goodIn_r _ [11, 12, 18, 19, 20, 21, 22, 23] (by decide +kernel) (by decide +kernel)
set_option maxRecDepth 20000 in
theorem gX7_key_X4_lockOf : GoodIn wsX7_key (wsV RX7 92 RX4 yX4_lockOf wsX4_lockOf) := goodIn_app (goodIn_of _ (by decide +kernel)) ggX7_key_X4_lockOf
theorem dX7_key_0 : decode cX7_key 0 = .ok (.iload_n 1, 1) := by decide +kernel
theorem dX7_key_1 : decode cX7_key 1 = .ok (.invokestatic 47, 3) := by decide +kernel
theorem dX7_key_4 : decode cX7_key 4 = .ok (.ifCond .ne 5, 3) := by decide +kernel
theorem dX7_key_7 : decode cX7_key 7 = .ok (.iconst 0, 1) := by decide +kernel
theorem dX7_key_8 : decode cX7_key 8 = .ok (.ireturn, 1) := by decide +kernel
theorem dX7_key_9 : decode cX7_key 9 = .ok (.iload_n 2, 1) := by decide +kernel
theorem dX7_key_10 : decode cX7_key 10 = .ok (.tableswitch 123 0 6 #[42, 52, 62, 71, 84, 97, 110], 42) := by decide +kernel
theorem dX7_key_52 : decode cX7_key 52 = .ok (.aload_n 0, 1) := by decide +kernel
theorem dX7_key_53 : decode cX7_key 53 = .ok (.getfield 21, 3) := by decide +kernel
theorem dX7_key_56 : decode cX7_key 56 = .ok (.getfield 85, 3) := by decide +kernel
theorem dX7_key_59 : decode cX7_key 59 = .ok (.iload_n 1, 1) := by decide +kernel
theorem dX7_key_60 : decode cX7_key 60 = .ok (.iaload, 1) := by decide +kernel
theorem dX7_key_61 : decode cX7_key 61 = .ok (.ireturn, 1) := by decide +kernel
theorem dX7_key_62 : decode cX7_key 62 = .ok (.aload_n 0, 1) := by decide +kernel
theorem dX7_key_63 : decode cX7_key 63 = .ok (.getfield 21, 3) := by decide +kernel
theorem dX7_key_66 : decode cX7_key 66 = .ok (.getfield 89, 3) := by decide +kernel
theorem dX7_key_69 : decode cX7_key 69 = .ok (.iload_n 1, 1) := by decide +kernel
theorem dX7_key_70 : decode cX7_key 70 = .ok (.iaload, 1) := by decide +kernel
theorem dX7_key_71 : decode cX7_key 71 = .ok (.ireturn, 1) := by decide +kernel
theorem dX7_key_72 : decode cX7_key 72 = .ok (.aload_n 0, 1) := by decide +kernel
theorem dX7_key_73 : decode cX7_key 73 = .ok (.getfield 21, 3) := by decide +kernel
theorem dX7_key_76 : decode cX7_key 76 = .ok (.iload_n 1, 1) := by decide +kernel
theorem dX7_key_77 : decode cX7_key 77 = .ok (.invokevirtual 92, 3) := by decide +kernel
theorem dX7_key_80 : decode cX7_key 80 = .ok (.ireturn, 1) := by decide +kernel
theorem dX7_key_81 : decode cX7_key 81 = .ok (.aload_n 0, 1) := by decide +kernel
theorem dX7_key_82 : decode cX7_key 82 = .ok (.getfield 35, 3) := by decide +kernel
theorem dX7_key_85 : decode cX7_key 85 = .ok (.getfield 95, 3) := by decide +kernel
theorem dX7_key_88 : decode cX7_key 88 = .ok (.getfield 99, 3) := by decide +kernel
theorem dX7_key_91 : decode cX7_key 91 = .ok (.iload_n 1, 1) := by decide +kernel
theorem dX7_key_92 : decode cX7_key 92 = .ok (.iaload, 1) := by decide +kernel
theorem dX7_key_93 : decode cX7_key 93 = .ok (.ireturn, 1) := by decide +kernel
theorem dX7_key_94 : decode cX7_key 94 = .ok (.aload_n 0, 1) := by decide +kernel
theorem dX7_key_95 : decode cX7_key 95 = .ok (.getfield 35, 3) := by decide +kernel
theorem dX7_key_98 : decode cX7_key 98 = .ok (.getfield 95, 3) := by decide +kernel
theorem dX7_key_101 : decode cX7_key 101 = .ok (.getfield 102, 3) := by decide +kernel
theorem dX7_key_104 : decode cX7_key 104 = .ok (.iload_n 1, 1) := by decide +kernel
theorem dX7_key_105 : decode cX7_key 105 = .ok (.iaload, 1) := by decide +kernel
theorem dX7_key_106 : decode cX7_key 106 = .ok (.ireturn, 1) := by decide +kernel
theorem dX7_key_107 : decode cX7_key 107 = .ok (.aload_n 0, 1) := by decide +kernel
theorem dX7_key_108 : decode cX7_key 108 = .ok (.getfield 35, 3) := by decide +kernel
theorem dX7_key_111 : decode cX7_key 111 = .ok (.getfield 105, 3) := by decide +kernel
theorem dX7_key_114 : decode cX7_key 114 = .ok (.getfield 99, 3) := by decide +kernel
theorem dX7_key_117 : decode cX7_key 117 = .ok (.iload_n 1, 1) := by decide +kernel
theorem dX7_key_118 : decode cX7_key 118 = .ok (.iaload, 1) := by decide +kernel
theorem dX7_key_119 : decode cX7_key 119 = .ok (.ireturn, 1) := by decide +kernel
theorem dX7_key_120 : decode cX7_key 120 = .ok (.aload_n 0, 1) := by decide +kernel
theorem dX7_key_121 : decode cX7_key 121 = .ok (.getfield 35, 3) := by decide +kernel
theorem dX7_key_124 : decode cX7_key 124 = .ok (.getfield 105, 3) := by decide +kernel
theorem dX7_key_127 : decode cX7_key 127 = .ok (.getfield 102, 3) := by decide +kernel
theorem dX7_key_130 : decode cX7_key 130 = .ok (.iload_n 1, 1) := by decide +kernel
theorem dX7_key_131 : decode cX7_key 131 = .ok (.iaload, 1) := by decide +kernel
theorem dX7_key_132 : decode cX7_key 132 = .ok (.ireturn, 1) := by decide +kernel
theorem dX7_key_133 : decode cX7_key 133 = .ok (.iconst 0, 1) := by decide +kernel
theorem dX7_key_134 : decode cX7_key 134 = .ok (.ireturn, 1) := by decide +kernel
set_option maxRecDepth 20000 in
theorem ggX7_log_X1_at : GoodIn wsX7_log wsX1_at := goodIn_r _ [10, 11, 12, 33, 34, 35, 36] (by decide +kernel) (by decide +kernel)
set_option maxRecDepth 20000 in
theorem gX7_log_X1_at : GoodIn wsX7_log (wsV RX7 108 RX1 yX1_at wsX1_at) := goodIn_app (goodIn_of _ (by decide +kernel)) ggX7_log_X1_at
set_option maxRecDepth 20000 in
theorem ggX7_log_X1_isCut : GoodIn wsX7_log wsX1_isCut := goodIn_r _ [16, 17, 33, 34, 35, 36] (by decide +kernel) (by decide +kernel)
set_option maxRecDepth 20000 in
theorem gX7_log_X1_isCut : GoodIn wsX7_log (wsV RX7 112 RX1 yX1_isCut wsX1_isCut) := goodIn_app (goodIn_of _ (by decide +kernel)) ggX7_log_X1_isCut
set_option maxRecDepth 20000 in
theorem ggX7_log_X1_isFlushed : GoodIn wsX7_log wsX1_isFlushed := goodIn_r _ [21, 22, 33, 34, 35, 36] (by decide +kernel) (by decide +kernel)
set_option maxRecDepth 20000 in
theorem gX7_log_X1_isFlushed : GoodIn wsX7_log (wsV RX7 126 RX1 yX1_isFlushed wsX1_isFlushed) := goodIn_app (goodIn_of _ (by decide +kernel)) ggX7_log_X1_isFlushed
theorem dX7_log_0 : decode cX7_log 0 = .ok (.iload_n 2, 1) := by decide +kernel
theorem dX7_log_1 : decode cX7_log 1 = .ok (.ifCond .lt 8, 3) := by decide +kernel
theorem dX7_log_4 : decode cX7_log 4 = .ok (.iload_n 2, 1) := by decide +kernel
theorem dX7_log_5 : decode cX7_log 5 = .ok (.iconst 4, 1) := by decide +kernel
theorem dX7_log_6 : decode cX7_log 6 = .ok (.if_icmp .le 5, 3) := by decide +kernel
theorem dX7_log_9 : decode cX7_log 9 = .ok (.iconst (-1), 1) := by decide +kernel
theorem dX7_log_10 : decode cX7_log 10 = .ok (.ireturn, 1) := by decide +kernel
theorem dX7_log_11 : decode cX7_log 11 = .ok (.aload_n 0, 1) := by decide +kernel
theorem dX7_log_12 : decode cX7_log 12 = .ok (.getfield 10, 3) := by decide +kernel
theorem dX7_log_15 : decode cX7_log 15 = .ok (.iload_n 1, 1) := by decide +kernel
theorem dX7_log_16 : decode cX7_log 16 = .ok (.invokevirtual 108, 3) := by decide +kernel
theorem dX7_log_19 : decode cX7_log 19 = .ok (.astore_n 3, 1) := by decide +kernel
theorem dX7_log_20 : decode cX7_log 20 = .ok (.aload_n 3, 1) := by decide +kernel
theorem dX7_log_21 : decode cX7_log 21 = .ok (.ifnull 14, 3) := by decide +kernel
theorem dX7_log_24 : decode cX7_log 24 = .ok (.aload_n 0, 1) := by decide +kernel
theorem dX7_log_25 : decode cX7_log 25 = .ok (.getfield 10, 3) := by decide +kernel
theorem dX7_log_28 : decode cX7_log 28 = .ok (.iload_n 1, 1) := by decide +kernel
theorem dX7_log_29 : decode cX7_log 29 = .ok (.invokevirtual 112, 3) := by decide +kernel
theorem dX7_log_32 : decode cX7_log 32 = .ok (.ifCond .eq 6, 3) := by decide +kernel
theorem dX7_log_35 : decode cX7_log 35 = .ok (.bipush (-9), 2) := by decide +kernel
theorem dX7_log_37 : decode cX7_log 37 = .ok (.ireturn, 1) := by decide +kernel
theorem dX7_log_38 : decode cX7_log 38 = .ok (.iload_n 2, 1) := by decide +kernel
theorem dX7_log_39 : decode cX7_log 39 = .ok (.tableswitch 61 0 3 #[29, 34, 39, 44], 29) := by decide +kernel
theorem dX7_log_68 : decode cX7_log 68 = .ok (.aload_n 3, 1) := by decide +kernel
theorem dX7_log_69 : decode cX7_log 69 = .ok (.getfield 115, 3) := by decide +kernel
theorem dX7_log_72 : decode cX7_log 72 = .ok (.ireturn, 1) := by decide +kernel
theorem dX7_log_73 : decode cX7_log 73 = .ok (.aload_n 3, 1) := by decide +kernel
theorem dX7_log_74 : decode cX7_log 74 = .ok (.getfield 120, 3) := by decide +kernel
theorem dX7_log_77 : decode cX7_log 77 = .ok (.ireturn, 1) := by decide +kernel
theorem dX7_log_78 : decode cX7_log 78 = .ok (.aload_n 3, 1) := by decide +kernel
theorem dX7_log_79 : decode cX7_log 79 = .ok (.getfield 123, 3) := by decide +kernel
theorem dX7_log_82 : decode cX7_log 82 = .ok (.ireturn, 1) := by decide +kernel
theorem dX7_log_83 : decode cX7_log 83 = .ok (.aload_n 0, 1) := by decide +kernel
theorem dX7_log_84 : decode cX7_log 84 = .ok (.getfield 10, 3) := by decide +kernel
theorem dX7_log_87 : decode cX7_log 87 = .ok (.iload_n 1, 1) := by decide +kernel
theorem dX7_log_88 : decode cX7_log 88 = .ok (.invokevirtual 126, 3) := by decide +kernel
theorem dX7_log_91 : decode cX7_log 91 = .ok (.ifCond .eq 7, 3) := by decide +kernel
theorem dX7_log_94 : decode cX7_log 94 = .ok (.iconst 1, 1) := by decide +kernel
theorem dX7_log_95 : decode cX7_log 95 = .ok (.goto 4, 3) := by decide +kernel
theorem dX7_log_98 : decode cX7_log 98 = .ok (.iconst 0, 1) := by decide +kernel
theorem dX7_log_99 : decode cX7_log 99 = .ok (.ireturn, 1) := by decide +kernel
theorem dX7_log_100 : decode cX7_log 100 = .ok (.aload_n 3, 1) := by decide +kernel
theorem dX7_log_101 : decode cX7_log 101 = .ok (.getfield 129, 3) := by decide +kernel
theorem dX7_log_104 : decode cX7_log 104 = .ok (.ifCond .eq 7, 3) := by decide +kernel
theorem dX7_log_107 : decode cX7_log 107 = .ok (.iconst 1, 1) := by decide +kernel
theorem dX7_log_108 : decode cX7_log 108 = .ok (.goto 4, 3) := by decide +kernel
theorem dX7_log_111 : decode cX7_log 111 = .ok (.iconst 0, 1) := by decide +kernel
theorem dX7_log_112 : decode cX7_log 112 = .ok (.ireturn, 1) := by decide +kernel
set_option maxRecDepth 20000 in
theorem ggX7_relay_X2_readOn : GoodIn wsX7_relay wsX2_readOn := goodIn_r _ [6, 7, 8, 9, 5, 10, 11, 12, 13, 14, 15, 16, 17, 18, 19, 20, 21, 22, 23, 24, 25, 26, 27, 28, 29, 30, 31, 32, 33, 39, 40, 41, 42, 43, 44, 45, 46, 47, 48, 49, 50, 51, 52, 53, 54, 55] (by decide +kernel) (by decide +kernel)
set_option maxRecDepth 20000 in
theorem gX7_relay_X2_readOn : GoodIn wsX7_relay (wsV RX7 133 RX2 yX2_readOn wsX2_readOn) := goodIn_app (goodIn_of _ (by decide +kernel)) ggX7_relay_X2_readOn
theorem dX7_relay_0 : decode cX7_relay 0 = .ok (.iload_n 1, 1) := by decide +kernel
theorem dX7_relay_1 : decode cX7_relay 1 = .ok (.iconst 1, 1) := by decide +kernel
theorem dX7_relay_2 : decode cX7_relay 2 = .ok (.if_icmp .lt 9, 3) := by decide +kernel
theorem dX7_relay_5 : decode cX7_relay 5 = .ok (.iload_n 1, 1) := by decide +kernel
theorem dX7_relay_6 : decode cX7_relay 6 = .ok (.bipush 20, 2) := by decide +kernel
theorem dX7_relay_8 : decode cX7_relay 8 = .ok (.if_icmp .le 5, 3) := by decide +kernel
theorem dX7_relay_11 : decode cX7_relay 11 = .ok (.iconst (-1), 1) := by decide +kernel
theorem dX7_relay_12 : decode cX7_relay 12 = .ok (.ireturn, 1) := by decide +kernel
theorem dX7_relay_13 : decode cX7_relay 13 = .ok (.aload_n 0, 1) := by decide +kernel
theorem dX7_relay_14 : decode cX7_relay 14 = .ok (.getfield 28, 3) := by decide +kernel
theorem dX7_relay_17 : decode cX7_relay 17 = .ok (.iload_n 1, 1) := by decide +kernel
theorem dX7_relay_18 : decode cX7_relay 18 = .ok (.invokevirtual 133, 3) := by decide +kernel
theorem dX7_relay_21 : decode cX7_relay 21 = .ok (.ireturn, 1) := by decide +kernel
set_option maxRecDepth 20000 in
theorem ggX7_cut_X1_cutUpTo : GoodIn wsX7_cut wsX1_cutUpTo := goodIn_r _ [7, 8, 20, 21, 22, 23] (by decide +kernel) (by decide +kernel)
set_option maxRecDepth 20000 in
theorem gX7_cut_X1_cutUpTo : GoodIn wsX7_cut (wsV RX7 139 RX1 yX1_cutUpTo wsX1_cutUpTo) := goodIn_app (goodIn_of _ (by decide +kernel)) ggX7_cut_X1_cutUpTo
theorem dX7_cut_0 : decode cX7_cut 0 = .ok (.aload_n 0, 1) := by decide +kernel
theorem dX7_cut_1 : decode cX7_cut 1 = .ok (.getfield 10, 3) := by decide +kernel
theorem dX7_cut_4 : decode cX7_cut 4 = .ok (.aload_n 0, 1) := by decide +kernel
theorem dX7_cut_5 : decode cX7_cut 5 = .ok (.getfield 28, 3) := by decide +kernel
theorem dX7_cut_8 : decode cX7_cut 8 = .ok (.getfield 136, 3) := by decide +kernel
theorem dX7_cut_11 : decode cX7_cut 11 = .ok (.invokevirtual 139, 3) := by decide +kernel
theorem dX7_cut_14 : decode cX7_cut 14 = .ok (.ireturn, 1) := by decide +kernel
set_option maxRecDepth 20000 in
theorem ggX7_deliver_X2_letterAt : GoodIn wsX7_deliver wsX2_letterAt := goodIn_r _ [7, 8, 9, 10, 11, 12, 13, 14, 15, 16, 17, 18, 92, 93, 94, 95, 96, 97, 98, 99] (by decide +kernel) (by decide +kernel)
set_option maxRecDepth 20000 in
theorem gX7_deliver_X2_letterAt : GoodIn wsX7_deliver (wsV RX7 142 RX2 yX2_letterAt wsX2_letterAt) := goodIn_app (goodIn_of _ (by decide +kernel)) ggX7_deliver_X2_letterAt
set_option maxRecDepth 20000 in
theorem ggX7_deliver_X2_dropLetter : GoodIn wsX7_deliver wsX2_dropLetter := goodIn_r _ [22, 8, 9, 10, 11, 23, 24, 25, 15, 26, 17, 18, 92, 93, 94, 95, 96, 97, 98, 99] (by decide +kernel) (by decide +kernel)
set_option maxRecDepth 20000 in
theorem gX7_deliver_X2_dropLetter : GoodIn wsX7_deliver (wsV RX7 146 RX2 yX2_dropLetter wsX2_dropLetter) := goodIn_app (goodIn_of _ (by decide +kernel)) ggX7_deliver_X2_dropLetter
set_option maxRecDepth 20000 in
theorem ggX7_deliver_X5_take : GoodIn wsX7_deliver wsX5_take := goodIn_r _ [31, 32, 33, 34, 35, 36, 37, 38, 39, 40, 41, 42, 43, 44, 45, 46, 47, 48, 15, 49, 17, 18, 50, 51, 52, 53, 54, 30, 55, 56, 57, 58, 59, 60, 61, 62, 63, 64, 65, 66, 67, 68, 69, 70, 71, 72, 73, 74, 75, 76, 77, 13, 14, 16, 78, 24, 25, 26, 79, 80, 81, 82, 83, 84, 85, 86, 100, 101, 102, 103, 104, 105, 106, 107, 108, 109, 110, 111, 112, 113, 114, 98, 99, 115, 116, 117, 118] (by decide +kernel) (by decide +kernel)
set_option maxRecDepth 20000 in
theorem gX7_deliver_X5_take : GoodIn wsX7_deliver (wsV RX7 149 RX5 yX5_take wsX5_take) := goodIn_app (goodIn_of _ (by decide +kernel)) ggX7_deliver_X5_take
theorem dX7_deliver_0 : decode cX7_deliver 0 = .ok (.aload_n 0, 1) := by decide +kernel
theorem dX7_deliver_1 : decode cX7_deliver 1 = .ok (.getfield 28, 3) := by decide +kernel
theorem dX7_deliver_4 : decode cX7_deliver 4 = .ok (.iload_n 1, 1) := by decide +kernel
theorem dX7_deliver_5 : decode cX7_deliver 5 = .ok (.iload_n 2, 1) := by decide +kernel
theorem dX7_deliver_6 : decode cX7_deliver 6 = .ok (.invokevirtual 142, 3) := by decide +kernel
theorem dX7_deliver_9 : decode cX7_deliver 9 = .ok (.astore 4, 2) := by decide +kernel
theorem dX7_deliver_11 : decode cX7_deliver 11 = .ok (.aload 4, 2) := by decide +kernel
theorem dX7_deliver_13 : decode cX7_deliver 13 = .ok (.ifnonnull 5, 3) := by decide +kernel
theorem dX7_deliver_16 : decode cX7_deliver 16 = .ok (.iconst (-1), 1) := by decide +kernel
theorem dX7_deliver_17 : decode cX7_deliver 17 = .ok (.ireturn, 1) := by decide +kernel
theorem dX7_deliver_18 : decode cX7_deliver 18 = .ok (.iload_n 3, 1) := by decide +kernel
theorem dX7_deliver_19 : decode cX7_deliver 19 = .ok (.ifCond .ne 12, 3) := by decide +kernel
theorem dX7_deliver_22 : decode cX7_deliver 22 = .ok (.aload_n 0, 1) := by decide +kernel
theorem dX7_deliver_23 : decode cX7_deliver 23 = .ok (.getfield 28, 3) := by decide +kernel
theorem dX7_deliver_26 : decode cX7_deliver 26 = .ok (.iload_n 1, 1) := by decide +kernel
theorem dX7_deliver_27 : decode cX7_deliver 27 = .ok (.iload_n 2, 1) := by decide +kernel
theorem dX7_deliver_28 : decode cX7_deliver 28 = .ok (.invokevirtual 146, 3) := by decide +kernel
theorem dX7_deliver_31 : decode cX7_deliver 31 = .ok (.aload_n 0, 1) := by decide +kernel
theorem dX7_deliver_32 : decode cX7_deliver 32 = .ok (.getfield 35, 3) := by decide +kernel
theorem dX7_deliver_35 : decode cX7_deliver 35 = .ok (.aload 4, 2) := by decide +kernel
theorem dX7_deliver_37 : decode cX7_deliver 37 = .ok (.invokevirtual 149, 3) := by decide +kernel
theorem dX7_deliver_40 : decode cX7_deliver 40 = .ok (.ireturn, 1) := by decide +kernel
set_option maxRecDepth 20000 in
theorem ggX7_lose_X2_letterAt : GoodIn wsX7_lose wsX2_letterAt := goodIn_r _ [7, 8, 9, 10, 11, 12, 13, 14, 15, 16, 17, 18, 32, 33, 34, 35, 36, 37, 43, 44] (by decide +kernel) (by decide +kernel)
set_option maxRecDepth 20000 in
theorem gX7_lose_X2_letterAt : GoodIn wsX7_lose (wsV RX7 142 RX2 yX2_letterAt wsX2_letterAt) := goodIn_app (goodIn_of _ (by decide +kernel)) ggX7_lose_X2_letterAt
set_option maxRecDepth 20000 in
theorem ggX7_lose_X2_dropLetter : GoodIn wsX7_lose wsX2_dropLetter := goodIn_r _ [22, 8, 9, 10, 11, 23, 24, 25, 15, 26, 17, 18, 32, 33, 34, 35, 36, 37, 43, 44] (by decide +kernel) (by decide +kernel)
set_option maxRecDepth 20000 in
theorem gX7_lose_X2_dropLetter : GoodIn wsX7_lose (wsV RX7 146 RX2 yX2_dropLetter wsX2_dropLetter) := goodIn_app (goodIn_of _ (by decide +kernel)) ggX7_lose_X2_dropLetter
theorem dX7_lose_0 : decode cX7_lose 0 = .ok (.aload_n 0, 1) := by decide +kernel
theorem dX7_lose_1 : decode cX7_lose 1 = .ok (.getfield 28, 3) := by decide +kernel
theorem dX7_lose_4 : decode cX7_lose 4 = .ok (.iload_n 1, 1) := by decide +kernel
theorem dX7_lose_5 : decode cX7_lose 5 = .ok (.iload_n 2, 1) := by decide +kernel
theorem dX7_lose_6 : decode cX7_lose 6 = .ok (.invokevirtual 142, 3) := by decide +kernel
theorem dX7_lose_9 : decode cX7_lose 9 = .ok (.astore_n 3, 1) := by decide +kernel
theorem dX7_lose_10 : decode cX7_lose 10 = .ok (.aload_n 3, 1) := by decide +kernel
theorem dX7_lose_11 : decode cX7_lose 11 = .ok (.ifnonnull 5, 3) := by decide +kernel
theorem dX7_lose_14 : decode cX7_lose 14 = .ok (.iconst (-1), 1) := by decide +kernel
theorem dX7_lose_15 : decode cX7_lose 15 = .ok (.ireturn, 1) := by decide +kernel
theorem dX7_lose_16 : decode cX7_lose 16 = .ok (.aload_n 0, 1) := by decide +kernel
theorem dX7_lose_17 : decode cX7_lose 17 = .ok (.getfield 28, 3) := by decide +kernel
theorem dX7_lose_20 : decode cX7_lose 20 = .ok (.iload_n 1, 1) := by decide +kernel
theorem dX7_lose_21 : decode cX7_lose 21 = .ok (.iload_n 2, 1) := by decide +kernel
theorem dX7_lose_22 : decode cX7_lose 22 = .ok (.invokevirtual 146, 3) := by decide +kernel
theorem dX7_lose_25 : decode cX7_lose 25 = .ok (.aload_n 0, 1) := by decide +kernel
theorem dX7_lose_26 : decode cX7_lose 26 = .ok (.getfield 28, 3) := by decide +kernel
theorem dX7_lose_29 : decode cX7_lose 29 = .ok (.dup, 1) := by decide +kernel
theorem dX7_lose_30 : decode cX7_lose 30 = .ok (.getfield 153, 3) := by decide +kernel
theorem dX7_lose_33 : decode cX7_lose 33 = .ok (.iconst 1, 1) := by decide +kernel
theorem dX7_lose_34 : decode cX7_lose 34 = .ok (.iadd, 1) := by decide +kernel
theorem dX7_lose_35 : decode cX7_lose 35 = .ok (.putfield 153, 3) := by decide +kernel
theorem dX7_lose_38 : decode cX7_lose 38 = .ok (.aload_n 3, 1) := by decide +kernel
theorem dX7_lose_39 : decode cX7_lose 39 = .ok (.getfield 156, 3) := by decide +kernel
theorem dX7_lose_42 : decode cX7_lose 42 = .ok (.ireturn, 1) := by decide +kernel
set_option maxRecDepth 20000 in
theorem ggX7_letter_X7_isLane : GoodIn wsX7_letter wsX7_isLane := goodIn_r _ [9] (by decide +kernel) (by decide +kernel)
set_option maxRecDepth 20000 in
theorem gX7_letter_X7_isLane : GoodIn wsX7_letter (va_wsS RX7 159 yX7_isLane wsX7_isLane) := goodIn_app (goodIn_of _ (by decide +kernel)) ggX7_letter_X7_isLane
set_option maxRecDepth 20000 in
theorem ggX7_letter_X2_letterAt : GoodIn wsX7_letter wsX2_letterAt := goodIn_r _ [14, 15, 7, 8, 9, 16, 17, 18, 19, 20, 21, 22, 33, 34, 35, 36, 37, 38, 39, 40] (by decide +kernel) (by decide +kernel)
set_option maxRecDepth 20000 in
theorem gX7_letter_X2_letterAt : GoodIn wsX7_letter (wsV RX7 142 RX2 yX2_letterAt wsX2_letterAt) := goodIn_app (goodIn_of _ (by decide +kernel)) ggX7_letter_X2_letterAt
theorem dX7_letter_0 : decode cX7_letter 0 = .ok (.iload_n 1, 1) := by decide +kernel
theorem dX7_letter_1 : decode cX7_letter 1 = .ok (.invokestatic 159, 3) := by decide +kernel
theorem dX7_letter_4 : decode cX7_letter 4 = .ok (.ifCond .eq 12, 3) := by decide +kernel
theorem dX7_letter_7 : decode cX7_letter 7 = .ok (.iload_n 3, 1) := by decide +kernel
theorem dX7_letter_8 : decode cX7_letter 8 = .ok (.ifCond .lt 8, 3) := by decide +kernel
theorem dX7_letter_11 : decode cX7_letter 11 = .ok (.iload_n 3, 1) := by decide +kernel
theorem dX7_letter_12 : decode cX7_letter 12 = .ok (.iconst 3, 1) := by decide +kernel
theorem dX7_letter_13 : decode cX7_letter 13 = .ok (.if_icmp .le 5, 3) := by decide +kernel
theorem dX7_letter_16 : decode cX7_letter 16 = .ok (.iconst (-1), 1) := by decide +kernel
theorem dX7_letter_17 : decode cX7_letter 17 = .ok (.ireturn, 1) := by decide +kernel
theorem dX7_letter_18 : decode cX7_letter 18 = .ok (.aload_n 0, 1) := by decide +kernel
theorem dX7_letter_19 : decode cX7_letter 19 = .ok (.getfield 28, 3) := by decide +kernel
theorem dX7_letter_22 : decode cX7_letter 22 = .ok (.iload_n 1, 1) := by decide +kernel
theorem dX7_letter_23 : decode cX7_letter 23 = .ok (.iload_n 2, 1) := by decide +kernel
theorem dX7_letter_24 : decode cX7_letter 24 = .ok (.invokevirtual 142, 3) := by decide +kernel
theorem dX7_letter_27 : decode cX7_letter 27 = .ok (.astore 4, 2) := by decide +kernel
theorem dX7_letter_29 : decode cX7_letter 29 = .ok (.aload 4, 2) := by decide +kernel
theorem dX7_letter_31 : decode cX7_letter 31 = .ok (.ifnonnull 6, 3) := by decide +kernel
theorem dX7_letter_34 : decode cX7_letter 34 = .ok (.bipush (-9), 2) := by decide +kernel
theorem dX7_letter_36 : decode cX7_letter 36 = .ok (.ireturn, 1) := by decide +kernel
theorem dX7_letter_37 : decode cX7_letter 37 = .ok (.iload_n 3, 1) := by decide +kernel
theorem dX7_letter_38 : decode cX7_letter 38 = .ok (.tableswitch 44 0 2 #[26, 32, 38], 26) := by decide +kernel
theorem dX7_letter_64 : decode cX7_letter 64 = .ok (.aload 4, 2) := by decide +kernel
theorem dX7_letter_66 : decode cX7_letter 66 = .ok (.getfield 156, 3) := by decide +kernel
theorem dX7_letter_69 : decode cX7_letter 69 = .ok (.ireturn, 1) := by decide +kernel
theorem dX7_letter_70 : decode cX7_letter 70 = .ok (.aload 4, 2) := by decide +kernel
theorem dX7_letter_72 : decode cX7_letter 72 = .ok (.getfield 115, 3) := by decide +kernel
theorem dX7_letter_75 : decode cX7_letter 75 = .ok (.ireturn, 1) := by decide +kernel
theorem dX7_letter_76 : decode cX7_letter 76 = .ok (.aload 4, 2) := by decide +kernel
theorem dX7_letter_78 : decode cX7_letter 78 = .ok (.getfield 123, 3) := by decide +kernel
theorem dX7_letter_81 : decode cX7_letter 81 = .ok (.ireturn, 1) := by decide +kernel
theorem dX7_letter_82 : decode cX7_letter 82 = .ok (.aload 4, 2) := by decide +kernel
theorem dX7_letter_84 : decode cX7_letter 84 = .ok (.getfield 120, 3) := by decide +kernel
theorem dX7_letter_87 : decode cX7_letter 87 = .ok (.ireturn, 1) := by decide +kernel
set_option maxRecDepth 20000 in
theorem ggX7_save_X5_saveMemory : GoodIn wsX7_save wsX5_saveMemory := goodIn_r _ [6, 7, 8, 9, 10, 11, 12, 13, 14, 15, 16, 22, 23, 24, 25, 26, 27, 28, 29, 30, 31] (by decide +kernel) (by decide +kernel)
set_option maxRecDepth 20000 in
theorem gX7_save_X5_saveMemory : GoodIn wsX7_save (wsV RX7 162 RX5 yX5_saveMemory wsX5_saveMemory) := goodIn_app (goodIn_of _ (by decide +kernel)) ggX7_save_X5_saveMemory
theorem dX7_save_0 : decode cX7_save 0 = .ok (.aload_n 0, 1) := by decide +kernel
theorem dX7_save_1 : decode cX7_save 1 = .ok (.getfield 35, 3) := by decide +kernel
theorem dX7_save_4 : decode cX7_save 4 = .ok (.invokevirtual 162, 3) := by decide +kernel
theorem dX7_save_7 : decode cX7_save 7 = .ok (.ireturn, 1) := by decide +kernel
set_option maxRecDepth 20000 in
theorem ggX7_ack_X2_hear : GoodIn wsX7_ack wsX2_hear := goodIn_r _ [7, 8, 9, 10, 11, 12, 13, 29, 30, 31, 32, 33, 34] (by decide +kernel) (by decide +kernel)
set_option maxRecDepth 20000 in
theorem gX7_ack_X2_hear : GoodIn wsX7_ack (wsV RX7 168 RX2 yX2_hear wsX2_hear) := goodIn_app (goodIn_of _ (by decide +kernel)) ggX7_ack_X2_hear
theorem dX7_ack_0 : decode cX7_ack 0 = .ok (.iload_n 1, 1) := by decide +kernel
theorem dX7_ack_1 : decode cX7_ack 1 = .ok (.ifCond .eq 20, 3) := by decide +kernel
theorem dX7_ack_4 : decode cX7_ack 4 = .ok (.aload_n 0, 1) := by decide +kernel
theorem dX7_ack_5 : decode cX7_ack 5 = .ok (.getfield 28, 3) := by decide +kernel
theorem dX7_ack_8 : decode cX7_ack 8 = .ok (.aload_n 0, 1) := by decide +kernel
theorem dX7_ack_9 : decode cX7_ack 9 = .ok (.getfield 35, 3) := by decide +kernel
theorem dX7_ack_12 : decode cX7_ack 12 = .ok (.getfield 105, 3) := by decide +kernel
theorem dX7_ack_15 : decode cX7_ack 15 = .ok (.getfield 165, 3) := by decide +kernel
theorem dX7_ack_18 : decode cX7_ack 18 = .ok (.invokevirtual 168, 3) := by decide +kernel
theorem dX7_ack_21 : decode cX7_ack 21 = .ok (.aload_n 0, 1) := by decide +kernel
theorem dX7_ack_22 : decode cX7_ack 22 = .ok (.getfield 35, 3) := by decide +kernel
theorem dX7_ack_25 : decode cX7_ack 25 = .ok (.getfield 105, 3) := by decide +kernel
theorem dX7_ack_28 : decode cX7_ack 28 = .ok (.getfield 165, 3) := by decide +kernel
theorem dX7_ack_31 : decode cX7_ack 31 = .ok (.ireturn, 1) := by decide +kernel
set_option maxRecDepth 20000 in
theorem ggX7_flow_X7_deliverAll : GoodIn wsX7_flow wsX7_deliverAll := goodIn_r _ [7, 2, 1, 8, 9, 10, 11, 12, 13, 14, 15, 16, 17, 18, 19, 20, 21, 22, 23, 24, 25, 26, 27, 28, 29, 30, 31, 32, 33, 34, 35, 36, 37, 38, 39, 40, 41, 42, 43, 44, 45, 46, 47, 48, 49, 50, 51, 52, 53, 54, 55, 56, 57, 58, 59, 60, 61, 62, 63, 64, 65, 66, 67, 68, 69, 70, 71, 72, 73, 74, 75, 76, 77, 78, 79, 80, 81, 117, 118, 119, 120, 121, 132, 133, 134, 135, 136, 137, 138, 139, 122, 123, 124, 125, 126, 127, 128, 140, 141, 142, 143, 144, 129, 130, 131, 145, 146, 147, 148] (by decide +kernel) (by decide +kernel)
set_option maxRecDepth 20000 in
theorem gX7_flow_X7_deliverAll : GoodIn wsX7_flow (wsV RX7 174 RX7 yX7_deliverAll wsX7_deliverAll) := goodIn_app (goodIn_of _ (by decide +kernel)) ggX7_flow_X7_deliverAll
set_option maxRecDepth 20000 in
theorem ggX7_flow_X5_saveMemory : GoodIn wsX7_flow wsX5_saveMemory := goodIn_r _ [85, 86, 20, 87, 88, 89, 29, 90, 32, 50, 52, 122, 123, 124, 125, 126, 127, 128, 129, 130, 131] (by decide +kernel) (by decide +kernel)
set_option maxRecDepth 20000 in
theorem gX7_flow_X5_saveMemory : GoodIn wsX7_flow (wsV RX7 162 RX5 yX5_saveMemory wsX5_saveMemory) := goodIn_app (goodIn_of _ (by decide +kernel)) ggX7_flow_X5_saveMemory
set_option maxRecDepth 20000 in
theorem ggX7_flow_X2_hear : GoodIn wsX7_flow wsX2_hear := goodIn_r _ [95, 96, 97, 98, 99, 100, 101, 132, 133, 134, 135, 136, 137] (by decide +kernel) (by decide +kernel)
set_option maxRecDepth 20000 in
theorem gX7_flow_X2_hear : GoodIn wsX7_flow (wsV RX7 168 RX2 yX2_hear wsX2_hear) := goodIn_app (goodIn_of _ (by decide +kernel)) ggX7_flow_X2_hear
set_option maxRecDepth 20000 in
theorem ggX7_flow_X2_readOn : GoodIn wsX7_flow wsX2_readOn := goodIn_r _ [105, 106, 107, 108, 94, 109, 110, 101, 111, 112, 113, 114, 54, 55, 56, 57, 58, 59, 115, 71, 72, 11, 73, 13, 14, 116, 75, 76, 77, 132, 133, 134, 135, 136, 137, 140, 141, 142, 143, 144, 145, 146, 147, 148, 138, 139] (by decide +kernel) (by decide +kernel)
set_option maxRecDepth 20000 in
theorem gX7_flow_X2_readOn : GoodIn wsX7_flow (wsV RX7 133 RX2 yX2_readOn wsX2_readOn) := goodIn_app (goodIn_of _ (by decide +kernel)) ggX7_flow_X2_readOn
theorem dX7_flow_0 : decode cX7_flow 0 = .ok (.iload_n 1, 1) := by decide +kernel
theorem dX7_flow_1 : decode cX7_flow 1 = .ok (.iconst 1, 1) := by decide +kernel
theorem dX7_flow_2 : decode cX7_flow 2 = .ok (.if_icmp .lt 9, 3) := by decide +kernel
theorem dX7_flow_5 : decode cX7_flow 5 = .ok (.iload_n 1, 1) := by decide +kernel
theorem dX7_flow_6 : decode cX7_flow 6 = .ok (.bipush 10, 2) := by decide +kernel
theorem dX7_flow_8 : decode cX7_flow 8 = .ok (.if_icmp .le 5, 3) := by decide +kernel
theorem dX7_flow_11 : decode cX7_flow 11 = .ok (.iconst (-1), 1) := by decide +kernel
theorem dX7_flow_12 : decode cX7_flow 12 = .ok (.ireturn, 1) := by decide +kernel
theorem dX7_flow_13 : decode cX7_flow 13 = .ok (.aload_n 0, 1) := by decide +kernel
theorem dX7_flow_14 : decode cX7_flow 14 = .ok (.getfield 35, 3) := by decide +kernel
theorem dX7_flow_17 : decode cX7_flow 17 = .ok (.getfield 171, 3) := by decide +kernel
theorem dX7_flow_20 : decode cX7_flow 20 = .ok (.istore_n 2, 1) := by decide +kernel
theorem dX7_flow_21 : decode cX7_flow 21 = .ok (.iconst 0, 1) := by decide +kernel
theorem dX7_flow_22 : decode cX7_flow 22 = .ok (.istore_n 3, 1) := by decide +kernel
theorem dX7_flow_23 : decode cX7_flow 23 = .ok (.iload_n 3, 1) := by decide +kernel
theorem dX7_flow_24 : decode cX7_flow 24 = .ok (.iload_n 1, 1) := by decide +kernel
theorem dX7_flow_25 : decode cX7_flow 25 = .ok (.if_icmp .ge 49, 3) := by decide +kernel
theorem dX7_flow_28 : decode cX7_flow 28 = .ok (.aload_n 0, 1) := by decide +kernel
theorem dX7_flow_29 : decode cX7_flow 29 = .ok (.invokevirtual 174, 3) := by decide +kernel
theorem dX7_flow_32 : decode cX7_flow 32 = .ok (.aload_n 0, 1) := by decide +kernel
theorem dX7_flow_33 : decode cX7_flow 33 = .ok (.getfield 35, 3) := by decide +kernel
theorem dX7_flow_36 : decode cX7_flow 36 = .ok (.invokevirtual 162, 3) := by decide +kernel
theorem dX7_flow_39 : decode cX7_flow 39 = .ok (.pop, 1) := by decide +kernel
theorem dX7_flow_40 : decode cX7_flow 40 = .ok (.aload_n 0, 1) := by decide +kernel
theorem dX7_flow_41 : decode cX7_flow 41 = .ok (.getfield 28, 3) := by decide +kernel
theorem dX7_flow_44 : decode cX7_flow 44 = .ok (.aload_n 0, 1) := by decide +kernel
theorem dX7_flow_45 : decode cX7_flow 45 = .ok (.getfield 35, 3) := by decide +kernel
theorem dX7_flow_48 : decode cX7_flow 48 = .ok (.getfield 105, 3) := by decide +kernel
theorem dX7_flow_51 : decode cX7_flow 51 = .ok (.getfield 165, 3) := by decide +kernel
theorem dX7_flow_54 : decode cX7_flow 54 = .ok (.invokevirtual 168, 3) := by decide +kernel
theorem dX7_flow_57 : decode cX7_flow 57 = .ok (.aload_n 0, 1) := by decide +kernel
theorem dX7_flow_58 : decode cX7_flow 58 = .ok (.getfield 28, 3) := by decide +kernel
theorem dX7_flow_61 : decode cX7_flow 61 = .ok (.sipush 400, 3) := by decide +kernel
theorem dX7_flow_64 : decode cX7_flow 64 = .ok (.invokevirtual 133, 3) := by decide +kernel
theorem dX7_flow_67 : decode cX7_flow 67 = .ok (.pop, 1) := by decide +kernel
theorem dX7_flow_68 : decode cX7_flow 68 = .ok (.iinc 3 1, 3) := by decide +kernel
theorem dX7_flow_71 : decode cX7_flow 71 = .ok (.goto (-48), 3) := by decide +kernel
theorem dX7_flow_74 : decode cX7_flow 74 = .ok (.aload_n 0, 1) := by decide +kernel
theorem dX7_flow_75 : decode cX7_flow 75 = .ok (.getfield 35, 3) := by decide +kernel
theorem dX7_flow_78 : decode cX7_flow 78 = .ok (.getfield 171, 3) := by decide +kernel
theorem dX7_flow_81 : decode cX7_flow 81 = .ok (.iload_n 2, 1) := by decide +kernel
theorem dX7_flow_82 : decode cX7_flow 82 = .ok (.isub, 1) := by decide +kernel
theorem dX7_flow_83 : decode cX7_flow 83 = .ok (.ireturn, 1) := by decide +kernel
set_option maxRecDepth 20000 in
theorem ggX7_whole_X5_diskIsWhole : GoodIn wsX7_whole wsX5_diskIsWhole := goodIn_r _ [6, 7, 8, 9, 10, 11, 12, 13, 14, 15, 16, 17, 18, 19, 20, 21, 22, 23, 24, 30, 31, 32, 33, 34, 35, 36, 37, 38, 39, 40, 41, 42, 43, 44, 45, 46, 47, 48] (by decide +kernel) (by decide +kernel)
set_option maxRecDepth 20000 in
theorem gX7_whole_X5_diskIsWhole : GoodIn wsX7_whole (wsV RX7 177 RX5 yX5_diskIsWhole wsX5_diskIsWhole) := goodIn_app (goodIn_of _ (by decide +kernel)) ggX7_whole_X5_diskIsWhole
theorem dX7_whole_0 : decode cX7_whole 0 = .ok (.aload_n 0, 1) := by decide +kernel
theorem dX7_whole_1 : decode cX7_whole 1 = .ok (.getfield 35, 3) := by decide +kernel
theorem dX7_whole_4 : decode cX7_whole 4 = .ok (.invokevirtual 177, 3) := by decide +kernel
theorem dX7_whole_7 : decode cX7_whole 7 = .ok (.ifCond .eq 7, 3) := by decide +kernel
theorem dX7_whole_10 : decode cX7_whole 10 = .ok (.iconst 1, 1) := by decide +kernel
theorem dX7_whole_11 : decode cX7_whole 11 = .ok (.goto 4, 3) := by decide +kernel
theorem dX7_whole_14 : decode cX7_whole 14 = .ok (.iconst 0, 1) := by decide +kernel
theorem dX7_whole_15 : decode cX7_whole 15 = .ok (.ireturn, 1) := by decide +kernel
set_option maxRecDepth 20000 in
theorem ggX7_prefix_X6_isAsFlushed : GoodIn wsX7_prefix wsX6_isAsFlushed := goodIn_r _ [7, 8, 9, 10, 11, 12, 13, 14, 15, 16, 17, 18, 19, 32, 33, 34, 35, 36, 37, 38, 39, 40, 41, 42, 43] (by decide +kernel) (by decide +kernel)
set_option maxRecDepth 20000 in
theorem gX7_prefix_X6_isAsFlushed : GoodIn wsX7_prefix (wsV RX7 181 RX6 yX6_isAsFlushed wsX6_isAsFlushed) := goodIn_app (goodIn_of _ (by decide +kernel)) ggX7_prefix_X6_isAsFlushed
theorem dX7_prefix_0 : decode cX7_prefix 0 = .ok (.iload_n 1, 1) := by decide +kernel
theorem dX7_prefix_1 : decode cX7_prefix 1 = .ok (.ifCond .lt 8, 3) := by decide +kernel
theorem dX7_prefix_4 : decode cX7_prefix 4 = .ok (.iload_n 1, 1) := by decide +kernel
theorem dX7_prefix_5 : decode cX7_prefix 5 = .ok (.iconst 1, 1) := by decide +kernel
theorem dX7_prefix_6 : decode cX7_prefix 6 = .ok (.if_icmp .le 5, 3) := by decide +kernel
theorem dX7_prefix_9 : decode cX7_prefix 9 = .ok (.iconst (-1), 1) := by decide +kernel
theorem dX7_prefix_10 : decode cX7_prefix 10 = .ok (.ireturn, 1) := by decide +kernel
theorem dX7_prefix_11 : decode cX7_prefix 11 = .ok (.iload_n 1, 1) := by decide +kernel
theorem dX7_prefix_12 : decode cX7_prefix 12 = .ok (.ifCond .ne 13, 3) := by decide +kernel
theorem dX7_prefix_15 : decode cX7_prefix 15 = .ok (.aload_n 0, 1) := by decide +kernel
theorem dX7_prefix_16 : decode cX7_prefix 16 = .ok (.getfield 35, 3) := by decide +kernel
theorem dX7_prefix_19 : decode cX7_prefix 19 = .ok (.getfield 95, 3) := by decide +kernel
theorem dX7_prefix_22 : decode cX7_prefix 22 = .ok (.goto 10, 3) := by decide +kernel
theorem dX7_prefix_25 : decode cX7_prefix 25 = .ok (.aload_n 0, 1) := by decide +kernel
theorem dX7_prefix_26 : decode cX7_prefix 26 = .ok (.getfield 35, 3) := by decide +kernel
theorem dX7_prefix_29 : decode cX7_prefix 29 = .ok (.getfield 105, 3) := by decide +kernel
theorem dX7_prefix_32 : decode cX7_prefix 32 = .ok (.astore_n 2, 1) := by decide +kernel
theorem dX7_prefix_33 : decode cX7_prefix 33 = .ok (.aload_n 2, 1) := by decide +kernel
theorem dX7_prefix_34 : decode cX7_prefix 34 = .ok (.aload_n 0, 1) := by decide +kernel
theorem dX7_prefix_35 : decode cX7_prefix 35 = .ok (.getfield 10, 3) := by decide +kernel
theorem dX7_prefix_38 : decode cX7_prefix 38 = .ok (.invokevirtual 181, 3) := by decide +kernel
theorem dX7_prefix_41 : decode cX7_prefix 41 = .ok (.ifCond .eq 7, 3) := by decide +kernel
theorem dX7_prefix_44 : decode cX7_prefix 44 = .ok (.iconst 1, 1) := by decide +kernel
theorem dX7_prefix_45 : decode cX7_prefix 45 = .ok (.goto 4, 3) := by decide +kernel
theorem dX7_prefix_48 : decode cX7_prefix 48 = .ok (.iconst 0, 1) := by decide +kernel
theorem dX7_prefix_49 : decode cX7_prefix 49 = .ok (.ireturn, 1) := by decide +kernel
set_option maxRecDepth 20000 in
theorem ggX7_count_X4_openTransactions : GoodIn wsX7_count wsX4_openTransactions := goodIn_r _ [10, 11, 45, 46, 47, 48, 49, 50] (by decide +kernel) (by decide +kernel)
set_option maxRecDepth 20000 in
theorem gX7_count_X4_openTransactions : GoodIn wsX7_count (wsV RX7 185 RX4 yX4_openTransactions wsX4_openTransactions) := goodIn_app (goodIn_of _ (by decide +kernel)) ggX7_count_X4_openTransactions
set_option maxRecDepth 20000 in
theorem ggX7_count_X2_lettersUnderWay : GoodIn wsX7_count wsX2_lettersUnderWay := goodIn_r _ [16, 17, 27, 28, 29, 30, 31, 32, 40, 41] (by decide +kernel) (by decide +kernel)
set_option maxRecDepth 20000 in
theorem gX7_count_X2_lettersUnderWay : GoodIn wsX7_count (wsV RX7 200 RX2 yX2_lettersUnderWay wsX2_lettersUnderWay) := goodIn_app (goodIn_of _ (by decide +kernel)) ggX7_count_X2_lettersUnderWay
theorem dX7_count_0 : decode cX7_count 0 = .ok (.iload_n 1, 1) := by decide +kernel
theorem dX7_count_1 : decode cX7_count 1 = .ok (.tableswitch 194 0 13 #[71, 79, 87, 95, 103, 111, 119, 127, 135, 143, 151, 162, 178, 183], 71) := by decide +kernel
theorem dX7_count_72 : decode cX7_count 72 = .ok (.aload_n 0, 1) := by decide +kernel
theorem dX7_count_73 : decode cX7_count 73 = .ok (.getfield 21, 3) := by decide +kernel
theorem dX7_count_76 : decode cX7_count 76 = .ok (.invokevirtual 185, 3) := by decide +kernel
theorem dX7_count_79 : decode cX7_count 79 = .ok (.ireturn, 1) := by decide +kernel
theorem dX7_count_80 : decode cX7_count 80 = .ok (.aload_n 0, 1) := by decide +kernel
theorem dX7_count_81 : decode cX7_count 81 = .ok (.getfield 10, 3) := by decide +kernel
theorem dX7_count_84 : decode cX7_count 84 = .ok (.getfield 188, 3) := by decide +kernel
theorem dX7_count_87 : decode cX7_count 87 = .ok (.ireturn, 1) := by decide +kernel
theorem dX7_count_88 : decode cX7_count 88 = .ok (.aload_n 0, 1) := by decide +kernel
theorem dX7_count_89 : decode cX7_count 89 = .ok (.getfield 10, 3) := by decide +kernel
end
section
theorem dX7_count_92 : decode cX7_count 92 = .ok (.getfield 191, 3) := by decide +kernel
theorem dX7_count_95 : decode cX7_count 95 = .ok (.ireturn, 1) := by decide +kernel
theorem dX7_count_96 : decode cX7_count 96 = .ok (.aload_n 0, 1) := by decide +kernel
theorem dX7_count_97 : decode cX7_count 97 = .ok (.getfield 28, 3) := by decide +kernel
theorem dX7_count_100 : decode cX7_count 100 = .ok (.getfield 194, 3) := by decide +kernel
theorem dX7_count_103 : decode cX7_count 103 = .ok (.ireturn, 1) := by decide +kernel
theorem dX7_count_104 : decode cX7_count 104 = .ok (.aload_n 0, 1) := by decide +kernel
theorem dX7_count_105 : decode cX7_count 105 = .ok (.getfield 28, 3) := by decide +kernel
theorem dX7_count_108 : decode cX7_count 108 = .ok (.getfield 136, 3) := by decide +kernel
theorem dX7_count_111 : decode cX7_count 111 = .ok (.ireturn, 1) := by decide +kernel
theorem dX7_count_112 : decode cX7_count 112 = .ok (.aload_n 0, 1) := by decide +kernel
theorem dX7_count_113 : decode cX7_count 113 = .ok (.getfield 10, 3) := by decide +kernel
theorem dX7_count_116 : decode cX7_count 116 = .ok (.getfield 197, 3) := by decide +kernel
theorem dX7_count_119 : decode cX7_count 119 = .ok (.ireturn, 1) := by decide +kernel
theorem dX7_count_120 : decode cX7_count 120 = .ok (.aload_n 0, 1) := by decide +kernel
theorem dX7_count_121 : decode cX7_count 121 = .ok (.getfield 28, 3) := by decide +kernel
theorem dX7_count_124 : decode cX7_count 124 = .ok (.invokevirtual 200, 3) := by decide +kernel
theorem dX7_count_127 : decode cX7_count 127 = .ok (.ireturn, 1) := by decide +kernel
theorem dX7_count_128 : decode cX7_count 128 = .ok (.aload_n 0, 1) := by decide +kernel
theorem dX7_count_129 : decode cX7_count 129 = .ok (.getfield 28, 3) := by decide +kernel
theorem dX7_count_132 : decode cX7_count 132 = .ok (.getfield 203, 3) := by decide +kernel
theorem dX7_count_135 : decode cX7_count 135 = .ok (.ireturn, 1) := by decide +kernel
theorem dX7_count_136 : decode cX7_count 136 = .ok (.aload_n 0, 1) := by decide +kernel
theorem dX7_count_137 : decode cX7_count 137 = .ok (.getfield 35, 3) := by decide +kernel
theorem dX7_count_140 : decode cX7_count 140 = .ok (.getfield 171, 3) := by decide +kernel
theorem dX7_count_143 : decode cX7_count 143 = .ok (.ireturn, 1) := by decide +kernel
theorem dX7_count_144 : decode cX7_count 144 = .ok (.aload_n 0, 1) := by decide +kernel
theorem dX7_count_145 : decode cX7_count 145 = .ok (.getfield 35, 3) := by decide +kernel
theorem dX7_count_148 : decode cX7_count 148 = .ok (.getfield 206, 3) := by decide +kernel
theorem dX7_count_151 : decode cX7_count 151 = .ok (.ireturn, 1) := by decide +kernel
theorem dX7_count_152 : decode cX7_count 152 = .ok (.aload_n 0, 1) := by decide +kernel
theorem dX7_count_153 : decode cX7_count 153 = .ok (.getfield 35, 3) := by decide +kernel
theorem dX7_count_156 : decode cX7_count 156 = .ok (.getfield 209, 3) := by decide +kernel
theorem dX7_count_159 : decode cX7_count 159 = .ok (.getfield 213, 3) := by decide +kernel
theorem dX7_count_162 : decode cX7_count 162 = .ok (.ireturn, 1) := by decide +kernel
theorem dX7_count_163 : decode cX7_count 163 = .ok (.aload_n 0, 1) := by decide +kernel
theorem dX7_count_164 : decode cX7_count 164 = .ok (.getfield 28, 3) := by decide +kernel
theorem dX7_count_167 : decode cX7_count 167 = .ok (.getfield 153, 3) := by decide +kernel
theorem dX7_count_170 : decode cX7_count 170 = .ok (.aload_n 0, 1) := by decide +kernel
theorem dX7_count_171 : decode cX7_count 171 = .ok (.getfield 35, 3) := by decide +kernel
theorem dX7_count_174 : decode cX7_count 174 = .ok (.getfield 218, 3) := by decide +kernel
theorem dX7_count_177 : decode cX7_count 177 = .ok (.iadd, 1) := by decide +kernel
theorem dX7_count_178 : decode cX7_count 178 = .ok (.ireturn, 1) := by decide +kernel
theorem dX7_count_179 : decode cX7_count 179 = .ok (.aload_n 0, 1) := by decide +kernel
theorem dX7_count_180 : decode cX7_count 180 = .ok (.getfield 76, 3) := by decide +kernel
theorem dX7_count_183 : decode cX7_count 183 = .ok (.ireturn, 1) := by decide +kernel
theorem dX7_count_184 : decode cX7_count 184 = .ok (.aload_n 0, 1) := by decide +kernel
theorem dX7_count_185 : decode cX7_count 185 = .ok (.getfield 35, 3) := by decide +kernel
theorem dX7_count_188 : decode cX7_count 188 = .ok (.getfield 105, 3) := by decide +kernel
theorem dX7_count_191 : decode cX7_count 191 = .ok (.getfield 165, 3) := by decide +kernel
theorem dX7_count_194 : decode cX7_count 194 = .ok (.ireturn, 1) := by decide +kernel
theorem dX7_count_195 : decode cX7_count 195 = .ok (.iconst (-1), 1) := by decide +kernel
theorem dX7_count_196 : decode cX7_count 196 = .ok (.ireturn, 1) := by decide +kernel
set_option maxRecDepth 20000 in
theorem ggX7_deliverAll_X3_at : GoodIn wsX7_deliverAll wsX3_at := goodIn_r _ [7, 8, 9, 88, 89] (by decide +kernel) (by decide +kernel)
set_option maxRecDepth 20000 in
theorem gX7_deliverAll_X3_at : GoodIn wsX7_deliverAll (wsV RX7 225 RX3 yX3_at wsX3_at) := goodIn_app (goodIn_of _ (by decide +kernel)) ggX7_deliverAll_X3_at
set_option maxRecDepth 20000 in
theorem ggX7_deliverAll_X5_take : GoodIn wsX7_deliverAll wsX5_take := goodIn_r _ [14, 15, 16, 17, 18, 19, 20, 21, 22, 23, 24, 25, 26, 27, 28, 29, 30, 31, 6, 32, 8, 9, 33, 34, 35, 36, 37, 13, 38, 39, 40, 41, 42, 43, 44, 45, 46, 47, 48, 49, 50, 51, 52, 53, 54, 55, 56, 57, 58, 59, 60, 4, 5, 7, 61, 62, 63, 64, 65, 66, 67, 68, 69, 70, 71, 72, 90, 91, 92, 93, 94, 95, 96, 97, 98, 99, 100, 101, 102, 103, 104, 88, 89, 105, 106, 107, 108] (by decide +kernel) (by decide +kernel)
set_option maxRecDepth 20000 in
theorem gX7_deliverAll_X5_take : GoodIn wsX7_deliverAll (wsV RX7 149 RX5 yX5_take wsX5_take) := goodIn_app (goodIn_of _ (by decide +kernel)) ggX7_deliverAll_X5_take
set_option maxRecDepth 20000 in
theorem ggX7_deliverAll_X3_clear : GoodIn wsX7_deliverAll wsX3_clear := goodIn_r _ [76, 8, 88, 89] (by decide +kernel) (by decide +kernel)
set_option maxRecDepth 20000 in
theorem gX7_deliverAll_X3_clear : GoodIn wsX7_deliverAll (wsV RX7 226 RX3 yX3_clear wsX3_clear) := goodIn_app (goodIn_of _ (by decide +kernel)) ggX7_deliverAll_X3_clear
theorem dX7_deliverAll_0 : decode cX7_deliverAll 0 = .ok (.iconst 0, 1) := by decide +kernel
theorem dX7_deliverAll_1 : decode cX7_deliverAll 1 = .ok (.istore_n 1, 1) := by decide +kernel
theorem dX7_deliverAll_2 : decode cX7_deliverAll 2 = .ok (.iload_n 1, 1) := by decide +kernel
theorem dX7_deliverAll_3 : decode cX7_deliverAll 3 = .ok (.iconst 3, 1) := by decide +kernel
theorem dX7_deliverAll_4 : decode cX7_deliverAll 4 = .ok (.if_icmp .ge 62, 3) := by decide +kernel
theorem dX7_deliverAll_7 : decode cX7_deliverAll 7 = .ok (.aload_n 0, 1) := by decide +kernel
theorem dX7_deliverAll_8 : decode cX7_deliverAll 8 = .ok (.getfield 28, 3) := by decide +kernel
theorem dX7_deliverAll_11 : decode cX7_deliverAll 11 = .ok (.getfield 221, 3) := by decide +kernel
theorem dX7_deliverAll_14 : decode cX7_deliverAll 14 = .ok (.iload_n 1, 1) := by decide +kernel
theorem dX7_deliverAll_15 : decode cX7_deliverAll 15 = .ok (.aaload, 1) := by decide +kernel
theorem dX7_deliverAll_16 : decode cX7_deliverAll 16 = .ok (.astore_n 2, 1) := by decide +kernel
theorem dX7_deliverAll_17 : decode cX7_deliverAll 17 = .ok (.iconst 0, 1) := by decide +kernel
theorem dX7_deliverAll_18 : decode cX7_deliverAll 18 = .ok (.istore_n 3, 1) := by decide +kernel
theorem dX7_deliverAll_19 : decode cX7_deliverAll 19 = .ok (.iload_n 3, 1) := by decide +kernel
theorem dX7_deliverAll_20 : decode cX7_deliverAll 20 = .ok (.bipush 40, 2) := by decide +kernel
theorem dX7_deliverAll_22 : decode cX7_deliverAll 22 = .ok (.if_icmp .ge 34, 3) := by decide +kernel
theorem dX7_deliverAll_25 : decode cX7_deliverAll 25 = .ok (.aload_n 2, 1) := by decide +kernel
theorem dX7_deliverAll_26 : decode cX7_deliverAll 26 = .ok (.iload_n 3, 1) := by decide +kernel
theorem dX7_deliverAll_27 : decode cX7_deliverAll 27 = .ok (.invokevirtual 225, 3) := by decide +kernel
theorem dX7_deliverAll_30 : decode cX7_deliverAll 30 = .ok (.astore 4, 2) := by decide +kernel
theorem dX7_deliverAll_32 : decode cX7_deliverAll 32 = .ok (.aload 4, 2) := by decide +kernel
theorem dX7_deliverAll_34 : decode cX7_deliverAll 34 = .ok (.ifnonnull 6, 3) := by decide +kernel
theorem dX7_deliverAll_37 : decode cX7_deliverAll 37 = .ok (.goto 19, 3) := by decide +kernel
theorem dX7_deliverAll_40 : decode cX7_deliverAll 40 = .ok (.aload_n 0, 1) := by decide +kernel
theorem dX7_deliverAll_41 : decode cX7_deliverAll 41 = .ok (.getfield 35, 3) := by decide +kernel
theorem dX7_deliverAll_44 : decode cX7_deliverAll 44 = .ok (.aload 4, 2) := by decide +kernel
theorem dX7_deliverAll_46 : decode cX7_deliverAll 46 = .ok (.invokevirtual 149, 3) := by decide +kernel
theorem dX7_deliverAll_49 : decode cX7_deliverAll 49 = .ok (.pop, 1) := by decide +kernel
theorem dX7_deliverAll_50 : decode cX7_deliverAll 50 = .ok (.iinc 3 1, 3) := by decide +kernel
theorem dX7_deliverAll_53 : decode cX7_deliverAll 53 = .ok (.goto (-34), 3) := by decide +kernel
theorem dX7_deliverAll_56 : decode cX7_deliverAll 56 = .ok (.aload_n 2, 1) := by decide +kernel
theorem dX7_deliverAll_57 : decode cX7_deliverAll 57 = .ok (.invokevirtual 226, 3) := by decide +kernel
theorem dX7_deliverAll_60 : decode cX7_deliverAll 60 = .ok (.iinc 1 1, 3) := by decide +kernel
theorem dX7_deliverAll_63 : decode cX7_deliverAll 63 = .ok (.goto (-61), 3) := by decide +kernel
theorem dX7_deliverAll_66 : decode cX7_deliverAll 66 = .ok (.return_, 1) := by decide +kernel
theorem dX7_isKey_0 : decode cX7_isKey 0 = .ok (.iload_n 0, 1) := by decide +kernel
theorem dX7_isKey_1 : decode cX7_isKey 1 = .ok (.ifCond .lt 13, 3) := by decide +kernel
theorem dX7_isKey_4 : decode cX7_isKey 4 = .ok (.iload_n 0, 1) := by decide +kernel
theorem dX7_isKey_5 : decode cX7_isKey 5 = .ok (.bipush 6, 2) := by decide +kernel
theorem dX7_isKey_7 : decode cX7_isKey 7 = .ok (.if_icmp .ge 7, 3) := by decide +kernel
theorem dX7_isKey_10 : decode cX7_isKey 10 = .ok (.iconst 1, 1) := by decide +kernel
theorem dX7_isKey_11 : decode cX7_isKey 11 = .ok (.goto 4, 3) := by decide +kernel
theorem dX7_isKey_14 : decode cX7_isKey 14 = .ok (.iconst 0, 1) := by decide +kernel
theorem dX7_isKey_15 : decode cX7_isKey 15 = .ok (.ireturn, 1) := by decide +kernel
theorem dX7_isLane_0 : decode cX7_isLane 0 = .ok (.iload_n 0, 1) := by decide +kernel
theorem dX7_isLane_1 : decode cX7_isLane 1 = .ok (.ifCond .lt 12, 3) := by decide +kernel
theorem dX7_isLane_4 : decode cX7_isLane 4 = .ok (.iload_n 0, 1) := by decide +kernel
theorem dX7_isLane_5 : decode cX7_isLane 5 = .ok (.iconst 3, 1) := by decide +kernel
theorem dX7_isLane_6 : decode cX7_isLane 6 = .ok (.if_icmp .ge 7, 3) := by decide +kernel
theorem dX7_isLane_9 : decode cX7_isLane 9 = .ok (.iconst 1, 1) := by decide +kernel
theorem dX7_isLane_10 : decode cX7_isLane 10 = .ok (.goto 4, 3) := by decide +kernel
theorem dX7_isLane_13 : decode cX7_isLane 13 = .ok (.iconst 0, 1) := by decide +kernel
theorem dX7_isLane_14 : decode cX7_isLane 14 = .ok (.ireturn, 1) := by decide +kernel
theorem dX8_init_0 : decode cX8_init 0 = .ok (.aload_n 0, 1) := by decide +kernel
theorem dX8_init_1 : decode cX8_init 1 = .ok (.invokespecial 1, 3) := by decide +kernel
theorem dX8_init_4 : decode cX8_init 4 = .ok (.aload_n 0, 1) := by decide +kernel
theorem dX8_init_5 : decode cX8_init 5 = .ok (.iconst 4, 1) := by decide +kernel
theorem dX8_init_6 : decode cX8_init 6 = .ok (.newarray .boolean, 2) := by decide +kernel
theorem dX8_init_8 : decode cX8_init 8 = .ok (.putfield 7, 3) := by decide +kernel
theorem dX8_init_11 : decode cX8_init 11 = .ok (.aload_n 0, 1) := by decide +kernel
theorem dX8_init_12 : decode cX8_init 12 = .ok (.bipush 24, 2) := by decide +kernel
theorem dX8_init_14 : decode cX8_init 14 = .ok (.newarray .boolean, 2) := by decide +kernel
theorem dX8_init_16 : decode cX8_init 16 = .ok (.putfield 13, 3) := by decide +kernel
theorem dX8_init_19 : decode cX8_init 19 = .ok (.aload_n 0, 1) := by decide +kernel
theorem dX8_init_20 : decode cX8_init 20 = .ok (.bipush 24, 2) := by decide +kernel
theorem dX8_init_22 : decode cX8_init 22 = .ok (.newarray .int, 2) := by decide +kernel
theorem dX8_init_24 : decode cX8_init 24 = .ok (.putfield 16, 3) := by decide +kernel
theorem dX8_init_27 : decode cX8_init 27 = .ok (.aload_n 0, 1) := by decide +kernel
theorem dX8_init_28 : decode cX8_init 28 = .ok (.bipush 6, 2) := by decide +kernel
theorem dX8_init_30 : decode cX8_init 30 = .ok (.newarray .int, 2) := by decide +kernel
theorem dX8_init_32 : decode cX8_init 32 = .ok (.putfield 20, 3) := by decide +kernel
theorem dX8_init_35 : decode cX8_init 35 = .ok (.aload_n 0, 1) := by decide +kernel
theorem dX8_init_36 : decode cX8_init 36 = .ok (.bipush 6, 2) := by decide +kernel
theorem dX8_init_38 : decode cX8_init 38 = .ok (.newarray .int, 2) := by decide +kernel
theorem dX8_init_40 : decode cX8_init 40 = .ok (.putfield 23, 3) := by decide +kernel
theorem dX8_init_43 : decode cX8_init 43 = .ok (.aload_n 0, 1) := by decide +kernel
theorem dX8_init_44 : decode cX8_init 44 = .ok (.sipush 400, 3) := by decide +kernel
theorem dX8_init_47 : decode cX8_init 47 = .ok (.newarray .int, 2) := by decide +kernel
theorem dX8_init_49 : decode cX8_init 49 = .ok (.putfield 26, 3) := by decide +kernel
theorem dX8_init_52 : decode cX8_init 52 = .ok (.aload_n 0, 1) := by decide +kernel
theorem dX8_init_53 : decode cX8_init 53 = .ok (.sipush 400, 3) := by decide +kernel
theorem dX8_init_56 : decode cX8_init 56 = .ok (.newarray .int, 2) := by decide +kernel
theorem dX8_init_58 : decode cX8_init 58 = .ok (.putfield 29, 3) := by decide +kernel
theorem dX8_init_61 : decode cX8_init 61 = .ok (.aload_n 0, 1) := by decide +kernel
theorem dX8_init_62 : decode cX8_init 62 = .ok (.sipush 400, 3) := by decide +kernel
theorem dX8_init_65 : decode cX8_init 65 = .ok (.newarray .int, 2) := by decide +kernel
theorem dX8_init_67 : decode cX8_init 67 = .ok (.putfield 32, 3) := by decide +kernel
theorem dX8_init_70 : decode cX8_init 70 = .ok (.aload_n 0, 1) := by decide +kernel
theorem dX8_init_71 : decode cX8_init 71 = .ok (.sipush 400, 3) := by decide +kernel
theorem dX8_init_74 : decode cX8_init 74 = .ok (.newarray .boolean, 2) := by decide +kernel
theorem dX8_init_76 : decode cX8_init 76 = .ok (.putfield 35, 3) := by decide +kernel
theorem dX8_init_79 : decode cX8_init 79 = .ok (.aload_n 0, 1) := by decide +kernel
theorem dX8_init_80 : decode cX8_init 80 = .ok (.iconst 3, 1) := by decide +kernel
theorem dX8_init_81 : decode cX8_init 81 = .ok (.newarray .int, 2) := by decide +kernel
theorem dX8_init_83 : decode cX8_init 83 = .ok (.putfield 38, 3) := by decide +kernel
theorem dX8_init_86 : decode cX8_init 86 = .ok (.aload_n 0, 1) := by decide +kernel
theorem dX8_init_87 : decode cX8_init 87 = .ok (.bipush 120, 2) := by decide +kernel
theorem dX8_init_89 : decode cX8_init 89 = .ok (.newarray .int, 2) := by decide +kernel
theorem dX8_init_91 : decode cX8_init 91 = .ok (.putfield 41, 3) := by decide +kernel
theorem dX8_init_94 : decode cX8_init 94 = .ok (.aload_n 0, 1) := by decide +kernel
theorem dX8_init_95 : decode cX8_init 95 = .ok (.bipush 120, 2) := by decide +kernel
theorem dX8_init_97 : decode cX8_init 97 = .ok (.newarray .int, 2) := by decide +kernel
theorem dX8_init_99 : decode cX8_init 99 = .ok (.putfield 44, 3) := by decide +kernel
theorem dX8_init_102 : decode cX8_init 102 = .ok (.aload_n 0, 1) := by decide +kernel
theorem dX8_init_103 : decode cX8_init 103 = .ok (.bipush 120, 2) := by decide +kernel
theorem dX8_init_105 : decode cX8_init 105 = .ok (.newarray .int, 2) := by decide +kernel
theorem dX8_init_107 : decode cX8_init 107 = .ok (.putfield 47, 3) := by decide +kernel
theorem dX8_init_110 : decode cX8_init 110 = .ok (.aload_n 0, 1) := by decide +kernel
theorem dX8_init_111 : decode cX8_init 111 = .ok (.bipush 120, 2) := by decide +kernel
theorem dX8_init_113 : decode cX8_init 113 = .ok (.newarray .int, 2) := by decide +kernel
theorem dX8_init_115 : decode cX8_init 115 = .ok (.putfield 50, 3) := by decide +kernel
theorem dX8_init_118 : decode cX8_init 118 = .ok (.aload_n 0, 1) := by decide +kernel
theorem dX8_init_119 : decode cX8_init 119 = .ok (.bipush 6, 2) := by decide +kernel
theorem dX8_init_121 : decode cX8_init 121 = .ok (.newarray .int, 2) := by decide +kernel
theorem dX8_init_123 : decode cX8_init 123 = .ok (.putfield 53, 3) := by decide +kernel
theorem dX8_init_126 : decode cX8_init 126 = .ok (.aload_n 0, 1) := by decide +kernel
theorem dX8_init_127 : decode cX8_init 127 = .ok (.bipush 6, 2) := by decide +kernel
theorem dX8_init_129 : decode cX8_init 129 = .ok (.newarray .int, 2) := by decide +kernel
theorem dX8_init_131 : decode cX8_init 131 = .ok (.putfield 56, 3) := by decide +kernel
theorem dX8_init_134 : decode cX8_init 134 = .ok (.aload_n 0, 1) := by decide +kernel
theorem dX8_init_135 : decode cX8_init 135 = .ok (.sipush 400, 3) := by decide +kernel
theorem dX8_init_138 : decode cX8_init 138 = .ok (.newarray .boolean, 2) := by decide +kernel
theorem dX8_init_140 : decode cX8_init 140 = .ok (.putfield 59, 3) := by decide +kernel
theorem dX8_init_143 : decode cX8_init 143 = .ok (.aload_n 0, 1) := by decide +kernel
theorem dX8_init_144 : decode cX8_init 144 = .ok (.bipush 6, 2) := by decide +kernel
theorem dX8_init_146 : decode cX8_init 146 = .ok (.newarray .int, 2) := by decide +kernel
theorem dX8_init_148 : decode cX8_init 148 = .ok (.putfield 62, 3) := by decide +kernel
theorem dX8_init_151 : decode cX8_init 151 = .ok (.aload_n 0, 1) := by decide +kernel
theorem dX8_init_152 : decode cX8_init 152 = .ok (.bipush 6, 2) := by decide +kernel
theorem dX8_init_154 : decode cX8_init 154 = .ok (.newarray .int, 2) := by decide +kernel
theorem dX8_init_156 : decode cX8_init 156 = .ok (.putfield 65, 3) := by decide +kernel
theorem dX8_init_159 : decode cX8_init 159 = .ok (.aload_n 0, 1) := by decide +kernel
theorem dX8_init_160 : decode cX8_init 160 = .ok (.sipush 400, 3) := by decide +kernel
theorem dX8_init_163 : decode cX8_init 163 = .ok (.newarray .boolean, 2) := by decide +kernel
theorem dX8_init_165 : decode cX8_init 165 = .ok (.putfield 68, 3) := by decide +kernel
theorem dX8_init_168 : decode cX8_init 168 = .ok (.aload_n 0, 1) := by decide +kernel
theorem dX8_init_169 : decode cX8_init 169 = .ok (.bipush 8, 2) := by decide +kernel
theorem dX8_init_171 : decode cX8_init 171 = .ok (.newarray .int, 2) := by decide +kernel
theorem dX8_init_173 : decode cX8_init 173 = .ok (.putfield 71, 3) := by decide +kernel
theorem dX8_init_176 : decode cX8_init 176 = .ok (.aload_n 0, 1) := by decide +kernel
theorem dX8_init_177 : decode cX8_init 177 = .ok (.bipush 8, 2) := by decide +kernel
theorem dX8_init_179 : decode cX8_init 179 = .ok (.newarray .int, 2) := by decide +kernel
theorem dX8_init_181 : decode cX8_init 181 = .ok (.putfield 74, 3) := by decide +kernel
theorem dX8_init_184 : decode cX8_init 184 = .ok (.aload_n 0, 1) := by decide +kernel
theorem dX8_init_185 : decode cX8_init 185 = .ok (.bipush 8, 2) := by decide +kernel
theorem dX8_init_187 : decode cX8_init 187 = .ok (.newarray .int, 2) := by decide +kernel
theorem dX8_init_189 : decode cX8_init 189 = .ok (.putfield 77, 3) := by decide +kernel
theorem dX8_init_192 : decode cX8_init 192 = .ok (.aload_n 0, 1) := by decide +kernel
theorem dX8_init_193 : decode cX8_init 193 = .ok (.bipush 8, 2) := by decide +kernel
theorem dX8_init_195 : decode cX8_init 195 = .ok (.newarray .int, 2) := by decide +kernel
theorem dX8_init_197 : decode cX8_init 197 = .ok (.putfield 80, 3) := by decide +kernel
theorem dX8_init_200 : decode cX8_init 200 = .ok (.aload_n 0, 1) := by decide +kernel
theorem dX8_init_201 : decode cX8_init 201 = .ok (.iconst 0, 1) := by decide +kernel
theorem dX8_init_202 : decode cX8_init 202 = .ok (.putfield 83, 3) := by decide +kernel
theorem dX8_init_205 : decode cX8_init 205 = .ok (.return_, 1) := by decide +kernel
theorem dX8_in_0 : decode cX8_in 0 = .ok (.iload_n 0, 1) := by decide +kernel
theorem dX8_in_1 : decode cX8_in 1 = .ok (.iload_n 1, 1) := by decide +kernel
theorem dX8_in_2 : decode cX8_in 2 = .ok (.if_icmp .lt 12, 3) := by decide +kernel
theorem dX8_in_5 : decode cX8_in 5 = .ok (.iload_n 0, 1) := by decide +kernel
theorem dX8_in_6 : decode cX8_in 6 = .ok (.iload_n 2, 1) := by decide +kernel
theorem dX8_in_7 : decode cX8_in 7 = .ok (.if_icmp .gt 7, 3) := by decide +kernel
theorem dX8_in_10 : decode cX8_in 10 = .ok (.iconst 1, 1) := by decide +kernel
theorem dX8_in_11 : decode cX8_in 11 = .ok (.goto 4, 3) := by decide +kernel
theorem dX8_in_14 : decode cX8_in 14 = .ok (.iconst 0, 1) := by decide +kernel
theorem dX8_in_15 : decode cX8_in 15 = .ok (.ireturn, 1) := by decide +kernel
set_option maxRecDepth 20000 in
theorem ggX8_isTransaction_X8_in : GoodIn wsX8_isTransaction wsX8_in := goodIn_r _ [5] (by decide +kernel) (by decide +kernel)
set_option maxRecDepth 20000 in
theorem gX8_isTransaction_X8_in : GoodIn wsX8_isTransaction (va_wsS RX8 87 yX8_in wsX8_in) := goodIn_app (goodIn_of _ (by decide +kernel)) ggX8_isTransaction_X8_in
theorem dX8_isTransaction_0 : decode cX8_isTransaction 0 = .ok (.iload_n 1, 1) := by decide +kernel
theorem dX8_isTransaction_1 : decode cX8_isTransaction 1 = .ok (.iconst 0, 1) := by decide +kernel
theorem dX8_isTransaction_2 : decode cX8_isTransaction 2 = .ok (.iconst 3, 1) := by decide +kernel
theorem dX8_isTransaction_3 : decode cX8_isTransaction 3 = .ok (.invokestatic 87, 3) := by decide +kernel
theorem dX8_isTransaction_6 : decode cX8_isTransaction 6 = .ok (.ifCond .eq 16, 3) := by decide +kernel
theorem dX8_isTransaction_9 : decode cX8_isTransaction 9 = .ok (.aload_n 0, 1) := by decide +kernel
theorem dX8_isTransaction_10 : decode cX8_isTransaction 10 = .ok (.getfield 7, 3) := by decide +kernel
theorem dX8_isTransaction_13 : decode cX8_isTransaction 13 = .ok (.iload_n 1, 1) := by decide +kernel
theorem dX8_isTransaction_14 : decode cX8_isTransaction 14 = .ok (.baload, 1) := by decide +kernel
theorem dX8_isTransaction_15 : decode cX8_isTransaction 15 = .ok (.ifCond .eq 7, 3) := by decide +kernel
theorem dX8_isTransaction_18 : decode cX8_isTransaction 18 = .ok (.iconst 1, 1) := by decide +kernel
theorem dX8_isTransaction_19 : decode cX8_isTransaction 19 = .ok (.goto 4, 3) := by decide +kernel
theorem dX8_isTransaction_22 : decode cX8_isTransaction 22 = .ok (.iconst 0, 1) := by decide +kernel
theorem dX8_isTransaction_23 : decode cX8_isTransaction 23 = .ok (.ireturn, 1) := by decide +kernel
set_option maxRecDepth 20000 in
theorem ggX8_isKey_X8_in : GoodIn wsX8_isKey wsX8_in := goodIn_r _ [4] (by decide +kernel) (by decide +kernel)
set_option maxRecDepth 20000 in
theorem gX8_isKey_X8_in : GoodIn wsX8_isKey (va_wsS RX8 87 yX8_in wsX8_in) := goodIn_app (goodIn_of _ (by decide +kernel)) ggX8_isKey_X8_in
theorem dX8_isKey_0 : decode cX8_isKey 0 = .ok (.iload_n 0, 1) := by decide +kernel
theorem dX8_isKey_1 : decode cX8_isKey 1 = .ok (.iconst 0, 1) := by decide +kernel
theorem dX8_isKey_2 : decode cX8_isKey 2 = .ok (.iconst 5, 1) := by decide +kernel
theorem dX8_isKey_3 : decode cX8_isKey 3 = .ok (.invokestatic 87, 3) := by decide +kernel
theorem dX8_isKey_6 : decode cX8_isKey 6 = .ok (.ireturn, 1) := by decide +kernel
set_option maxRecDepth 20000 in
theorem ggX8_begin_X8_clears : GoodIn wsX8_begin wsX8_clears := goodIn_r _ [6, 7, 8, 9, 10, 11, 12, 13, 14, 15, 16, 17, 18, 19, 20, 21, 22, 23, 24, 25, 26, 27, 28, 29, 30, 31, 32, 33, 34, 35, 36, 37, 38, 39, 40, 41, 42] (by decide +kernel) (by decide +kernel)
set_option maxRecDepth 20000 in
theorem gX8_begin_X8_clears : GoodIn wsX8_begin (wsV RX8 91 RX8 yX8_clears wsX8_clears) := goodIn_app (goodIn_of _ (by decide +kernel)) ggX8_begin_X8_clears
theorem dX8_begin_0 : decode cX8_begin 0 = .ok (.iconst 0, 1) := by decide +kernel
theorem dX8_begin_1 : decode cX8_begin 1 = .ok (.istore_n 1, 1) := by decide +kernel
theorem dX8_begin_2 : decode cX8_begin 2 = .ok (.iload_n 1, 1) := by decide +kernel
theorem dX8_begin_3 : decode cX8_begin 3 = .ok (.iconst 4, 1) := by decide +kernel
theorem dX8_begin_4 : decode cX8_begin 4 = .ok (.if_icmp .ge 32, 3) := by decide +kernel
theorem dX8_begin_7 : decode cX8_begin 7 = .ok (.aload_n 0, 1) := by decide +kernel
theorem dX8_begin_8 : decode cX8_begin 8 = .ok (.getfield 7, 3) := by decide +kernel
theorem dX8_begin_11 : decode cX8_begin 11 = .ok (.iload_n 1, 1) := by decide +kernel
theorem dX8_begin_12 : decode cX8_begin 12 = .ok (.baload, 1) := by decide +kernel
theorem dX8_begin_13 : decode cX8_begin 13 = .ok (.ifCond .ne 17, 3) := by decide +kernel
theorem dX8_begin_16 : decode cX8_begin 16 = .ok (.aload_n 0, 1) := by decide +kernel
theorem dX8_begin_17 : decode cX8_begin 17 = .ok (.getfield 7, 3) := by decide +kernel
theorem dX8_begin_20 : decode cX8_begin 20 = .ok (.iload_n 1, 1) := by decide +kernel
theorem dX8_begin_21 : decode cX8_begin 21 = .ok (.iconst 1, 1) := by decide +kernel
theorem dX8_begin_22 : decode cX8_begin 22 = .ok (.bastore, 1) := by decide +kernel
theorem dX8_begin_23 : decode cX8_begin 23 = .ok (.aload_n 0, 1) := by decide +kernel
theorem dX8_begin_24 : decode cX8_begin 24 = .ok (.iload_n 1, 1) := by decide +kernel
theorem dX8_begin_25 : decode cX8_begin 25 = .ok (.invokevirtual 91, 3) := by decide +kernel
theorem dX8_begin_28 : decode cX8_begin 28 = .ok (.iload_n 1, 1) := by decide +kernel
theorem dX8_begin_29 : decode cX8_begin 29 = .ok (.ireturn, 1) := by decide +kernel
theorem dX8_begin_30 : decode cX8_begin 30 = .ok (.iinc 1 1, 3) := by decide +kernel
theorem dX8_begin_33 : decode cX8_begin 33 = .ok (.goto (-31), 3) := by decide +kernel
theorem dX8_begin_36 : decode cX8_begin 36 = .ok (.bipush (-3), 2) := by decide +kernel
theorem dX8_begin_38 : decode cX8_begin 38 = .ok (.ireturn, 1) := by decide +kernel
theorem dX8_clears_0 : decode cX8_clears 0 = .ok (.iconst 0, 1) := by decide +kernel
theorem dX8_clears_1 : decode cX8_clears 1 = .ok (.istore_n 2, 1) := by decide +kernel
theorem dX8_clears_2 : decode cX8_clears 2 = .ok (.iload_n 2, 1) := by decide +kernel
theorem dX8_clears_3 : decode cX8_clears 3 = .ok (.bipush 6, 2) := by decide +kernel
theorem dX8_clears_5 : decode cX8_clears 5 = .ok (.if_icmp .ge 21, 3) := by decide +kernel
theorem dX8_clears_8 : decode cX8_clears 8 = .ok (.aload_n 0, 1) := by decide +kernel
theorem dX8_clears_9 : decode cX8_clears 9 = .ok (.getfield 13, 3) := by decide +kernel
theorem dX8_clears_12 : decode cX8_clears 12 = .ok (.bipush 6, 2) := by decide +kernel
theorem dX8_clears_14 : decode cX8_clears 14 = .ok (.iload_n 1, 1) := by decide +kernel
theorem dX8_clears_15 : decode cX8_clears 15 = .ok (.imul, 1) := by decide +kernel
theorem dX8_clears_16 : decode cX8_clears 16 = .ok (.iload_n 2, 1) := by decide +kernel
theorem dX8_clears_17 : decode cX8_clears 17 = .ok (.iadd, 1) := by decide +kernel
theorem dX8_clears_18 : decode cX8_clears 18 = .ok (.iconst 0, 1) := by decide +kernel
theorem dX8_clears_19 : decode cX8_clears 19 = .ok (.bastore, 1) := by decide +kernel
theorem dX8_clears_20 : decode cX8_clears 20 = .ok (.iinc 2 1, 3) := by decide +kernel
theorem dX8_clears_23 : decode cX8_clears 23 = .ok (.goto (-21), 3) := by decide +kernel
theorem dX8_clears_26 : decode cX8_clears 26 = .ok (.return_, 1) := by decide +kernel
theorem dX8_isUnderWay_0 : decode cX8_isUnderWay 0 = .ok (.iconst 0, 1) := by decide +kernel
theorem dX8_isUnderWay_1 : decode cX8_isUnderWay 1 = .ok (.istore_n 2, 1) := by decide +kernel
theorem dX8_isUnderWay_2 : decode cX8_isUnderWay 2 = .ok (.aload_n 0, 1) := by decide +kernel
theorem dX8_isUnderWay_3 : decode cX8_isUnderWay 3 = .ok (.getfield 95, 3) := by decide +kernel
theorem dX8_isUnderWay_6 : decode cX8_isUnderWay 6 = .ok (.istore_n 3, 1) := by decide +kernel
theorem dX8_isUnderWay_7 : decode cX8_isUnderWay 7 = .ok (.iload_n 3, 1) := by decide +kernel
theorem dX8_isUnderWay_8 : decode cX8_isUnderWay 8 = .ok (.aload_n 0, 1) := by decide +kernel
theorem dX8_isUnderWay_9 : decode cX8_isUnderWay 9 = .ok (.getfield 83, 3) := by decide +kernel
theorem dX8_isUnderWay_12 : decode cX8_isUnderWay 12 = .ok (.if_icmp .ge 29, 3) := by decide +kernel
theorem dX8_isUnderWay_15 : decode cX8_isUnderWay 15 = .ok (.iload_n 2, 1) := by decide +kernel
theorem dX8_isUnderWay_16 : decode cX8_isUnderWay 16 = .ok (.ifCond .ne 13, 3) := by decide +kernel
theorem dX8_isUnderWay_19 : decode cX8_isUnderWay 19 = .ok (.aload_n 0, 1) := by decide +kernel
theorem dX8_isUnderWay_20 : decode cX8_isUnderWay 20 = .ok (.getfield 26, 3) := by decide +kernel
theorem dX8_isUnderWay_23 : decode cX8_isUnderWay 23 = .ok (.iload_n 3, 1) := by decide +kernel
theorem dX8_isUnderWay_24 : decode cX8_isUnderWay 24 = .ok (.iaload, 1) := by decide +kernel
theorem dX8_isUnderWay_25 : decode cX8_isUnderWay 25 = .ok (.iload_n 1, 1) := by decide +kernel
theorem dX8_isUnderWay_26 : decode cX8_isUnderWay 26 = .ok (.if_icmp .ne 7, 3) := by decide +kernel
theorem dX8_isUnderWay_29 : decode cX8_isUnderWay 29 = .ok (.iconst 1, 1) := by decide +kernel
theorem dX8_isUnderWay_30 : decode cX8_isUnderWay 30 = .ok (.goto 4, 3) := by decide +kernel
theorem dX8_isUnderWay_33 : decode cX8_isUnderWay 33 = .ok (.iconst 0, 1) := by decide +kernel
theorem dX8_isUnderWay_34 : decode cX8_isUnderWay 34 = .ok (.istore_n 2, 1) := by decide +kernel
theorem dX8_isUnderWay_35 : decode cX8_isUnderWay 35 = .ok (.iinc 3 1, 3) := by decide +kernel
theorem dX8_isUnderWay_38 : decode cX8_isUnderWay 38 = .ok (.goto (-31), 3) := by decide +kernel
theorem dX8_isUnderWay_41 : decode cX8_isUnderWay 41 = .ok (.iload_n 2, 1) := by decide +kernel
theorem dX8_isUnderWay_42 : decode cX8_isUnderWay 42 = .ok (.ireturn, 1) := by decide +kernel
theorem dX8_writer_0 : decode cX8_writer 0 = .ok (.iconst 0, 1) := by decide +kernel
theorem dX8_writer_1 : decode cX8_writer 1 = .ok (.istore_n 2, 1) := by decide +kernel
theorem dX8_writer_2 : decode cX8_writer 2 = .ok (.iload_n 2, 1) := by decide +kernel
theorem dX8_writer_3 : decode cX8_writer 3 = .ok (.iconst 4, 1) := by decide +kernel
theorem dX8_writer_4 : decode cX8_writer 4 = .ok (.if_icmp .ge 34, 3) := by decide +kernel
theorem dX8_writer_7 : decode cX8_writer 7 = .ok (.aload_n 0, 1) := by decide +kernel
theorem dX8_writer_8 : decode cX8_writer 8 = .ok (.getfield 7, 3) := by decide +kernel
theorem dX8_writer_11 : decode cX8_writer 11 = .ok (.iload_n 2, 1) := by decide +kernel
theorem dX8_writer_12 : decode cX8_writer 12 = .ok (.baload, 1) := by decide +kernel
theorem dX8_writer_13 : decode cX8_writer 13 = .ok (.ifCond .eq 19, 3) := by decide +kernel
theorem dX8_writer_16 : decode cX8_writer 16 = .ok (.aload_n 0, 1) := by decide +kernel
theorem dX8_writer_17 : decode cX8_writer 17 = .ok (.getfield 13, 3) := by decide +kernel
theorem dX8_writer_20 : decode cX8_writer 20 = .ok (.bipush 6, 2) := by decide +kernel
theorem dX8_writer_22 : decode cX8_writer 22 = .ok (.iload_n 2, 1) := by decide +kernel
theorem dX8_writer_23 : decode cX8_writer 23 = .ok (.imul, 1) := by decide +kernel
theorem dX8_writer_24 : decode cX8_writer 24 = .ok (.iload_n 1, 1) := by decide +kernel
theorem dX8_writer_25 : decode cX8_writer 25 = .ok (.iadd, 1) := by decide +kernel
theorem dX8_writer_26 : decode cX8_writer 26 = .ok (.baload, 1) := by decide +kernel
theorem dX8_writer_27 : decode cX8_writer 27 = .ok (.ifCond .eq 5, 3) := by decide +kernel
theorem dX8_writer_30 : decode cX8_writer 30 = .ok (.iload_n 2, 1) := by decide +kernel
theorem dX8_writer_31 : decode cX8_writer 31 = .ok (.ireturn, 1) := by decide +kernel
theorem dX8_writer_32 : decode cX8_writer 32 = .ok (.iinc 2 1, 3) := by decide +kernel
theorem dX8_writer_35 : decode cX8_writer 35 = .ok (.goto (-33), 3) := by decide +kernel
theorem dX8_writer_38 : decode cX8_writer 38 = .ok (.iconst (-1), 1) := by decide +kernel
theorem dX8_writer_39 : decode cX8_writer 39 = .ok (.ireturn, 1) := by decide +kernel
set_option maxRecDepth 20000 in
theorem ggX8_write_X8_isTransaction : GoodIn wsX8_write wsX8_isTransaction := goodIn_r _ [7, 8, 9, 10, 6, 11, 26, 27, 28, 29, 30, 31, 32, 33, 34, 35, 36, 37, 38, 39, 40, 41, 42, 43, 44, 45, 46, 47, 48, 49, 50, 51, 52, 53, 54, 55, 56, 57, 58, 59, 60] (by decide +kernel) (by decide +kernel)
set_option maxRecDepth 20000 in
theorem gX8_write_X8_isTransaction : GoodIn wsX8_write (wsV RX8 98 RX8 yX8_isTransaction wsX8_isTransaction) := goodIn_app (goodIn_of _ (by decide +kernel)) ggX8_write_X8_isTransaction
set_option maxRecDepth 20000 in
theorem ggX8_write_X8_isKey : GoodIn wsX8_write wsX8_isKey := goodIn_r _ [14, 9, 10, 6, 11] (by decide +kernel) (by decide +kernel)
set_option maxRecDepth 20000 in
theorem gX8_write_X8_isKey : GoodIn wsX8_write (va_wsS RX8 102 yX8_isKey wsX8_isKey) := goodIn_app (goodIn_of _ (by decide +kernel)) ggX8_write_X8_isKey
set_option maxRecDepth 20000 in
theorem ggX8_write_X8_writer : GoodIn wsX8_write wsX8_writer := goodIn_r _ [18, 8, 1, 26, 27, 28, 29, 30, 31, 32, 33, 34, 35, 36, 37, 38, 39, 40, 41, 42, 43, 44, 45, 46, 47, 48, 49, 50, 51, 52, 53, 54, 55, 56, 57, 58, 59, 60] (by decide +kernel) (by decide +kernel)
set_option maxRecDepth 20000 in
theorem gX8_write_X8_writer : GoodIn wsX8_write (wsV RX8 105 RX8 yX8_writer wsX8_writer) := goodIn_app (goodIn_of _ (by decide +kernel)) ggX8_write_X8_writer
set_option maxRecDepth 20000 in
theorem ggX8_write_X8_isUnderWay : GoodIn wsX8_write wsX8_isUnderWay := goodIn_r _ [22, 23, 24, 25, 26, 27, 28, 29, 30, 31, 32, 33, 34, 35, 36, 37, 38, 39, 40, 41, 42, 43, 44, 45, 46, 47, 48, 49, 50, 51, 52, 53, 54, 55, 56, 57, 58, 59, 60] (by decide +kernel) (by decide +kernel)
set_option maxRecDepth 20000 in
theorem gX8_write_X8_isUnderWay : GoodIn wsX8_write (wsV RX8 109 RX8 yX8_isUnderWay wsX8_isUnderWay) := goodIn_app (goodIn_of _ (by decide +kernel)) ggX8_write_X8_isUnderWay
theorem dX8_write_0 : decode cX8_write 0 = .ok (.aload_n 0, 1) := by decide +kernel
theorem dX8_write_1 : decode cX8_write 1 = .ok (.iload_n 1, 1) := by decide +kernel
theorem dX8_write_2 : decode cX8_write 2 = .ok (.invokevirtual 98, 3) := by decide +kernel
theorem dX8_write_5 : decode cX8_write 5 = .ok (.ifCond .eq 10, 3) := by decide +kernel
theorem dX8_write_8 : decode cX8_write 8 = .ok (.iload_n 2, 1) := by decide +kernel
theorem dX8_write_9 : decode cX8_write 9 = .ok (.invokestatic 102, 3) := by decide +kernel
theorem dX8_write_12 : decode cX8_write 12 = .ok (.ifCond .ne 5, 3) := by decide +kernel
theorem dX8_write_15 : decode cX8_write 15 = .ok (.iconst (-1), 1) := by decide +kernel
theorem dX8_write_16 : decode cX8_write 16 = .ok (.ireturn, 1) := by decide +kernel
theorem dX8_write_17 : decode cX8_write 17 = .ok (.aload_n 0, 1) := by decide +kernel
theorem dX8_write_18 : decode cX8_write 18 = .ok (.iload_n 2, 1) := by decide +kernel
theorem dX8_write_19 : decode cX8_write 19 = .ok (.invokevirtual 105, 3) := by decide +kernel
theorem dX8_write_22 : decode cX8_write 22 = .ok (.istore 4, 2) := by decide +kernel
theorem dX8_write_24 : decode cX8_write 24 = .ok (.aload_n 0, 1) := by decide +kernel
theorem dX8_write_25 : decode cX8_write 25 = .ok (.iload_n 2, 1) := by decide +kernel
theorem dX8_write_26 : decode cX8_write 26 = .ok (.invokevirtual 109, 3) := by decide +kernel
theorem dX8_write_29 : decode cX8_write 29 = .ok (.ifCond .ne 14, 3) := by decide +kernel
theorem dX8_write_32 : decode cX8_write 32 = .ok (.iload 4, 2) := by decide +kernel
theorem dX8_write_34 : decode cX8_write 34 = .ok (.ifCond .lt 12, 3) := by decide +kernel
theorem dX8_write_37 : decode cX8_write 37 = .ok (.iload 4, 2) := by decide +kernel
theorem dX8_write_39 : decode cX8_write 39 = .ok (.iload_n 1, 1) := by decide +kernel
theorem dX8_write_40 : decode cX8_write 40 = .ok (.if_icmp .eq 6, 3) := by decide +kernel
theorem dX8_write_43 : decode cX8_write 43 = .ok (.bipush (-2), 2) := by decide +kernel
theorem dX8_write_45 : decode cX8_write 45 = .ok (.ireturn, 1) := by decide +kernel
theorem dX8_write_46 : decode cX8_write 46 = .ok (.aload_n 0, 1) := by decide +kernel
theorem dX8_write_47 : decode cX8_write 47 = .ok (.getfield 13, 3) := by decide +kernel
theorem dX8_write_50 : decode cX8_write 50 = .ok (.bipush 6, 2) := by decide +kernel
theorem dX8_write_52 : decode cX8_write 52 = .ok (.iload_n 1, 1) := by decide +kernel
theorem dX8_write_53 : decode cX8_write 53 = .ok (.imul, 1) := by decide +kernel
theorem dX8_write_54 : decode cX8_write 54 = .ok (.iload_n 2, 1) := by decide +kernel
theorem dX8_write_55 : decode cX8_write 55 = .ok (.iadd, 1) := by decide +kernel
theorem dX8_write_56 : decode cX8_write 56 = .ok (.iconst 1, 1) := by decide +kernel
theorem dX8_write_57 : decode cX8_write 57 = .ok (.bastore, 1) := by decide +kernel
theorem dX8_write_58 : decode cX8_write 58 = .ok (.aload_n 0, 1) := by decide +kernel
theorem dX8_write_59 : decode cX8_write 59 = .ok (.getfield 16, 3) := by decide +kernel
theorem dX8_write_62 : decode cX8_write 62 = .ok (.bipush 6, 2) := by decide +kernel
theorem dX8_write_64 : decode cX8_write 64 = .ok (.iload_n 1, 1) := by decide +kernel
theorem dX8_write_65 : decode cX8_write 65 = .ok (.imul, 1) := by decide +kernel
theorem dX8_write_66 : decode cX8_write 66 = .ok (.iload_n 2, 1) := by decide +kernel
theorem dX8_write_67 : decode cX8_write 67 = .ok (.iadd, 1) := by decide +kernel
theorem dX8_write_68 : decode cX8_write 68 = .ok (.iload_n 3, 1) := by decide +kernel
theorem dX8_write_69 : decode cX8_write 69 = .ok (.iastore, 1) := by decide +kernel
theorem dX8_write_70 : decode cX8_write 70 = .ok (.iconst 1, 1) := by decide +kernel
theorem dX8_write_71 : decode cX8_write 71 = .ok (.ireturn, 1) := by decide +kernel
set_option maxRecDepth 20000 in
theorem ggX8_read_X8_isTransaction : GoodIn wsX8_read wsX8_isTransaction := goodIn_r _ [8, 9, 10, 11, 7, 12, 16, 17, 18, 19, 20, 21, 22, 23, 24, 25, 26, 27, 28, 29, 30, 31, 32, 33, 34, 35, 36, 37, 38, 39, 40, 41, 42, 43, 44, 45, 46, 47, 48, 49, 50] (by decide +kernel) (by decide +kernel)
set_option maxRecDepth 20000 in
theorem gX8_read_X8_isTransaction : GoodIn wsX8_read (wsV RX8 98 RX8 yX8_isTransaction wsX8_isTransaction) := goodIn_app (goodIn_of _ (by decide +kernel)) ggX8_read_X8_isTransaction
set_option maxRecDepth 20000 in
theorem ggX8_read_X8_isKey : GoodIn wsX8_read wsX8_isKey := goodIn_r _ [15, 10, 11, 7, 12] (by decide +kernel) (by decide +kernel)
set_option maxRecDepth 20000 in
theorem gX8_read_X8_isKey : GoodIn wsX8_read (va_wsS RX8 102 yX8_isKey wsX8_isKey) := goodIn_app (goodIn_of _ (by decide +kernel)) ggX8_read_X8_isKey
theorem dX8_read_0 : decode cX8_read 0 = .ok (.aload_n 0, 1) := by decide +kernel
theorem dX8_read_1 : decode cX8_read 1 = .ok (.iload_n 1, 1) := by decide +kernel
theorem dX8_read_2 : decode cX8_read 2 = .ok (.invokevirtual 98, 3) := by decide +kernel
theorem dX8_read_5 : decode cX8_read 5 = .ok (.ifCond .eq 10, 3) := by decide +kernel
theorem dX8_read_8 : decode cX8_read 8 = .ok (.iload_n 2, 1) := by decide +kernel
theorem dX8_read_9 : decode cX8_read 9 = .ok (.invokestatic 102, 3) := by decide +kernel
theorem dX8_read_12 : decode cX8_read 12 = .ok (.ifCond .ne 5, 3) := by decide +kernel
theorem dX8_read_15 : decode cX8_read 15 = .ok (.iconst 0, 1) := by decide +kernel
theorem dX8_read_16 : decode cX8_read 16 = .ok (.ireturn, 1) := by decide +kernel
theorem dX8_read_17 : decode cX8_read 17 = .ok (.aload_n 0, 1) := by decide +kernel
theorem dX8_read_18 : decode cX8_read 18 = .ok (.getfield 13, 3) := by decide +kernel
theorem dX8_read_21 : decode cX8_read 21 = .ok (.bipush 6, 2) := by decide +kernel
theorem dX8_read_23 : decode cX8_read 23 = .ok (.iload_n 1, 1) := by decide +kernel
theorem dX8_read_24 : decode cX8_read 24 = .ok (.imul, 1) := by decide +kernel
theorem dX8_read_25 : decode cX8_read 25 = .ok (.iload_n 2, 1) := by decide +kernel
theorem dX8_read_26 : decode cX8_read 26 = .ok (.iadd, 1) := by decide +kernel
theorem dX8_read_27 : decode cX8_read 27 = .ok (.baload, 1) := by decide +kernel
theorem dX8_read_28 : decode cX8_read 28 = .ok (.ifCond .eq 17, 3) := by decide +kernel
theorem dX8_read_31 : decode cX8_read 31 = .ok (.aload_n 0, 1) := by decide +kernel
theorem dX8_read_32 : decode cX8_read 32 = .ok (.getfield 16, 3) := by decide +kernel
theorem dX8_read_35 : decode cX8_read 35 = .ok (.bipush 6, 2) := by decide +kernel
theorem dX8_read_37 : decode cX8_read 37 = .ok (.iload_n 1, 1) := by decide +kernel
theorem dX8_read_38 : decode cX8_read 38 = .ok (.imul, 1) := by decide +kernel
theorem dX8_read_39 : decode cX8_read 39 = .ok (.iload_n 2, 1) := by decide +kernel
theorem dX8_read_40 : decode cX8_read 40 = .ok (.iadd, 1) := by decide +kernel
theorem dX8_read_41 : decode cX8_read 41 = .ok (.iaload, 1) := by decide +kernel
theorem dX8_read_42 : decode cX8_read 42 = .ok (.goto 9, 3) := by decide +kernel
theorem dX8_read_45 : decode cX8_read 45 = .ok (.aload_n 0, 1) := by decide +kernel
theorem dX8_read_46 : decode cX8_read 46 = .ok (.getfield 20, 3) := by decide +kernel
theorem dX8_read_49 : decode cX8_read 49 = .ok (.iload_n 2, 1) := by decide +kernel
theorem dX8_read_50 : decode cX8_read 50 = .ok (.iaload, 1) := by decide +kernel
theorem dX8_read_51 : decode cX8_read 51 = .ok (.ireturn, 1) := by decide +kernel
theorem dX8_writtenBy_0 : decode cX8_writtenBy 0 = .ok (.iconst 0, 1) := by decide +kernel
theorem dX8_writtenBy_1 : decode cX8_writtenBy 1 = .ok (.istore_n 2, 1) := by decide +kernel
theorem dX8_writtenBy_2 : decode cX8_writtenBy 2 = .ok (.iconst 0, 1) := by decide +kernel
theorem dX8_writtenBy_3 : decode cX8_writtenBy 3 = .ok (.istore_n 3, 1) := by decide +kernel
theorem dX8_writtenBy_4 : decode cX8_writtenBy 4 = .ok (.iload_n 3, 1) := by decide +kernel
theorem dX8_writtenBy_5 : decode cX8_writtenBy 5 = .ok (.bipush 6, 2) := by decide +kernel
theorem dX8_writtenBy_7 : decode cX8_writtenBy 7 = .ok (.if_icmp .ge 31, 3) := by decide +kernel
theorem dX8_writtenBy_10 : decode cX8_writtenBy 10 = .ok (.iload_n 2, 1) := by decide +kernel
theorem dX8_writtenBy_11 : decode cX8_writtenBy 11 = .ok (.aload_n 0, 1) := by decide +kernel
theorem dX8_writtenBy_12 : decode cX8_writtenBy 12 = .ok (.getfield 13, 3) := by decide +kernel
theorem dX8_writtenBy_15 : decode cX8_writtenBy 15 = .ok (.bipush 6, 2) := by decide +kernel
theorem dX8_writtenBy_17 : decode cX8_writtenBy 17 = .ok (.iload_n 1, 1) := by decide +kernel
theorem dX8_writtenBy_18 : decode cX8_writtenBy 18 = .ok (.imul, 1) := by decide +kernel
theorem dX8_writtenBy_19 : decode cX8_writtenBy 19 = .ok (.iload_n 3, 1) := by decide +kernel
theorem dX8_writtenBy_20 : decode cX8_writtenBy 20 = .ok (.iadd, 1) := by decide +kernel
theorem dX8_writtenBy_21 : decode cX8_writtenBy 21 = .ok (.baload, 1) := by decide +kernel
theorem dX8_writtenBy_22 : decode cX8_writtenBy 22 = .ok (.ifCond .eq 7, 3) := by decide +kernel
theorem dX8_writtenBy_25 : decode cX8_writtenBy 25 = .ok (.iconst 1, 1) := by decide +kernel
theorem dX8_writtenBy_26 : decode cX8_writtenBy 26 = .ok (.goto 4, 3) := by decide +kernel
theorem dX8_writtenBy_29 : decode cX8_writtenBy 29 = .ok (.iconst 0, 1) := by decide +kernel
theorem dX8_writtenBy_30 : decode cX8_writtenBy 30 = .ok (.iadd, 1) := by decide +kernel
theorem dX8_writtenBy_31 : decode cX8_writtenBy 31 = .ok (.istore_n 2, 1) := by decide +kernel
theorem dX8_writtenBy_32 : decode cX8_writtenBy 32 = .ok (.iinc 3 1, 3) := by decide +kernel
theorem dX8_writtenBy_35 : decode cX8_writtenBy 35 = .ok (.goto (-31), 3) := by decide +kernel
theorem dX8_writtenBy_38 : decode cX8_writtenBy 38 = .ok (.iload_n 2, 1) := by decide +kernel
theorem dX8_writtenBy_39 : decode cX8_writtenBy 39 = .ok (.ireturn, 1) := by decide +kernel
set_option maxRecDepth 20000 in
theorem ggX8_commit_X8_isTransaction : GoodIn wsX8_commit wsX8_isTransaction := goodIn_r _ [16, 11, 17, 18, 15, 19, 28, 29, 30, 31, 32, 33, 34, 35, 36, 37, 38, 39, 40, 41, 42, 43, 44, 45, 46, 47, 48, 49, 50, 51, 52, 53, 54, 55, 56, 57, 58, 59, 60, 61, 62] (by decide +kernel) (by decide +kernel)
set_option maxRecDepth 20000 in
theorem gX8_commit_X8_isTransaction : GoodIn wsX8_commit (wsV RX8 98 RX8 yX8_isTransaction wsX8_isTransaction) := goodIn_app (goodIn_of _ (by decide +kernel)) ggX8_commit_X8_isTransaction
set_option maxRecDepth 20000 in
theorem ggX8_commit_X8_writtenBy : GoodIn wsX8_commit wsX8_writtenBy := goodIn_r _ [23, 2, 28, 29, 30, 31, 32, 33, 34, 35, 36, 37, 38, 39, 40, 41, 42, 43, 44, 45, 46, 47, 48, 49, 50, 51, 52, 53, 54, 55, 56, 57, 58, 59, 60, 61, 62] (by decide +kernel) (by decide +kernel)
set_option maxRecDepth 20000 in
theorem gX8_commit_X8_writtenBy : GoodIn wsX8_commit (wsV RX8 112 RX8 yX8_writtenBy wsX8_writtenBy) := goodIn_app (goodIn_of _ (by decide +kernel)) ggX8_commit_X8_writtenBy
set_option maxRecDepth 20000 in
theorem ggX8_commit_X8_clears : GoodIn wsX8_commit wsX8_clears := goodIn_r _ [27, 2, 28, 29, 30, 31, 32, 33, 34, 35, 36, 37, 38, 39, 40, 41, 42, 43, 44, 45, 46, 47, 48, 49, 50, 51, 52, 53, 54, 55, 56, 57, 58, 59, 60, 61, 62] (by decide +kernel) (by decide +kernel)
set_option maxRecDepth 20000 in
theorem gX8_commit_X8_clears : GoodIn wsX8_commit (wsV RX8 91 RX8 yX8_clears wsX8_clears) := goodIn_app (goodIn_of _ (by decide +kernel)) ggX8_commit_X8_clears
theorem dX8_commit_0 : decode cX8_commit 0 = .ok (.aload_n 0, 1) := by decide +kernel
theorem dX8_commit_1 : decode cX8_commit 1 = .ok (.iload_n 1, 1) := by decide +kernel
theorem dX8_commit_2 : decode cX8_commit 2 = .ok (.invokevirtual 98, 3) := by decide +kernel
theorem dX8_commit_5 : decode cX8_commit 5 = .ok (.ifCond .ne 5, 3) := by decide +kernel
theorem dX8_commit_8 : decode cX8_commit 8 = .ok (.iconst (-1), 1) := by decide +kernel
theorem dX8_commit_9 : decode cX8_commit 9 = .ok (.ireturn, 1) := by decide +kernel
theorem dX8_commit_10 : decode cX8_commit 10 = .ok (.aload_n 0, 1) := by decide +kernel
theorem dX8_commit_11 : decode cX8_commit 11 = .ok (.iload_n 1, 1) := by decide +kernel
theorem dX8_commit_12 : decode cX8_commit 12 = .ok (.invokevirtual 112, 3) := by decide +kernel
theorem dX8_commit_15 : decode cX8_commit 15 = .ok (.istore_n 2, 1) := by decide +kernel
theorem dX8_commit_16 : decode cX8_commit 16 = .ok (.aload_n 0, 1) := by decide +kernel
theorem dX8_commit_17 : decode cX8_commit 17 = .ok (.getfield 83, 3) := by decide +kernel
theorem dX8_commit_20 : decode cX8_commit 20 = .ok (.iload_n 2, 1) := by decide +kernel
theorem dX8_commit_21 : decode cX8_commit 21 = .ok (.iadd, 1) := by decide +kernel
theorem dX8_commit_22 : decode cX8_commit 22 = .ok (.sipush 400, 3) := by decide +kernel
theorem dX8_commit_25 : decode cX8_commit 25 = .ok (.if_icmp .le 6, 3) := by decide +kernel
theorem dX8_commit_28 : decode cX8_commit 28 = .ok (.bipush (-3), 2) := by decide +kernel
theorem dX8_commit_30 : decode cX8_commit 30 = .ok (.ireturn, 1) := by decide +kernel
theorem dX8_commit_31 : decode cX8_commit 31 = .ok (.iload_n 2, 1) := by decide +kernel
theorem dX8_commit_32 : decode cX8_commit 32 = .ok (.istore_n 3, 1) := by decide +kernel
theorem dX8_commit_33 : decode cX8_commit 33 = .ok (.iconst 0, 1) := by decide +kernel
theorem dX8_commit_34 : decode cX8_commit 34 = .ok (.istore 4, 2) := by decide +kernel
theorem dX8_commit_36 : decode cX8_commit 36 = .ok (.iload 4, 2) := by decide +kernel
theorem dX8_commit_38 : decode cX8_commit 38 = .ok (.bipush 6, 2) := by decide +kernel
theorem dX8_commit_40 : decode cX8_commit 40 = .ok (.if_icmp .ge 125, 3) := by decide +kernel
theorem dX8_commit_43 : decode cX8_commit 43 = .ok (.aload_n 0, 1) := by decide +kernel
theorem dX8_commit_44 : decode cX8_commit 44 = .ok (.getfield 13, 3) := by decide +kernel
theorem dX8_commit_47 : decode cX8_commit 47 = .ok (.bipush 6, 2) := by decide +kernel
theorem dX8_commit_49 : decode cX8_commit 49 = .ok (.iload_n 1, 1) := by decide +kernel
theorem dX8_commit_50 : decode cX8_commit 50 = .ok (.imul, 1) := by decide +kernel
theorem dX8_commit_51 : decode cX8_commit 51 = .ok (.iload 4, 2) := by decide +kernel
theorem dX8_commit_53 : decode cX8_commit 53 = .ok (.iadd, 1) := by decide +kernel
theorem dX8_commit_54 : decode cX8_commit 54 = .ok (.baload, 1) := by decide +kernel
theorem dX8_commit_55 : decode cX8_commit 55 = .ok (.ifCond .eq 104, 3) := by decide +kernel
theorem dX8_commit_58 : decode cX8_commit 58 = .ok (.iinc 3 (-1), 3) := by decide +kernel
theorem dX8_commit_61 : decode cX8_commit 61 = .ok (.aload_n 0, 1) := by decide +kernel
theorem dX8_commit_62 : decode cX8_commit 62 = .ok (.getfield 26, 3) := by decide +kernel
theorem dX8_commit_65 : decode cX8_commit 65 = .ok (.aload_n 0, 1) := by decide +kernel
theorem dX8_commit_66 : decode cX8_commit 66 = .ok (.getfield 83, 3) := by decide +kernel
theorem dX8_commit_69 : decode cX8_commit 69 = .ok (.iload 4, 2) := by decide +kernel
theorem dX8_commit_71 : decode cX8_commit 71 = .ok (.iastore, 1) := by decide +kernel
theorem dX8_commit_72 : decode cX8_commit 72 = .ok (.aload_n 0, 1) := by decide +kernel
theorem dX8_commit_73 : decode cX8_commit 73 = .ok (.getfield 29, 3) := by decide +kernel
theorem dX8_commit_76 : decode cX8_commit 76 = .ok (.aload_n 0, 1) := by decide +kernel
theorem dX8_commit_77 : decode cX8_commit 77 = .ok (.getfield 83, 3) := by decide +kernel
theorem dX8_commit_80 : decode cX8_commit 80 = .ok (.aload_n 0, 1) := by decide +kernel
theorem dX8_commit_81 : decode cX8_commit 81 = .ok (.getfield 16, 3) := by decide +kernel
theorem dX8_commit_84 : decode cX8_commit 84 = .ok (.bipush 6, 2) := by decide +kernel
theorem dX8_commit_86 : decode cX8_commit 86 = .ok (.iload_n 1, 1) := by decide +kernel
theorem dX8_commit_87 : decode cX8_commit 87 = .ok (.imul, 1) := by decide +kernel
theorem dX8_commit_88 : decode cX8_commit 88 = .ok (.iload 4, 2) := by decide +kernel
theorem dX8_commit_90 : decode cX8_commit 90 = .ok (.iadd, 1) := by decide +kernel
theorem dX8_commit_91 : decode cX8_commit 91 = .ok (.iaload, 1) := by decide +kernel
theorem dX8_commit_92 : decode cX8_commit 92 = .ok (.iastore, 1) := by decide +kernel
theorem dX8_commit_93 : decode cX8_commit 93 = .ok (.aload_n 0, 1) := by decide +kernel
theorem dX8_commit_94 : decode cX8_commit 94 = .ok (.getfield 32, 3) := by decide +kernel
theorem dX8_commit_97 : decode cX8_commit 97 = .ok (.aload_n 0, 1) := by decide +kernel
theorem dX8_commit_98 : decode cX8_commit 98 = .ok (.getfield 83, 3) := by decide +kernel
theorem dX8_commit_101 : decode cX8_commit 101 = .ok (.aload_n 0, 1) := by decide +kernel
theorem dX8_commit_102 : decode cX8_commit 102 = .ok (.getfield 23, 3) := by decide +kernel
theorem dX8_commit_105 : decode cX8_commit 105 = .ok (.iload 4, 2) := by decide +kernel
theorem dX8_commit_107 : decode cX8_commit 107 = .ok (.iaload, 1) := by decide +kernel
theorem dX8_commit_108 : decode cX8_commit 108 = .ok (.iconst 1, 1) := by decide +kernel
theorem dX8_commit_109 : decode cX8_commit 109 = .ok (.iadd, 1) := by decide +kernel
theorem dX8_commit_110 : decode cX8_commit 110 = .ok (.iastore, 1) := by decide +kernel
theorem dX8_commit_111 : decode cX8_commit 111 = .ok (.aload_n 0, 1) := by decide +kernel
theorem dX8_commit_112 : decode cX8_commit 112 = .ok (.getfield 35, 3) := by decide +kernel
theorem dX8_commit_115 : decode cX8_commit 115 = .ok (.aload_n 0, 1) := by decide +kernel
theorem dX8_commit_116 : decode cX8_commit 116 = .ok (.getfield 83, 3) := by decide +kernel
theorem dX8_commit_119 : decode cX8_commit 119 = .ok (.iload_n 3, 1) := by decide +kernel
theorem dX8_commit_120 : decode cX8_commit 120 = .ok (.ifCond .ne 7, 3) := by decide +kernel
theorem dX8_commit_123 : decode cX8_commit 123 = .ok (.iconst 1, 1) := by decide +kernel
theorem dX8_commit_124 : decode cX8_commit 124 = .ok (.goto 4, 3) := by decide +kernel
theorem dX8_commit_127 : decode cX8_commit 127 = .ok (.iconst 0, 1) := by decide +kernel
theorem dX8_commit_128 : decode cX8_commit 128 = .ok (.bastore, 1) := by decide +kernel
theorem dX8_commit_129 : decode cX8_commit 129 = .ok (.aload_n 0, 1) := by decide +kernel
theorem dX8_commit_130 : decode cX8_commit 130 = .ok (.getfield 59, 3) := by decide +kernel
theorem dX8_commit_133 : decode cX8_commit 133 = .ok (.aload_n 0, 1) := by decide +kernel
theorem dX8_commit_134 : decode cX8_commit 134 = .ok (.getfield 83, 3) := by decide +kernel
theorem dX8_commit_137 : decode cX8_commit 137 = .ok (.iconst 0, 1) := by decide +kernel
theorem dX8_commit_138 : decode cX8_commit 138 = .ok (.bastore, 1) := by decide +kernel
theorem dX8_commit_139 : decode cX8_commit 139 = .ok (.aload_n 0, 1) := by decide +kernel
theorem dX8_commit_140 : decode cX8_commit 140 = .ok (.getfield 68, 3) := by decide +kernel
theorem dX8_commit_143 : decode cX8_commit 143 = .ok (.aload_n 0, 1) := by decide +kernel
theorem dX8_commit_144 : decode cX8_commit 144 = .ok (.getfield 83, 3) := by decide +kernel
theorem dX8_commit_147 : decode cX8_commit 147 = .ok (.iconst 0, 1) := by decide +kernel
theorem dX8_commit_148 : decode cX8_commit 148 = .ok (.bastore, 1) := by decide +kernel
theorem dX8_commit_149 : decode cX8_commit 149 = .ok (.aload_n 0, 1) := by decide +kernel
theorem dX8_commit_150 : decode cX8_commit 150 = .ok (.dup, 1) := by decide +kernel
theorem dX8_commit_151 : decode cX8_commit 151 = .ok (.getfield 83, 3) := by decide +kernel
theorem dX8_commit_154 : decode cX8_commit 154 = .ok (.iconst 1, 1) := by decide +kernel
theorem dX8_commit_155 : decode cX8_commit 155 = .ok (.iadd, 1) := by decide +kernel
theorem dX8_commit_156 : decode cX8_commit 156 = .ok (.putfield 83, 3) := by decide +kernel
theorem dX8_commit_159 : decode cX8_commit 159 = .ok (.iinc 4 1, 3) := by decide +kernel
theorem dX8_commit_162 : decode cX8_commit 162 = .ok (.goto (-126), 3) := by decide +kernel
theorem dX8_commit_165 : decode cX8_commit 165 = .ok (.aload_n 0, 1) := by decide +kernel
theorem dX8_commit_166 : decode cX8_commit 166 = .ok (.getfield 7, 3) := by decide +kernel
theorem dX8_commit_169 : decode cX8_commit 169 = .ok (.iload_n 1, 1) := by decide +kernel
theorem dX8_commit_170 : decode cX8_commit 170 = .ok (.iconst 0, 1) := by decide +kernel
theorem dX8_commit_171 : decode cX8_commit 171 = .ok (.bastore, 1) := by decide +kernel
theorem dX8_commit_172 : decode cX8_commit 172 = .ok (.aload_n 0, 1) := by decide +kernel
theorem dX8_commit_173 : decode cX8_commit 173 = .ok (.iload_n 1, 1) := by decide +kernel
theorem dX8_commit_174 : decode cX8_commit 174 = .ok (.invokevirtual 91, 3) := by decide +kernel
theorem dX8_commit_177 : decode cX8_commit 177 = .ok (.iload_n 2, 1) := by decide +kernel
theorem dX8_commit_178 : decode cX8_commit 178 = .ok (.ireturn, 1) := by decide +kernel
set_option maxRecDepth 20000 in
theorem ggX8_abort_X8_isTransaction : GoodIn wsX8_abort wsX8_isTransaction := goodIn_r _ [6, 1, 7, 8, 5, 9, 19, 20, 21, 22, 23, 24, 25, 26, 27, 28, 29, 30, 31, 32, 33, 34, 35, 36, 37, 38, 39, 40, 41, 42, 43, 44, 45, 46, 47, 48, 49, 50, 51, 52, 53] (by decide +kernel) (by decide +kernel)
set_option maxRecDepth 20000 in
theorem gX8_abort_X8_isTransaction : GoodIn wsX8_abort (wsV RX8 98 RX8 yX8_isTransaction wsX8_isTransaction) := goodIn_app (goodIn_of _ (by decide +kernel)) ggX8_abort_X8_isTransaction
set_option maxRecDepth 20000 in
theorem ggX8_abort_X8_writtenBy : GoodIn wsX8_abort wsX8_writtenBy := goodIn_r _ [13, 14, 19, 20, 21, 22, 23, 24, 25, 26, 27, 28, 29, 30, 31, 32, 33, 34, 35, 36, 37, 38, 39, 40, 41, 42, 43, 44, 45, 46, 47, 48, 49, 50, 51, 52, 53] (by decide +kernel) (by decide +kernel)
set_option maxRecDepth 20000 in
theorem gX8_abort_X8_writtenBy : GoodIn wsX8_abort (wsV RX8 112 RX8 yX8_writtenBy wsX8_writtenBy) := goodIn_app (goodIn_of _ (by decide +kernel)) ggX8_abort_X8_writtenBy
set_option maxRecDepth 20000 in
theorem ggX8_abort_X8_clears : GoodIn wsX8_abort wsX8_clears := goodIn_r _ [18, 14, 19, 20, 21, 22, 23, 24, 25, 26, 27, 28, 29, 30, 31, 32, 33, 34, 35, 36, 37, 38, 39, 40, 41, 42, 43, 44, 45, 46, 47, 48, 49, 50, 51, 52, 53] (by decide +kernel) (by decide +kernel)
set_option maxRecDepth 20000 in
theorem gX8_abort_X8_clears : GoodIn wsX8_abort (wsV RX8 91 RX8 yX8_clears wsX8_clears) := goodIn_app (goodIn_of _ (by decide +kernel)) ggX8_abort_X8_clears
theorem dX8_abort_0 : decode cX8_abort 0 = .ok (.aload_n 0, 1) := by decide +kernel
theorem dX8_abort_1 : decode cX8_abort 1 = .ok (.iload_n 1, 1) := by decide +kernel
theorem dX8_abort_2 : decode cX8_abort 2 = .ok (.invokevirtual 98, 3) := by decide +kernel
theorem dX8_abort_5 : decode cX8_abort 5 = .ok (.ifCond .ne 5, 3) := by decide +kernel
theorem dX8_abort_8 : decode cX8_abort 8 = .ok (.iconst (-1), 1) := by decide +kernel
theorem dX8_abort_9 : decode cX8_abort 9 = .ok (.ireturn, 1) := by decide +kernel
theorem dX8_abort_10 : decode cX8_abort 10 = .ok (.aload_n 0, 1) := by decide +kernel
theorem dX8_abort_11 : decode cX8_abort 11 = .ok (.iload_n 1, 1) := by decide +kernel
theorem dX8_abort_12 : decode cX8_abort 12 = .ok (.invokevirtual 112, 3) := by decide +kernel
theorem dX8_abort_15 : decode cX8_abort 15 = .ok (.istore_n 2, 1) := by decide +kernel
theorem dX8_abort_16 : decode cX8_abort 16 = .ok (.aload_n 0, 1) := by decide +kernel
theorem dX8_abort_17 : decode cX8_abort 17 = .ok (.getfield 7, 3) := by decide +kernel
theorem dX8_abort_20 : decode cX8_abort 20 = .ok (.iload_n 1, 1) := by decide +kernel
theorem dX8_abort_21 : decode cX8_abort 21 = .ok (.iconst 0, 1) := by decide +kernel
theorem dX8_abort_22 : decode cX8_abort 22 = .ok (.bastore, 1) := by decide +kernel
theorem dX8_abort_23 : decode cX8_abort 23 = .ok (.aload_n 0, 1) := by decide +kernel
theorem dX8_abort_24 : decode cX8_abort 24 = .ok (.iload_n 1, 1) := by decide +kernel
theorem dX8_abort_25 : decode cX8_abort 25 = .ok (.invokevirtual 91, 3) := by decide +kernel
theorem dX8_abort_28 : decode cX8_abort 28 = .ok (.iload_n 2, 1) := by decide +kernel
theorem dX8_abort_29 : decode cX8_abort 29 = .ok (.ireturn, 1) := by decide +kernel
theorem dX8_flush_0 : decode cX8_flush 0 = .ok (.aload_n 0, 1) := by decide +kernel
theorem dX8_flush_1 : decode cX8_flush 1 = .ok (.getfield 83, 3) := by decide +kernel
theorem dX8_flush_4 : decode cX8_flush 4 = .ok (.aload_n 0, 1) := by decide +kernel
theorem dX8_flush_5 : decode cX8_flush 5 = .ok (.getfield 95, 3) := by decide +kernel
theorem dX8_flush_8 : decode cX8_flush 8 = .ok (.isub, 1) := by decide +kernel
theorem dX8_flush_9 : decode cX8_flush 9 = .ok (.istore_n 1, 1) := by decide +kernel
theorem dX8_flush_10 : decode cX8_flush 10 = .ok (.aload_n 0, 1) := by decide +kernel
theorem dX8_flush_11 : decode cX8_flush 11 = .ok (.getfield 95, 3) := by decide +kernel
theorem dX8_flush_14 : decode cX8_flush 14 = .ok (.aload_n 0, 1) := by decide +kernel
theorem dX8_flush_15 : decode cX8_flush 15 = .ok (.getfield 83, 3) := by decide +kernel
theorem dX8_flush_18 : decode cX8_flush 18 = .ok (.if_icmp .ge 57, 3) := by decide +kernel
theorem dX8_flush_21 : decode cX8_flush 21 = .ok (.aload_n 0, 1) := by decide +kernel
theorem dX8_flush_22 : decode cX8_flush 22 = .ok (.getfield 20, 3) := by decide +kernel
theorem dX8_flush_25 : decode cX8_flush 25 = .ok (.aload_n 0, 1) := by decide +kernel
theorem dX8_flush_26 : decode cX8_flush 26 = .ok (.getfield 26, 3) := by decide +kernel
theorem dX8_flush_29 : decode cX8_flush 29 = .ok (.aload_n 0, 1) := by decide +kernel
theorem dX8_flush_30 : decode cX8_flush 30 = .ok (.getfield 95, 3) := by decide +kernel
theorem dX8_flush_33 : decode cX8_flush 33 = .ok (.iaload, 1) := by decide +kernel
theorem dX8_flush_34 : decode cX8_flush 34 = .ok (.aload_n 0, 1) := by decide +kernel
theorem dX8_flush_35 : decode cX8_flush 35 = .ok (.getfield 29, 3) := by decide +kernel
theorem dX8_flush_38 : decode cX8_flush 38 = .ok (.aload_n 0, 1) := by decide +kernel
theorem dX8_flush_39 : decode cX8_flush 39 = .ok (.getfield 95, 3) := by decide +kernel
theorem dX8_flush_42 : decode cX8_flush 42 = .ok (.iaload, 1) := by decide +kernel
theorem dX8_flush_43 : decode cX8_flush 43 = .ok (.iastore, 1) := by decide +kernel
theorem dX8_flush_44 : decode cX8_flush 44 = .ok (.aload_n 0, 1) := by decide +kernel
theorem dX8_flush_45 : decode cX8_flush 45 = .ok (.getfield 23, 3) := by decide +kernel
theorem dX8_flush_48 : decode cX8_flush 48 = .ok (.aload_n 0, 1) := by decide +kernel
theorem dX8_flush_49 : decode cX8_flush 49 = .ok (.getfield 26, 3) := by decide +kernel
theorem dX8_flush_52 : decode cX8_flush 52 = .ok (.aload_n 0, 1) := by decide +kernel
theorem dX8_flush_53 : decode cX8_flush 53 = .ok (.getfield 95, 3) := by decide +kernel
theorem dX8_flush_56 : decode cX8_flush 56 = .ok (.iaload, 1) := by decide +kernel
theorem dX8_flush_57 : decode cX8_flush 57 = .ok (.dup2, 1) := by decide +kernel
theorem dX8_flush_58 : decode cX8_flush 58 = .ok (.iaload, 1) := by decide +kernel
theorem dX8_flush_59 : decode cX8_flush 59 = .ok (.iconst 1, 1) := by decide +kernel
theorem dX8_flush_60 : decode cX8_flush 60 = .ok (.iadd, 1) := by decide +kernel
theorem dX8_flush_61 : decode cX8_flush 61 = .ok (.iastore, 1) := by decide +kernel
theorem dX8_flush_62 : decode cX8_flush 62 = .ok (.aload_n 0, 1) := by decide +kernel
theorem dX8_flush_63 : decode cX8_flush 63 = .ok (.dup, 1) := by decide +kernel
theorem dX8_flush_64 : decode cX8_flush 64 = .ok (.getfield 95, 3) := by decide +kernel
theorem dX8_flush_67 : decode cX8_flush 67 = .ok (.iconst 1, 1) := by decide +kernel
theorem dX8_flush_68 : decode cX8_flush 68 = .ok (.iadd, 1) := by decide +kernel
theorem dX8_flush_69 : decode cX8_flush 69 = .ok (.putfield 95, 3) := by decide +kernel
theorem dX8_flush_72 : decode cX8_flush 72 = .ok (.goto (-62), 3) := by decide +kernel
theorem dX8_flush_75 : decode cX8_flush 75 = .ok (.iload_n 1, 1) := by decide +kernel
theorem dX8_flush_76 : decode cX8_flush 76 = .ok (.ireturn, 1) := by decide +kernel
set_option maxRecDepth 20000 in
theorem ggX8_crashSource_X8_clears : GoodIn wsX8_crashSource wsX8_clears := goodIn_r _ [8, 9, 10, 11, 12, 13, 14, 15, 16, 17, 18, 19, 20, 21, 22, 23, 24, 25, 26, 27, 28, 29, 30, 31, 32, 33, 34, 35, 36, 37, 38, 39, 40, 41, 42, 43, 44] (by decide +kernel) (by decide +kernel)
set_option maxRecDepth 20000 in
theorem gX8_crashSource_X8_clears : GoodIn wsX8_crashSource (wsV RX8 91 RX8 yX8_clears wsX8_clears) := goodIn_app (goodIn_of _ (by decide +kernel)) ggX8_crashSource_X8_clears
theorem dX8_crashSource_0 : decode cX8_crashSource 0 = .ok (.aload_n 0, 1) := by decide +kernel
theorem dX8_crashSource_1 : decode cX8_crashSource 1 = .ok (.getfield 83, 3) := by decide +kernel
theorem dX8_crashSource_4 : decode cX8_crashSource 4 = .ok (.aload_n 0, 1) := by decide +kernel
theorem dX8_crashSource_5 : decode cX8_crashSource 5 = .ok (.getfield 95, 3) := by decide +kernel
theorem dX8_crashSource_8 : decode cX8_crashSource 8 = .ok (.isub, 1) := by decide +kernel
theorem dX8_crashSource_9 : decode cX8_crashSource 9 = .ok (.istore_n 1, 1) := by decide +kernel
theorem dX8_crashSource_10 : decode cX8_crashSource 10 = .ok (.aload_n 0, 1) := by decide +kernel
theorem dX8_crashSource_11 : decode cX8_crashSource 11 = .ok (.aload_n 0, 1) := by decide +kernel
theorem dX8_crashSource_12 : decode cX8_crashSource 12 = .ok (.getfield 95, 3) := by decide +kernel
theorem dX8_crashSource_15 : decode cX8_crashSource 15 = .ok (.putfield 83, 3) := by decide +kernel
theorem dX8_crashSource_18 : decode cX8_crashSource 18 = .ok (.iconst 0, 1) := by decide +kernel
theorem dX8_crashSource_19 : decode cX8_crashSource 19 = .ok (.istore_n 2, 1) := by decide +kernel
theorem dX8_crashSource_20 : decode cX8_crashSource 20 = .ok (.iload_n 2, 1) := by decide +kernel
theorem dX8_crashSource_21 : decode cX8_crashSource 21 = .ok (.iconst 4, 1) := by decide +kernel
theorem dX8_crashSource_22 : decode cX8_crashSource 22 = .ok (.if_icmp .ge 21, 3) := by decide +kernel
theorem dX8_crashSource_25 : decode cX8_crashSource 25 = .ok (.aload_n 0, 1) := by decide +kernel
theorem dX8_crashSource_26 : decode cX8_crashSource 26 = .ok (.getfield 7, 3) := by decide +kernel
theorem dX8_crashSource_29 : decode cX8_crashSource 29 = .ok (.iload_n 2, 1) := by decide +kernel
theorem dX8_crashSource_30 : decode cX8_crashSource 30 = .ok (.iconst 0, 1) := by decide +kernel
theorem dX8_crashSource_31 : decode cX8_crashSource 31 = .ok (.bastore, 1) := by decide +kernel
theorem dX8_crashSource_32 : decode cX8_crashSource 32 = .ok (.aload_n 0, 1) := by decide +kernel
theorem dX8_crashSource_33 : decode cX8_crashSource 33 = .ok (.iload_n 2, 1) := by decide +kernel
theorem dX8_crashSource_34 : decode cX8_crashSource 34 = .ok (.invokevirtual 91, 3) := by decide +kernel
theorem dX8_crashSource_37 : decode cX8_crashSource 37 = .ok (.iinc 2 1, 3) := by decide +kernel
theorem dX8_crashSource_40 : decode cX8_crashSource 40 = .ok (.goto (-20), 3) := by decide +kernel
theorem dX8_crashSource_43 : decode cX8_crashSource 43 = .ok (.iload_n 1, 1) := by decide +kernel
theorem dX8_crashSource_44 : decode cX8_crashSource 44 = .ok (.ireturn, 1) := by decide +kernel
theorem dX8_crashTarget_0 : decode cX8_crashTarget 0 = .ok (.iconst 0, 1) := by decide +kernel
theorem dX8_crashTarget_1 : decode cX8_crashTarget 1 = .ok (.istore_n 1, 1) := by decide +kernel
theorem dX8_crashTarget_2 : decode cX8_crashTarget 2 = .ok (.iconst 0, 1) := by decide +kernel
theorem dX8_crashTarget_3 : decode cX8_crashTarget 3 = .ok (.istore_n 2, 1) := by decide +kernel
theorem dX8_crashTarget_4 : decode cX8_crashTarget 4 = .ok (.iload_n 2, 1) := by decide +kernel
theorem dX8_crashTarget_5 : decode cX8_crashTarget 5 = .ok (.bipush 6, 2) := by decide +kernel
theorem dX8_crashTarget_7 : decode cX8_crashTarget 7 = .ok (.if_icmp .ge 49, 3) := by decide +kernel
theorem dX8_crashTarget_10 : decode cX8_crashTarget 10 = .ok (.iload_n 1, 1) := by decide +kernel
theorem dX8_crashTarget_11 : decode cX8_crashTarget 11 = .ok (.aload_n 0, 1) := by decide +kernel
theorem dX8_crashTarget_12 : decode cX8_crashTarget 12 = .ok (.getfield 56, 3) := by decide +kernel
theorem dX8_crashTarget_15 : decode cX8_crashTarget 15 = .ok (.iload_n 2, 1) := by decide +kernel
theorem dX8_crashTarget_16 : decode cX8_crashTarget 16 = .ok (.iaload, 1) := by decide +kernel
theorem dX8_crashTarget_17 : decode cX8_crashTarget 17 = .ok (.aload_n 0, 1) := by decide +kernel
theorem dX8_crashTarget_18 : decode cX8_crashTarget 18 = .ok (.getfield 65, 3) := by decide +kernel
theorem dX8_crashTarget_21 : decode cX8_crashTarget 21 = .ok (.iload_n 2, 1) := by decide +kernel
theorem dX8_crashTarget_22 : decode cX8_crashTarget 22 = .ok (.iaload, 1) := by decide +kernel
theorem dX8_crashTarget_23 : decode cX8_crashTarget 23 = .ok (.isub, 1) := by decide +kernel
theorem dX8_crashTarget_24 : decode cX8_crashTarget 24 = .ok (.iadd, 1) := by decide +kernel
theorem dX8_crashTarget_25 : decode cX8_crashTarget 25 = .ok (.istore_n 1, 1) := by decide +kernel
theorem dX8_crashTarget_26 : decode cX8_crashTarget 26 = .ok (.aload_n 0, 1) := by decide +kernel
theorem dX8_crashTarget_27 : decode cX8_crashTarget 27 = .ok (.getfield 53, 3) := by decide +kernel
theorem dX8_crashTarget_30 : decode cX8_crashTarget 30 = .ok (.iload_n 2, 1) := by decide +kernel
theorem dX8_crashTarget_31 : decode cX8_crashTarget 31 = .ok (.aload_n 0, 1) := by decide +kernel
theorem dX8_crashTarget_32 : decode cX8_crashTarget 32 = .ok (.getfield 62, 3) := by decide +kernel
theorem dX8_crashTarget_35 : decode cX8_crashTarget 35 = .ok (.iload_n 2, 1) := by decide +kernel
theorem dX8_crashTarget_36 : decode cX8_crashTarget 36 = .ok (.iaload, 1) := by decide +kernel
theorem dX8_crashTarget_37 : decode cX8_crashTarget 37 = .ok (.iastore, 1) := by decide +kernel
theorem dX8_crashTarget_38 : decode cX8_crashTarget 38 = .ok (.aload_n 0, 1) := by decide +kernel
theorem dX8_crashTarget_39 : decode cX8_crashTarget 39 = .ok (.getfield 56, 3) := by decide +kernel
theorem dX8_crashTarget_42 : decode cX8_crashTarget 42 = .ok (.iload_n 2, 1) := by decide +kernel
theorem dX8_crashTarget_43 : decode cX8_crashTarget 43 = .ok (.aload_n 0, 1) := by decide +kernel
theorem dX8_crashTarget_44 : decode cX8_crashTarget 44 = .ok (.getfield 65, 3) := by decide +kernel
theorem dX8_crashTarget_47 : decode cX8_crashTarget 47 = .ok (.iload_n 2, 1) := by decide +kernel
theorem dX8_crashTarget_48 : decode cX8_crashTarget 48 = .ok (.iaload, 1) := by decide +kernel
theorem dX8_crashTarget_49 : decode cX8_crashTarget 49 = .ok (.iastore, 1) := by decide +kernel
theorem dX8_crashTarget_50 : decode cX8_crashTarget 50 = .ok (.iinc 2 1, 3) := by decide +kernel
theorem dX8_crashTarget_53 : decode cX8_crashTarget 53 = .ok (.goto (-49), 3) := by decide +kernel
theorem dX8_crashTarget_56 : decode cX8_crashTarget 56 = .ok (.iconst 0, 1) := by decide +kernel
theorem dX8_crashTarget_57 : decode cX8_crashTarget 57 = .ok (.istore_n 2, 1) := by decide +kernel
theorem dX8_crashTarget_58 : decode cX8_crashTarget 58 = .ok (.iload_n 2, 1) := by decide +kernel
theorem dX8_crashTarget_59 : decode cX8_crashTarget 59 = .ok (.sipush 400, 3) := by decide +kernel
theorem dX8_crashTarget_62 : decode cX8_crashTarget 62 = .ok (.if_icmp .ge 21, 3) := by decide +kernel
theorem dX8_crashTarget_65 : decode cX8_crashTarget 65 = .ok (.aload_n 0, 1) := by decide +kernel
theorem dX8_crashTarget_66 : decode cX8_crashTarget 66 = .ok (.getfield 59, 3) := by decide +kernel
theorem dX8_crashTarget_69 : decode cX8_crashTarget 69 = .ok (.iload_n 2, 1) := by decide +kernel
theorem dX8_crashTarget_70 : decode cX8_crashTarget 70 = .ok (.aload_n 0, 1) := by decide +kernel
theorem dX8_crashTarget_71 : decode cX8_crashTarget 71 = .ok (.getfield 68, 3) := by decide +kernel
theorem dX8_crashTarget_74 : decode cX8_crashTarget 74 = .ok (.iload_n 2, 1) := by decide +kernel
theorem dX8_crashTarget_75 : decode cX8_crashTarget 75 = .ok (.baload, 1) := by decide +kernel
theorem dX8_crashTarget_76 : decode cX8_crashTarget 76 = .ok (.bastore, 1) := by decide +kernel
theorem dX8_crashTarget_77 : decode cX8_crashTarget 77 = .ok (.iinc 2 1, 3) := by decide +kernel
theorem dX8_crashTarget_80 : decode cX8_crashTarget 80 = .ok (.goto (-22), 3) := by decide +kernel
theorem dX8_crashTarget_83 : decode cX8_crashTarget 83 = .ok (.aload_n 0, 1) := by decide +kernel
theorem dX8_crashTarget_84 : decode cX8_crashTarget 84 = .ok (.iconst 0, 1) := by decide +kernel
theorem dX8_crashTarget_85 : decode cX8_crashTarget 85 = .ok (.putfield 115, 3) := by decide +kernel
theorem dX8_crashTarget_88 : decode cX8_crashTarget 88 = .ok (.iload_n 1, 1) := by decide +kernel
theorem dX8_crashTarget_89 : decode cX8_crashTarget 89 = .ok (.ireturn, 1) := by decide +kernel
set_option maxRecDepth 20000 in
theorem ggX8_crash_X8_in : GoodIn wsX8_crash wsX8_in := goodIn_r _ [7] (by decide +kernel) (by decide +kernel)
set_option maxRecDepth 20000 in
theorem gX8_crash_X8_in : GoodIn wsX8_crash (va_wsS RX8 87 yX8_in wsX8_in) := goodIn_app (goodIn_of _ (by decide +kernel)) ggX8_crash_X8_in
set_option maxRecDepth 20000 in
theorem ggX8_crash_X8_crashSource : GoodIn wsX8_crash wsX8_crashSource := goodIn_r _ [11, 12, 13, 14, 15, 16, 17, 6, 18, 19, 31, 32, 33, 34, 35, 36, 37, 38, 39, 40, 41, 42, 43, 44, 45, 46, 47, 48, 49, 50, 51, 52, 53, 54, 55, 56, 57, 58, 59, 60, 61, 62, 63, 64, 65] (by decide +kernel) (by decide +kernel)
set_option maxRecDepth 20000 in
theorem gX8_crash_X8_crashSource : GoodIn wsX8_crash (wsV RX8 121 RX8 yX8_crashSource wsX8_crashSource) := goodIn_app (goodIn_of _ (by decide +kernel)) ggX8_crash_X8_crashSource
set_option maxRecDepth 20000 in
theorem ggX8_crash_X8_crashTarget : GoodIn wsX8_crash wsX8_crashTarget := goodIn_r _ [23, 24, 25, 26, 27, 28, 29, 30, 31, 32, 33, 34, 35, 36, 37, 38, 39, 40, 41, 42, 43, 44, 45, 46, 47, 48, 49, 50, 51, 52, 53, 54, 55, 56, 57, 58, 59, 60, 61, 62, 63, 64, 65] (by decide +kernel) (by decide +kernel)
set_option maxRecDepth 20000 in
theorem gX8_crash_X8_crashTarget : GoodIn wsX8_crash (wsV RX8 131 RX8 yX8_crashTarget wsX8_crashTarget) := goodIn_app (goodIn_of _ (by decide +kernel)) ggX8_crash_X8_crashTarget
theorem dX8_crash_0 : decode cX8_crash 0 = .ok (.iload_n 1, 1) := by decide +kernel
theorem dX8_crash_1 : decode cX8_crash 1 = .ok (.iconst 0, 1) := by decide +kernel
theorem dX8_crash_2 : decode cX8_crash 2 = .ok (.iconst 2, 1) := by decide +kernel
theorem dX8_crash_3 : decode cX8_crash 3 = .ok (.invokestatic 87, 3) := by decide +kernel
theorem dX8_crash_6 : decode cX8_crash 6 = .ok (.ifCond .ne 5, 3) := by decide +kernel
theorem dX8_crash_9 : decode cX8_crash 9 = .ok (.iconst (-1), 1) := by decide +kernel
theorem dX8_crash_10 : decode cX8_crash 10 = .ok (.ireturn, 1) := by decide +kernel
theorem dX8_crash_11 : decode cX8_crash 11 = .ok (.aload_n 0, 1) := by decide +kernel
theorem dX8_crash_12 : decode cX8_crash 12 = .ok (.dup, 1) := by decide +kernel
theorem dX8_crash_13 : decode cX8_crash 13 = .ok (.getfield 118, 3) := by decide +kernel
theorem dX8_crash_16 : decode cX8_crash 16 = .ok (.iconst 1, 1) := by decide +kernel
theorem dX8_crash_17 : decode cX8_crash 17 = .ok (.iadd, 1) := by decide +kernel
theorem dX8_crash_18 : decode cX8_crash 18 = .ok (.putfield 118, 3) := by decide +kernel
theorem dX8_crash_21 : decode cX8_crash 21 = .ok (.iload_n 1, 1) := by decide +kernel
theorem dX8_crash_22 : decode cX8_crash 22 = .ok (.ifCond .ne 8, 3) := by decide +kernel
theorem dX8_crash_25 : decode cX8_crash 25 = .ok (.aload_n 0, 1) := by decide +kernel
theorem dX8_crash_26 : decode cX8_crash 26 = .ok (.invokevirtual 121, 3) := by decide +kernel
theorem dX8_crash_29 : decode cX8_crash 29 = .ok (.ireturn, 1) := by decide +kernel
theorem dX8_crash_30 : decode cX8_crash 30 = .ok (.iload_n 1, 1) := by decide +kernel
theorem dX8_crash_31 : decode cX8_crash 31 = .ok (.iconst 1, 1) := by decide +kernel
theorem dX8_crash_32 : decode cX8_crash 32 = .ok (.if_icmp .ne 23, 3) := by decide +kernel
theorem dX8_crash_35 : decode cX8_crash 35 = .ok (.aload_n 0, 1) := by decide +kernel
theorem dX8_crash_36 : decode cX8_crash 36 = .ok (.getfield 125, 3) := by decide +kernel
theorem dX8_crash_39 : decode cX8_crash 39 = .ok (.aload_n 0, 1) := by decide +kernel
theorem dX8_crash_40 : decode cX8_crash 40 = .ok (.getfield 128, 3) := by decide +kernel
theorem dX8_crash_43 : decode cX8_crash 43 = .ok (.isub, 1) := by decide +kernel
theorem dX8_crash_44 : decode cX8_crash 44 = .ok (.istore_n 2, 1) := by decide +kernel
theorem dX8_crash_45 : decode cX8_crash 45 = .ok (.aload_n 0, 1) := by decide +kernel
theorem dX8_crash_46 : decode cX8_crash 46 = .ok (.aload_n 0, 1) := by decide +kernel
theorem dX8_crash_47 : decode cX8_crash 47 = .ok (.getfield 128, 3) := by decide +kernel
theorem dX8_crash_50 : decode cX8_crash 50 = .ok (.putfield 125, 3) := by decide +kernel
theorem dX8_crash_53 : decode cX8_crash 53 = .ok (.iload_n 2, 1) := by decide +kernel
theorem dX8_crash_54 : decode cX8_crash 54 = .ok (.ireturn, 1) := by decide +kernel
theorem dX8_crash_55 : decode cX8_crash 55 = .ok (.aload_n 0, 1) := by decide +kernel
theorem dX8_crash_56 : decode cX8_crash 56 = .ok (.invokevirtual 131, 3) := by decide +kernel
theorem dX8_crash_59 : decode cX8_crash 59 = .ok (.ireturn, 1) := by decide +kernel
set_option maxRecDepth 20000 in
theorem ggX8_key_X8_isKey : GoodIn wsX8_key wsX8_isKey := goodIn_r _ [10, 11, 12, 9, 13] (by decide +kernel) (by decide +kernel)
set_option maxRecDepth 20000 in
theorem gX8_key_X8_isKey : GoodIn wsX8_key (va_wsS RX8 102 yX8_isKey wsX8_isKey) := goodIn_app (goodIn_of _ (by decide +kernel)) ggX8_key_X8_isKey
set_option maxRecDepth 20000 in
theorem ggX8_key_X8_isUnderWay : GoodIn wsX8_key wsX8_isUnderWay := goodIn_r _ [17, 18, 19, 20, 27, 28, 29, 30, 31, 32, 33, 34, 35, 36, 37, 38, 39, 40, 41, 42, 43, 44, 45, 46, 47, 48, 49, 50, 51, 52, 53, 54, 55, 56, 57, 58, 59, 60, 61] (by decide +kernel) (by decide +kernel)
set_option maxRecDepth 20000 in
theorem gX8_key_X8_isUnderWay : GoodIn wsX8_key (wsV RX8 109 RX8 yX8_isUnderWay wsX8_isUnderWay) := goodIn_app (goodIn_of _ (by decide +kernel)) ggX8_key_X8_isUnderWay
set_option maxRecDepth 20000 in
theorem ggX8_key_X8_writer : GoodIn wsX8_key wsX8_writer := goodIn_r _ [24, 25, 26, 27, 28, 29, 30, 31, 32, 33, 34, 35, 36, 37, 38, 39, 40, 41, 42, 43, 44, 45, 46, 47, 48, 49, 50, 51, 52, 53, 54, 55, 56, 57, 58, 59, 60, 61] (by decide +kernel) (by decide +kernel)
set_option maxRecDepth 20000 in
theorem gX8_key_X8_writer : GoodIn wsX8_key (wsV RX8 105 RX8 yX8_writer wsX8_writer) := goodIn_app (goodIn_of _ (by decide +kernel)) ggX8_key_X8_writer
theorem dX8_key_0 : decode cX8_key 0 = .ok (.iload_n 1, 1) := by decide +kernel
theorem dX8_key_1 : decode cX8_key 1 = .ok (.invokestatic 102, 3) := by decide +kernel
theorem dX8_key_4 : decode cX8_key 4 = .ok (.ifCond .ne 5, 3) := by decide +kernel
theorem dX8_key_7 : decode cX8_key 7 = .ok (.iconst 0, 1) := by decide +kernel
theorem dX8_key_8 : decode cX8_key 8 = .ok (.ireturn, 1) := by decide +kernel
theorem dX8_key_9 : decode cX8_key 9 = .ok (.iload_n 2, 1) := by decide +kernel
theorem dX8_key_10 : decode cX8_key 10 = .ok (.tableswitch 110 0 6 #[42, 49, 56, 82, 89, 96, 103], 42) := by decide +kernel
theorem dX8_key_52 : decode cX8_key 52 = .ok (.aload_n 0, 1) := by decide +kernel
theorem dX8_key_53 : decode cX8_key 53 = .ok (.getfield 20, 3) := by decide +kernel
theorem dX8_key_56 : decode cX8_key 56 = .ok (.iload_n 1, 1) := by decide +kernel
theorem dX8_key_57 : decode cX8_key 57 = .ok (.iaload, 1) := by decide +kernel
theorem dX8_key_58 : decode cX8_key 58 = .ok (.ireturn, 1) := by decide +kernel
theorem dX8_key_59 : decode cX8_key 59 = .ok (.aload_n 0, 1) := by decide +kernel
theorem dX8_key_60 : decode cX8_key 60 = .ok (.getfield 23, 3) := by decide +kernel
theorem dX8_key_63 : decode cX8_key 63 = .ok (.iload_n 1, 1) := by decide +kernel
theorem dX8_key_64 : decode cX8_key 64 = .ok (.iaload, 1) := by decide +kernel
theorem dX8_key_65 : decode cX8_key 65 = .ok (.ireturn, 1) := by decide +kernel
theorem dX8_key_66 : decode cX8_key 66 = .ok (.aload_n 0, 1) := by decide +kernel
theorem dX8_key_67 : decode cX8_key 67 = .ok (.iload_n 1, 1) := by decide +kernel
theorem dX8_key_68 : decode cX8_key 68 = .ok (.invokevirtual 109, 3) := by decide +kernel
theorem dX8_key_71 : decode cX8_key 71 = .ok (.ifCond .eq 7, 3) := by decide +kernel
theorem dX8_key_74 : decode cX8_key 74 = .ok (.iconst 2, 1) := by decide +kernel
theorem dX8_key_75 : decode cX8_key 75 = .ok (.goto 16, 3) := by decide +kernel
theorem dX8_key_78 : decode cX8_key 78 = .ok (.aload_n 0, 1) := by decide +kernel
theorem dX8_key_79 : decode cX8_key 79 = .ok (.iload_n 1, 1) := by decide +kernel
theorem dX8_key_80 : decode cX8_key 80 = .ok (.invokevirtual 105, 3) := by decide +kernel
theorem dX8_key_83 : decode cX8_key 83 = .ok (.ifCond .lt 7, 3) := by decide +kernel
theorem dX8_key_86 : decode cX8_key 86 = .ok (.iconst 1, 1) := by decide +kernel
theorem dX8_key_87 : decode cX8_key 87 = .ok (.goto 4, 3) := by decide +kernel
theorem dX8_key_90 : decode cX8_key 90 = .ok (.iconst 0, 1) := by decide +kernel
theorem dX8_key_91 : decode cX8_key 91 = .ok (.ireturn, 1) := by decide +kernel
theorem dX8_key_92 : decode cX8_key 92 = .ok (.aload_n 0, 1) := by decide +kernel
theorem dX8_key_93 : decode cX8_key 93 = .ok (.getfield 53, 3) := by decide +kernel
theorem dX8_key_96 : decode cX8_key 96 = .ok (.iload_n 1, 1) := by decide +kernel
theorem dX8_key_97 : decode cX8_key 97 = .ok (.iaload, 1) := by decide +kernel
theorem dX8_key_98 : decode cX8_key 98 = .ok (.ireturn, 1) := by decide +kernel
theorem dX8_key_99 : decode cX8_key 99 = .ok (.aload_n 0, 1) := by decide +kernel
theorem dX8_key_100 : decode cX8_key 100 = .ok (.getfield 56, 3) := by decide +kernel
theorem dX8_key_103 : decode cX8_key 103 = .ok (.iload_n 1, 1) := by decide +kernel
theorem dX8_key_104 : decode cX8_key 104 = .ok (.iaload, 1) := by decide +kernel
theorem dX8_key_105 : decode cX8_key 105 = .ok (.ireturn, 1) := by decide +kernel
theorem dX8_key_106 : decode cX8_key 106 = .ok (.aload_n 0, 1) := by decide +kernel
theorem dX8_key_107 : decode cX8_key 107 = .ok (.getfield 62, 3) := by decide +kernel
theorem dX8_key_110 : decode cX8_key 110 = .ok (.iload_n 1, 1) := by decide +kernel
theorem dX8_key_111 : decode cX8_key 111 = .ok (.iaload, 1) := by decide +kernel
theorem dX8_key_112 : decode cX8_key 112 = .ok (.ireturn, 1) := by decide +kernel
theorem dX8_key_113 : decode cX8_key 113 = .ok (.aload_n 0, 1) := by decide +kernel
theorem dX8_key_114 : decode cX8_key 114 = .ok (.getfield 65, 3) := by decide +kernel
theorem dX8_key_117 : decode cX8_key 117 = .ok (.iload_n 1, 1) := by decide +kernel
theorem dX8_key_118 : decode cX8_key 118 = .ok (.iaload, 1) := by decide +kernel
theorem dX8_key_119 : decode cX8_key 119 = .ok (.ireturn, 1) := by decide +kernel
theorem dX8_key_120 : decode cX8_key 120 = .ok (.iconst 0, 1) := by decide +kernel
theorem dX8_key_121 : decode cX8_key 121 = .ok (.ireturn, 1) := by decide +kernel
set_option maxRecDepth 20000 in
theorem ggX8_log_X8_in : GoodIn wsX8_log wsX8_in := goodIn_r _ [11] (by decide +kernel) (by decide +kernel)
set_option maxRecDepth 20000 in
theorem gX8_log_X8_in : GoodIn wsX8_log (va_wsS RX8 87 yX8_in wsX8_in) := goodIn_app (goodIn_of _ (by decide +kernel)) ggX8_log_X8_in
theorem dX8_log_0 : decode cX8_log 0 = .ok (.iload_n 2, 1) := by decide +kernel
theorem dX8_log_1 : decode cX8_log 1 = .ok (.iconst 0, 1) := by decide +kernel
theorem dX8_log_2 : decode cX8_log 2 = .ok (.iconst 4, 1) := by decide +kernel
theorem dX8_log_3 : decode cX8_log 3 = .ok (.invokestatic 87, 3) := by decide +kernel
theorem dX8_log_6 : decode cX8_log 6 = .ok (.ifCond .ne 5, 3) := by decide +kernel
theorem dX8_log_9 : decode cX8_log 9 = .ok (.iconst (-1), 1) := by decide +kernel
theorem dX8_log_10 : decode cX8_log 10 = .ok (.ireturn, 1) := by decide +kernel
theorem dX8_log_11 : decode cX8_log 11 = .ok (.iload_n 1, 1) := by decide +kernel
theorem dX8_log_12 : decode cX8_log 12 = .ok (.aload_n 0, 1) := by decide +kernel
theorem dX8_log_13 : decode cX8_log 13 = .ok (.getfield 134, 3) := by decide +kernel
theorem dX8_log_16 : decode cX8_log 16 = .ok (.aload_n 0, 1) := by decide +kernel
theorem dX8_log_17 : decode cX8_log 17 = .ok (.getfield 83, 3) := by decide +kernel
theorem dX8_log_20 : decode cX8_log 20 = .ok (.iconst 1, 1) := by decide +kernel
theorem dX8_log_21 : decode cX8_log 21 = .ok (.isub, 1) := by decide +kernel
theorem dX8_log_22 : decode cX8_log 22 = .ok (.invokestatic 87, 3) := by decide +kernel
theorem dX8_log_25 : decode cX8_log 25 = .ok (.ifCond .ne 6, 3) := by decide +kernel
theorem dX8_log_28 : decode cX8_log 28 = .ok (.bipush (-9), 2) := by decide +kernel
theorem dX8_log_30 : decode cX8_log 30 = .ok (.ireturn, 1) := by decide +kernel
theorem dX8_log_31 : decode cX8_log 31 = .ok (.iload_n 2, 1) := by decide +kernel
theorem dX8_log_32 : decode cX8_log 32 = .ok (.tableswitch 67 0 3 #[32, 39, 46, 53], 32) := by decide +kernel
theorem dX8_log_64 : decode cX8_log 64 = .ok (.aload_n 0, 1) := by decide +kernel
theorem dX8_log_65 : decode cX8_log 65 = .ok (.getfield 26, 3) := by decide +kernel
theorem dX8_log_68 : decode cX8_log 68 = .ok (.iload_n 1, 1) := by decide +kernel
end
section
theorem dX8_log_69 : decode cX8_log 69 = .ok (.iaload, 1) := by decide +kernel
theorem dX8_log_70 : decode cX8_log 70 = .ok (.ireturn, 1) := by decide +kernel
theorem dX8_log_71 : decode cX8_log 71 = .ok (.aload_n 0, 1) := by decide +kernel
theorem dX8_log_72 : decode cX8_log 72 = .ok (.getfield 29, 3) := by decide +kernel
theorem dX8_log_75 : decode cX8_log 75 = .ok (.iload_n 1, 1) := by decide +kernel
theorem dX8_log_76 : decode cX8_log 76 = .ok (.iaload, 1) := by decide +kernel
theorem dX8_log_77 : decode cX8_log 77 = .ok (.ireturn, 1) := by decide +kernel
theorem dX8_log_78 : decode cX8_log 78 = .ok (.aload_n 0, 1) := by decide +kernel
theorem dX8_log_79 : decode cX8_log 79 = .ok (.getfield 32, 3) := by decide +kernel
theorem dX8_log_82 : decode cX8_log 82 = .ok (.iload_n 1, 1) := by decide +kernel
theorem dX8_log_83 : decode cX8_log 83 = .ok (.iaload, 1) := by decide +kernel
theorem dX8_log_84 : decode cX8_log 84 = .ok (.ireturn, 1) := by decide +kernel
theorem dX8_log_85 : decode cX8_log 85 = .ok (.iload_n 1, 1) := by decide +kernel
theorem dX8_log_86 : decode cX8_log 86 = .ok (.aload_n 0, 1) := by decide +kernel
theorem dX8_log_87 : decode cX8_log 87 = .ok (.getfield 95, 3) := by decide +kernel
theorem dX8_log_90 : decode cX8_log 90 = .ok (.if_icmp .ge 7, 3) := by decide +kernel
theorem dX8_log_93 : decode cX8_log 93 = .ok (.iconst 1, 1) := by decide +kernel
theorem dX8_log_94 : decode cX8_log 94 = .ok (.goto 4, 3) := by decide +kernel
theorem dX8_log_97 : decode cX8_log 97 = .ok (.iconst 0, 1) := by decide +kernel
theorem dX8_log_98 : decode cX8_log 98 = .ok (.ireturn, 1) := by decide +kernel
theorem dX8_log_99 : decode cX8_log 99 = .ok (.aload_n 0, 1) := by decide +kernel
theorem dX8_log_100 : decode cX8_log 100 = .ok (.getfield 35, 3) := by decide +kernel
theorem dX8_log_103 : decode cX8_log 103 = .ok (.iload_n 1, 1) := by decide +kernel
theorem dX8_log_104 : decode cX8_log 104 = .ok (.baload, 1) := by decide +kernel
theorem dX8_log_105 : decode cX8_log 105 = .ok (.ifCond .eq 7, 3) := by decide +kernel
theorem dX8_log_108 : decode cX8_log 108 = .ok (.iconst 1, 1) := by decide +kernel
theorem dX8_log_109 : decode cX8_log 109 = .ok (.goto 4, 3) := by decide +kernel
theorem dX8_log_112 : decode cX8_log 112 = .ok (.iconst 0, 1) := by decide +kernel
theorem dX8_log_113 : decode cX8_log 113 = .ok (.ireturn, 1) := by decide +kernel
theorem dX8_relays_0 : decode cX8_relays 0 = .ok (.iconst 0, 1) := by decide +kernel
theorem dX8_relays_1 : decode cX8_relays 1 = .ok (.istore_n 2, 1) := by decide +kernel
theorem dX8_relays_2 : decode cX8_relays 2 = .ok (.iload_n 2, 1) := by decide +kernel
theorem dX8_relays_3 : decode cX8_relays 3 = .ok (.iload_n 1, 1) := by decide +kernel
theorem dX8_relays_4 : decode cX8_relays 4 = .ok (.if_icmp .ge 155, 3) := by decide +kernel
theorem dX8_relays_7 : decode cX8_relays 7 = .ok (.aload_n 0, 1) := by decide +kernel
theorem dX8_relays_8 : decode cX8_relays 8 = .ok (.getfield 125, 3) := by decide +kernel
theorem dX8_relays_11 : decode cX8_relays 11 = .ok (.aload_n 0, 1) := by decide +kernel
theorem dX8_relays_12 : decode cX8_relays 12 = .ok (.getfield 95, 3) := by decide +kernel
theorem dX8_relays_15 : decode cX8_relays 15 = .ok (.if_icmp .ge 144, 3) := by decide +kernel
theorem dX8_relays_18 : decode cX8_relays 18 = .ok (.aload_n 0, 1) := by decide +kernel
theorem dX8_relays_19 : decode cX8_relays 19 = .ok (.getfield 38, 3) := by decide +kernel
theorem dX8_relays_22 : decode cX8_relays 22 = .ok (.aload_n 0, 1) := by decide +kernel
theorem dX8_relays_23 : decode cX8_relays 23 = .ok (.getfield 26, 3) := by decide +kernel
theorem dX8_relays_26 : decode cX8_relays 26 = .ok (.aload_n 0, 1) := by decide +kernel
theorem dX8_relays_27 : decode cX8_relays 27 = .ok (.getfield 125, 3) := by decide +kernel
theorem dX8_relays_30 : decode cX8_relays 30 = .ok (.iaload, 1) := by decide +kernel
theorem dX8_relays_31 : decode cX8_relays 31 = .ok (.iconst 3, 1) := by decide +kernel
theorem dX8_relays_32 : decode cX8_relays 32 = .ok (.irem, 1) := by decide +kernel
theorem dX8_relays_33 : decode cX8_relays 33 = .ok (.iaload, 1) := by decide +kernel
theorem dX8_relays_34 : decode cX8_relays 34 = .ok (.bipush 40, 2) := by decide +kernel
theorem dX8_relays_36 : decode cX8_relays 36 = .ok (.if_icmp .ge 123, 3) := by decide +kernel
theorem dX8_relays_39 : decode cX8_relays 39 = .ok (.aload_n 0, 1) := by decide +kernel
theorem dX8_relays_40 : decode cX8_relays 40 = .ok (.getfield 26, 3) := by decide +kernel
theorem dX8_relays_43 : decode cX8_relays 43 = .ok (.aload_n 0, 1) := by decide +kernel
theorem dX8_relays_44 : decode cX8_relays 44 = .ok (.getfield 125, 3) := by decide +kernel
theorem dX8_relays_47 : decode cX8_relays 47 = .ok (.iaload, 1) := by decide +kernel
theorem dX8_relays_48 : decode cX8_relays 48 = .ok (.iconst 3, 1) := by decide +kernel
theorem dX8_relays_49 : decode cX8_relays 49 = .ok (.irem, 1) := by decide +kernel
theorem dX8_relays_50 : decode cX8_relays 50 = .ok (.istore_n 3, 1) := by decide +kernel
theorem dX8_relays_51 : decode cX8_relays 51 = .ok (.bipush 40, 2) := by decide +kernel
theorem dX8_relays_53 : decode cX8_relays 53 = .ok (.iload_n 3, 1) := by decide +kernel
theorem dX8_relays_54 : decode cX8_relays 54 = .ok (.imul, 1) := by decide +kernel
theorem dX8_relays_55 : decode cX8_relays 55 = .ok (.aload_n 0, 1) := by decide +kernel
theorem dX8_relays_56 : decode cX8_relays 56 = .ok (.getfield 38, 3) := by decide +kernel
theorem dX8_relays_59 : decode cX8_relays 59 = .ok (.iload_n 3, 1) := by decide +kernel
theorem dX8_relays_60 : decode cX8_relays 60 = .ok (.iaload, 1) := by decide +kernel
theorem dX8_relays_61 : decode cX8_relays 61 = .ok (.iadd, 1) := by decide +kernel
theorem dX8_relays_62 : decode cX8_relays 62 = .ok (.istore 4, 2) := by decide +kernel
theorem dX8_relays_64 : decode cX8_relays 64 = .ok (.aload_n 0, 1) := by decide +kernel
theorem dX8_relays_65 : decode cX8_relays 65 = .ok (.getfield 41, 3) := by decide +kernel
theorem dX8_relays_68 : decode cX8_relays 68 = .ok (.iload 4, 2) := by decide +kernel
theorem dX8_relays_70 : decode cX8_relays 70 = .ok (.aload_n 0, 1) := by decide +kernel
theorem dX8_relays_71 : decode cX8_relays 71 = .ok (.getfield 125, 3) := by decide +kernel
theorem dX8_relays_74 : decode cX8_relays 74 = .ok (.iastore, 1) := by decide +kernel
theorem dX8_relays_75 : decode cX8_relays 75 = .ok (.aload_n 0, 1) := by decide +kernel
theorem dX8_relays_76 : decode cX8_relays 76 = .ok (.getfield 44, 3) := by decide +kernel
theorem dX8_relays_79 : decode cX8_relays 79 = .ok (.iload 4, 2) := by decide +kernel
theorem dX8_relays_81 : decode cX8_relays 81 = .ok (.aload_n 0, 1) := by decide +kernel
theorem dX8_relays_82 : decode cX8_relays 82 = .ok (.getfield 26, 3) := by decide +kernel
theorem dX8_relays_85 : decode cX8_relays 85 = .ok (.aload_n 0, 1) := by decide +kernel
theorem dX8_relays_86 : decode cX8_relays 86 = .ok (.getfield 125, 3) := by decide +kernel
theorem dX8_relays_89 : decode cX8_relays 89 = .ok (.iaload, 1) := by decide +kernel
theorem dX8_relays_90 : decode cX8_relays 90 = .ok (.iastore, 1) := by decide +kernel
theorem dX8_relays_91 : decode cX8_relays 91 = .ok (.aload_n 0, 1) := by decide +kernel
theorem dX8_relays_92 : decode cX8_relays 92 = .ok (.getfield 47, 3) := by decide +kernel
theorem dX8_relays_95 : decode cX8_relays 95 = .ok (.iload 4, 2) := by decide +kernel
theorem dX8_relays_97 : decode cX8_relays 97 = .ok (.aload_n 0, 1) := by decide +kernel
theorem dX8_relays_98 : decode cX8_relays 98 = .ok (.getfield 32, 3) := by decide +kernel
theorem dX8_relays_101 : decode cX8_relays 101 = .ok (.aload_n 0, 1) := by decide +kernel
theorem dX8_relays_102 : decode cX8_relays 102 = .ok (.getfield 125, 3) := by decide +kernel
theorem dX8_relays_105 : decode cX8_relays 105 = .ok (.iaload, 1) := by decide +kernel
theorem dX8_relays_106 : decode cX8_relays 106 = .ok (.iastore, 1) := by decide +kernel
theorem dX8_relays_107 : decode cX8_relays 107 = .ok (.aload_n 0, 1) := by decide +kernel
theorem dX8_relays_108 : decode cX8_relays 108 = .ok (.getfield 50, 3) := by decide +kernel
theorem dX8_relays_111 : decode cX8_relays 111 = .ok (.iload 4, 2) := by decide +kernel
theorem dX8_relays_113 : decode cX8_relays 113 = .ok (.aload_n 0, 1) := by decide +kernel
theorem dX8_relays_114 : decode cX8_relays 114 = .ok (.getfield 29, 3) := by decide +kernel
theorem dX8_relays_117 : decode cX8_relays 117 = .ok (.aload_n 0, 1) := by decide +kernel
theorem dX8_relays_118 : decode cX8_relays 118 = .ok (.getfield 125, 3) := by decide +kernel
theorem dX8_relays_121 : decode cX8_relays 121 = .ok (.iaload, 1) := by decide +kernel
theorem dX8_relays_122 : decode cX8_relays 122 = .ok (.iastore, 1) := by decide +kernel
theorem dX8_relays_123 : decode cX8_relays 123 = .ok (.aload_n 0, 1) := by decide +kernel
theorem dX8_relays_124 : decode cX8_relays 124 = .ok (.getfield 38, 3) := by decide +kernel
theorem dX8_relays_127 : decode cX8_relays 127 = .ok (.iload_n 3, 1) := by decide +kernel
theorem dX8_relays_128 : decode cX8_relays 128 = .ok (.dup2, 1) := by decide +kernel
theorem dX8_relays_129 : decode cX8_relays 129 = .ok (.iaload, 1) := by decide +kernel
theorem dX8_relays_130 : decode cX8_relays 130 = .ok (.iconst 1, 1) := by decide +kernel
theorem dX8_relays_131 : decode cX8_relays 131 = .ok (.iadd, 1) := by decide +kernel
theorem dX8_relays_132 : decode cX8_relays 132 = .ok (.iastore, 1) := by decide +kernel
theorem dX8_relays_133 : decode cX8_relays 133 = .ok (.aload_n 0, 1) := by decide +kernel
theorem dX8_relays_134 : decode cX8_relays 134 = .ok (.dup, 1) := by decide +kernel
theorem dX8_relays_135 : decode cX8_relays 135 = .ok (.getfield 137, 3) := by decide +kernel
theorem dX8_relays_138 : decode cX8_relays 138 = .ok (.iconst 1, 1) := by decide +kernel
theorem dX8_relays_139 : decode cX8_relays 139 = .ok (.iadd, 1) := by decide +kernel
theorem dX8_relays_140 : decode cX8_relays 140 = .ok (.putfield 137, 3) := by decide +kernel
theorem dX8_relays_143 : decode cX8_relays 143 = .ok (.aload_n 0, 1) := by decide +kernel
theorem dX8_relays_144 : decode cX8_relays 144 = .ok (.dup, 1) := by decide +kernel
theorem dX8_relays_145 : decode cX8_relays 145 = .ok (.getfield 125, 3) := by decide +kernel
theorem dX8_relays_148 : decode cX8_relays 148 = .ok (.iconst 1, 1) := by decide +kernel
theorem dX8_relays_149 : decode cX8_relays 149 = .ok (.iadd, 1) := by decide +kernel
theorem dX8_relays_150 : decode cX8_relays 150 = .ok (.putfield 125, 3) := by decide +kernel
theorem dX8_relays_153 : decode cX8_relays 153 = .ok (.iinc 2 1, 3) := by decide +kernel
theorem dX8_relays_156 : decode cX8_relays 156 = .ok (.goto (-154), 3) := by decide +kernel
theorem dX8_relays_159 : decode cX8_relays 159 = .ok (.iload_n 2, 1) := by decide +kernel
theorem dX8_relays_160 : decode cX8_relays 160 = .ok (.ireturn, 1) := by decide +kernel
set_option maxRecDepth 20000 in
theorem ggX8_relay_X8_in : GoodIn wsX8_relay wsX8_in := goodIn_r _ [4] (by decide +kernel) (by decide +kernel)
set_option maxRecDepth 20000 in
theorem gX8_relay_X8_in : GoodIn wsX8_relay (va_wsS RX8 87 yX8_in wsX8_in) := goodIn_app (goodIn_of _ (by decide +kernel)) ggX8_relay_X8_in
set_option maxRecDepth 20000 in
theorem ggX8_relay_X8_relays : GoodIn wsX8_relay wsX8_relays := goodIn_r _ [8, 9, 10, 11, 12, 13, 14, 15, 16, 17, 18, 19, 20, 21, 22, 23, 24, 25, 26, 27, 28, 29, 30, 31, 32, 33, 34, 35, 36, 37, 38, 39, 40, 41, 42, 43, 44, 45, 46, 47, 48, 49, 50, 51, 52, 53, 54] (by decide +kernel) (by decide +kernel)
set_option maxRecDepth 20000 in
theorem gX8_relay_X8_relays : GoodIn wsX8_relay (wsV RX8 140 RX8 yX8_relays wsX8_relays) := goodIn_app (goodIn_of _ (by decide +kernel)) ggX8_relay_X8_relays
theorem dX8_relay_0 : decode cX8_relay 0 = .ok (.iload_n 1, 1) := by decide +kernel
theorem dX8_relay_1 : decode cX8_relay 1 = .ok (.iconst 1, 1) := by decide +kernel
theorem dX8_relay_2 : decode cX8_relay 2 = .ok (.bipush 20, 2) := by decide +kernel
theorem dX8_relay_4 : decode cX8_relay 4 = .ok (.invokestatic 87, 3) := by decide +kernel
theorem dX8_relay_7 : decode cX8_relay 7 = .ok (.ifCond .eq 11, 3) := by decide +kernel
theorem dX8_relay_10 : decode cX8_relay 10 = .ok (.aload_n 0, 1) := by decide +kernel
theorem dX8_relay_11 : decode cX8_relay 11 = .ok (.iload_n 1, 1) := by decide +kernel
theorem dX8_relay_12 : decode cX8_relay 12 = .ok (.invokevirtual 140, 3) := by decide +kernel
theorem dX8_relay_15 : decode cX8_relay 15 = .ok (.goto 4, 3) := by decide +kernel
theorem dX8_relay_18 : decode cX8_relay 18 = .ok (.iconst (-1), 1) := by decide +kernel
theorem dX8_relay_19 : decode cX8_relay 19 = .ok (.ireturn, 1) := by decide +kernel
theorem dX8_cut_0 : decode cX8_cut 0 = .ok (.aload_n 0, 1) := by decide +kernel
theorem dX8_cut_1 : decode cX8_cut 1 = .ok (.getfield 128, 3) := by decide +kernel
theorem dX8_cut_4 : decode cX8_cut 4 = .ok (.aload_n 0, 1) := by decide +kernel
theorem dX8_cut_5 : decode cX8_cut 5 = .ok (.getfield 134, 3) := by decide +kernel
theorem dX8_cut_8 : decode cX8_cut 8 = .ok (.isub, 1) := by decide +kernel
theorem dX8_cut_9 : decode cX8_cut 9 = .ok (.istore_n 1, 1) := by decide +kernel
theorem dX8_cut_10 : decode cX8_cut 10 = .ok (.aload_n 0, 1) := by decide +kernel
theorem dX8_cut_11 : decode cX8_cut 11 = .ok (.aload_n 0, 1) := by decide +kernel
theorem dX8_cut_12 : decode cX8_cut 12 = .ok (.getfield 128, 3) := by decide +kernel
theorem dX8_cut_15 : decode cX8_cut 15 = .ok (.putfield 134, 3) := by decide +kernel
theorem dX8_cut_18 : decode cX8_cut 18 = .ok (.iload_n 1, 1) := by decide +kernel
theorem dX8_cut_19 : decode cX8_cut 19 = .ok (.ireturn, 1) := by decide +kernel
set_option maxRecDepth 20000 in
theorem ggX8_isLane_X8_in : GoodIn wsX8_isLane wsX8_in := goodIn_r _ [4] (by decide +kernel) (by decide +kernel)
set_option maxRecDepth 20000 in
theorem gX8_isLane_X8_in : GoodIn wsX8_isLane (va_wsS RX8 87 yX8_in wsX8_in) := goodIn_app (goodIn_of _ (by decide +kernel)) ggX8_isLane_X8_in
theorem dX8_isLane_0 : decode cX8_isLane 0 = .ok (.iload_n 0, 1) := by decide +kernel
theorem dX8_isLane_1 : decode cX8_isLane 1 = .ok (.iconst 0, 1) := by decide +kernel
theorem dX8_isLane_2 : decode cX8_isLane 2 = .ok (.iconst 2, 1) := by decide +kernel
theorem dX8_isLane_3 : decode cX8_isLane 3 = .ok (.invokestatic 87, 3) := by decide +kernel
theorem dX8_isLane_6 : decode cX8_isLane 6 = .ok (.ireturn, 1) := by decide +kernel
theorem dX8_takesOut_0 : decode cX8_takesOut 0 = .ok (.aload_n 0, 1) := by decide +kernel
theorem dX8_takesOut_1 : decode cX8_takesOut 1 = .ok (.getfield 38, 3) := by decide +kernel
theorem dX8_takesOut_4 : decode cX8_takesOut 4 = .ok (.iload_n 1, 1) := by decide +kernel
theorem dX8_takesOut_5 : decode cX8_takesOut 5 = .ok (.dup2, 1) := by decide +kernel
theorem dX8_takesOut_6 : decode cX8_takesOut 6 = .ok (.iaload, 1) := by decide +kernel
theorem dX8_takesOut_7 : decode cX8_takesOut 7 = .ok (.iconst 1, 1) := by decide +kernel
theorem dX8_takesOut_8 : decode cX8_takesOut 8 = .ok (.isub, 1) := by decide +kernel
theorem dX8_takesOut_9 : decode cX8_takesOut 9 = .ok (.iastore, 1) := by decide +kernel
theorem dX8_takesOut_10 : decode cX8_takesOut 10 = .ok (.bipush 40, 2) := by decide +kernel
theorem dX8_takesOut_12 : decode cX8_takesOut 12 = .ok (.iload_n 1, 1) := by decide +kernel
theorem dX8_takesOut_13 : decode cX8_takesOut 13 = .ok (.imul, 1) := by decide +kernel
theorem dX8_takesOut_14 : decode cX8_takesOut 14 = .ok (.iload_n 2, 1) := by decide +kernel
theorem dX8_takesOut_15 : decode cX8_takesOut 15 = .ok (.iadd, 1) := by decide +kernel
theorem dX8_takesOut_16 : decode cX8_takesOut 16 = .ok (.istore_n 3, 1) := by decide +kernel
theorem dX8_takesOut_17 : decode cX8_takesOut 17 = .ok (.iload_n 3, 1) := by decide +kernel
theorem dX8_takesOut_18 : decode cX8_takesOut 18 = .ok (.bipush 40, 2) := by decide +kernel
theorem dX8_takesOut_20 : decode cX8_takesOut 20 = .ok (.iload_n 1, 1) := by decide +kernel
theorem dX8_takesOut_21 : decode cX8_takesOut 21 = .ok (.imul, 1) := by decide +kernel
theorem dX8_takesOut_22 : decode cX8_takesOut 22 = .ok (.aload_n 0, 1) := by decide +kernel
theorem dX8_takesOut_23 : decode cX8_takesOut 23 = .ok (.getfield 38, 3) := by decide +kernel
theorem dX8_takesOut_26 : decode cX8_takesOut 26 = .ok (.iload_n 1, 1) := by decide +kernel
theorem dX8_takesOut_27 : decode cX8_takesOut 27 = .ok (.iaload, 1) := by decide +kernel
theorem dX8_takesOut_28 : decode cX8_takesOut 28 = .ok (.iadd, 1) := by decide +kernel
theorem dX8_takesOut_29 : decode cX8_takesOut 29 = .ok (.if_icmp .ge 65, 3) := by decide +kernel
theorem dX8_takesOut_32 : decode cX8_takesOut 32 = .ok (.aload_n 0, 1) := by decide +kernel
theorem dX8_takesOut_33 : decode cX8_takesOut 33 = .ok (.getfield 41, 3) := by decide +kernel
theorem dX8_takesOut_36 : decode cX8_takesOut 36 = .ok (.iload_n 3, 1) := by decide +kernel
theorem dX8_takesOut_37 : decode cX8_takesOut 37 = .ok (.aload_n 0, 1) := by decide +kernel
theorem dX8_takesOut_38 : decode cX8_takesOut 38 = .ok (.getfield 41, 3) := by decide +kernel
theorem dX8_takesOut_41 : decode cX8_takesOut 41 = .ok (.iload_n 3, 1) := by decide +kernel
theorem dX8_takesOut_42 : decode cX8_takesOut 42 = .ok (.iconst 1, 1) := by decide +kernel
theorem dX8_takesOut_43 : decode cX8_takesOut 43 = .ok (.iadd, 1) := by decide +kernel
theorem dX8_takesOut_44 : decode cX8_takesOut 44 = .ok (.iaload, 1) := by decide +kernel
theorem dX8_takesOut_45 : decode cX8_takesOut 45 = .ok (.iastore, 1) := by decide +kernel
theorem dX8_takesOut_46 : decode cX8_takesOut 46 = .ok (.aload_n 0, 1) := by decide +kernel
theorem dX8_takesOut_47 : decode cX8_takesOut 47 = .ok (.getfield 44, 3) := by decide +kernel
theorem dX8_takesOut_50 : decode cX8_takesOut 50 = .ok (.iload_n 3, 1) := by decide +kernel
theorem dX8_takesOut_51 : decode cX8_takesOut 51 = .ok (.aload_n 0, 1) := by decide +kernel
theorem dX8_takesOut_52 : decode cX8_takesOut 52 = .ok (.getfield 44, 3) := by decide +kernel
theorem dX8_takesOut_55 : decode cX8_takesOut 55 = .ok (.iload_n 3, 1) := by decide +kernel
theorem dX8_takesOut_56 : decode cX8_takesOut 56 = .ok (.iconst 1, 1) := by decide +kernel
theorem dX8_takesOut_57 : decode cX8_takesOut 57 = .ok (.iadd, 1) := by decide +kernel
theorem dX8_takesOut_58 : decode cX8_takesOut 58 = .ok (.iaload, 1) := by decide +kernel
theorem dX8_takesOut_59 : decode cX8_takesOut 59 = .ok (.iastore, 1) := by decide +kernel
theorem dX8_takesOut_60 : decode cX8_takesOut 60 = .ok (.aload_n 0, 1) := by decide +kernel
theorem dX8_takesOut_61 : decode cX8_takesOut 61 = .ok (.getfield 47, 3) := by decide +kernel
theorem dX8_takesOut_64 : decode cX8_takesOut 64 = .ok (.iload_n 3, 1) := by decide +kernel
theorem dX8_takesOut_65 : decode cX8_takesOut 65 = .ok (.aload_n 0, 1) := by decide +kernel
theorem dX8_takesOut_66 : decode cX8_takesOut 66 = .ok (.getfield 47, 3) := by decide +kernel
theorem dX8_takesOut_69 : decode cX8_takesOut 69 = .ok (.iload_n 3, 1) := by decide +kernel
theorem dX8_takesOut_70 : decode cX8_takesOut 70 = .ok (.iconst 1, 1) := by decide +kernel
theorem dX8_takesOut_71 : decode cX8_takesOut 71 = .ok (.iadd, 1) := by decide +kernel
theorem dX8_takesOut_72 : decode cX8_takesOut 72 = .ok (.iaload, 1) := by decide +kernel
theorem dX8_takesOut_73 : decode cX8_takesOut 73 = .ok (.iastore, 1) := by decide +kernel
theorem dX8_takesOut_74 : decode cX8_takesOut 74 = .ok (.aload_n 0, 1) := by decide +kernel
theorem dX8_takesOut_75 : decode cX8_takesOut 75 = .ok (.getfield 50, 3) := by decide +kernel
theorem dX8_takesOut_78 : decode cX8_takesOut 78 = .ok (.iload_n 3, 1) := by decide +kernel
theorem dX8_takesOut_79 : decode cX8_takesOut 79 = .ok (.aload_n 0, 1) := by decide +kernel
theorem dX8_takesOut_80 : decode cX8_takesOut 80 = .ok (.getfield 50, 3) := by decide +kernel
theorem dX8_takesOut_83 : decode cX8_takesOut 83 = .ok (.iload_n 3, 1) := by decide +kernel
theorem dX8_takesOut_84 : decode cX8_takesOut 84 = .ok (.iconst 1, 1) := by decide +kernel
theorem dX8_takesOut_85 : decode cX8_takesOut 85 = .ok (.iadd, 1) := by decide +kernel
theorem dX8_takesOut_86 : decode cX8_takesOut 86 = .ok (.iaload, 1) := by decide +kernel
theorem dX8_takesOut_87 : decode cX8_takesOut 87 = .ok (.iastore, 1) := by decide +kernel
theorem dX8_takesOut_88 : decode cX8_takesOut 88 = .ok (.iinc 3 1, 3) := by decide +kernel
theorem dX8_takesOut_91 : decode cX8_takesOut 91 = .ok (.goto (-74), 3) := by decide +kernel
theorem dX8_takesOut_94 : decode cX8_takesOut 94 = .ok (.return_, 1) := by decide +kernel
theorem dX8_does_0 : decode cX8_does 0 = .ok (.aload_n 0, 1) := by decide +kernel
theorem dX8_does_1 : decode cX8_does 1 = .ok (.getfield 53, 3) := by decide +kernel
theorem dX8_does_4 : decode cX8_does 4 = .ok (.iload_n 1, 1) := by decide +kernel
theorem dX8_does_5 : decode cX8_does 5 = .ok (.iload_n 2, 1) := by decide +kernel
theorem dX8_does_6 : decode cX8_does 6 = .ok (.iastore, 1) := by decide +kernel
theorem dX8_does_7 : decode cX8_does 7 = .ok (.aload_n 0, 1) := by decide +kernel
theorem dX8_does_8 : decode cX8_does 8 = .ok (.getfield 56, 3) := by decide +kernel
theorem dX8_does_11 : decode cX8_does 11 = .ok (.iload_n 1, 1) := by decide +kernel
theorem dX8_does_12 : decode cX8_does 12 = .ok (.dup2, 1) := by decide +kernel
theorem dX8_does_13 : decode cX8_does 13 = .ok (.iaload, 1) := by decide +kernel
theorem dX8_does_14 : decode cX8_does 14 = .ok (.iconst 1, 1) := by decide +kernel
theorem dX8_does_15 : decode cX8_does 15 = .ok (.iadd, 1) := by decide +kernel
theorem dX8_does_16 : decode cX8_does 16 = .ok (.iastore, 1) := by decide +kernel
theorem dX8_does_17 : decode cX8_does 17 = .ok (.aload_n 0, 1) := by decide +kernel
theorem dX8_does_18 : decode cX8_does 18 = .ok (.getfield 59, 3) := by decide +kernel
theorem dX8_does_21 : decode cX8_does 21 = .ok (.iload_n 3, 1) := by decide +kernel
theorem dX8_does_22 : decode cX8_does 22 = .ok (.iconst 1, 1) := by decide +kernel
theorem dX8_does_23 : decode cX8_does 23 = .ok (.bastore, 1) := by decide +kernel
theorem dX8_does_24 : decode cX8_does 24 = .ok (.aload_n 0, 1) := by decide +kernel
theorem dX8_does_25 : decode cX8_does 25 = .ok (.dup, 1) := by decide +kernel
theorem dX8_does_26 : decode cX8_does 26 = .ok (.getfield 143, 3) := by decide +kernel
theorem dX8_does_29 : decode cX8_does 29 = .ok (.iconst 1, 1) := by decide +kernel
theorem dX8_does_30 : decode cX8_does 30 = .ok (.iadd, 1) := by decide +kernel
theorem dX8_does_31 : decode cX8_does 31 = .ok (.putfield 143, 3) := by decide +kernel
theorem dX8_does_34 : decode cX8_does 34 = .ok (.return_, 1) := by decide +kernel
theorem dX8_findHeld_0 : decode cX8_findHeld 0 = .ok (.iconst 0, 1) := by decide +kernel
theorem dX8_findHeld_1 : decode cX8_findHeld 1 = .ok (.istore_n 3, 1) := by decide +kernel
theorem dX8_findHeld_2 : decode cX8_findHeld 2 = .ok (.iload_n 3, 1) := by decide +kernel
theorem dX8_findHeld_3 : decode cX8_findHeld 3 = .ok (.aload_n 0, 1) := by decide +kernel
theorem dX8_findHeld_4 : decode cX8_findHeld 4 = .ok (.getfield 115, 3) := by decide +kernel
theorem dX8_findHeld_7 : decode cX8_findHeld 7 = .ok (.if_icmp .ge 31, 3) := by decide +kernel
theorem dX8_findHeld_10 : decode cX8_findHeld 10 = .ok (.aload_n 0, 1) := by decide +kernel
theorem dX8_findHeld_11 : decode cX8_findHeld 11 = .ok (.getfield 71, 3) := by decide +kernel
theorem dX8_findHeld_14 : decode cX8_findHeld 14 = .ok (.iload_n 3, 1) := by decide +kernel
theorem dX8_findHeld_15 : decode cX8_findHeld 15 = .ok (.iaload, 1) := by decide +kernel
theorem dX8_findHeld_16 : decode cX8_findHeld 16 = .ok (.iload_n 1, 1) := by decide +kernel
theorem dX8_findHeld_17 : decode cX8_findHeld 17 = .ok (.if_icmp .ne 15, 3) := by decide +kernel
theorem dX8_findHeld_20 : decode cX8_findHeld 20 = .ok (.aload_n 0, 1) := by decide +kernel
theorem dX8_findHeld_21 : decode cX8_findHeld 21 = .ok (.getfield 74, 3) := by decide +kernel
theorem dX8_findHeld_24 : decode cX8_findHeld 24 = .ok (.iload_n 3, 1) := by decide +kernel
theorem dX8_findHeld_25 : decode cX8_findHeld 25 = .ok (.iaload, 1) := by decide +kernel
theorem dX8_findHeld_26 : decode cX8_findHeld 26 = .ok (.iload_n 2, 1) := by decide +kernel
theorem dX8_findHeld_27 : decode cX8_findHeld 27 = .ok (.if_icmp .ne 5, 3) := by decide +kernel
theorem dX8_findHeld_30 : decode cX8_findHeld 30 = .ok (.iload_n 3, 1) := by decide +kernel
theorem dX8_findHeld_31 : decode cX8_findHeld 31 = .ok (.ireturn, 1) := by decide +kernel
theorem dX8_findHeld_32 : decode cX8_findHeld 32 = .ok (.iinc 3 1, 3) := by decide +kernel
theorem dX8_findHeld_35 : decode cX8_findHeld 35 = .ok (.goto (-33), 3) := by decide +kernel
theorem dX8_findHeld_38 : decode cX8_findHeld 38 = .ok (.iconst (-1), 1) := by decide +kernel
theorem dX8_findHeld_39 : decode cX8_findHeld 39 = .ok (.ireturn, 1) := by decide +kernel
theorem dX8_letsGo_0 : decode cX8_letsGo 0 = .ok (.aload_n 0, 1) := by decide +kernel
theorem dX8_letsGo_1 : decode cX8_letsGo 1 = .ok (.dup, 1) := by decide +kernel
theorem dX8_letsGo_2 : decode cX8_letsGo 2 = .ok (.getfield 115, 3) := by decide +kernel
theorem dX8_letsGo_5 : decode cX8_letsGo 5 = .ok (.iconst 1, 1) := by decide +kernel
theorem dX8_letsGo_6 : decode cX8_letsGo 6 = .ok (.isub, 1) := by decide +kernel
theorem dX8_letsGo_7 : decode cX8_letsGo 7 = .ok (.putfield 115, 3) := by decide +kernel
theorem dX8_letsGo_10 : decode cX8_letsGo 10 = .ok (.iload_n 1, 1) := by decide +kernel
theorem dX8_letsGo_11 : decode cX8_letsGo 11 = .ok (.istore_n 2, 1) := by decide +kernel
theorem dX8_letsGo_12 : decode cX8_letsGo 12 = .ok (.iload_n 2, 1) := by decide +kernel
theorem dX8_letsGo_13 : decode cX8_letsGo 13 = .ok (.aload_n 0, 1) := by decide +kernel
theorem dX8_letsGo_14 : decode cX8_letsGo 14 = .ok (.getfield 115, 3) := by decide +kernel
theorem dX8_letsGo_17 : decode cX8_letsGo 17 = .ok (.if_icmp .ge 65, 3) := by decide +kernel
theorem dX8_letsGo_20 : decode cX8_letsGo 20 = .ok (.aload_n 0, 1) := by decide +kernel
theorem dX8_letsGo_21 : decode cX8_letsGo 21 = .ok (.getfield 71, 3) := by decide +kernel
theorem dX8_letsGo_24 : decode cX8_letsGo 24 = .ok (.iload_n 2, 1) := by decide +kernel
theorem dX8_letsGo_25 : decode cX8_letsGo 25 = .ok (.aload_n 0, 1) := by decide +kernel
theorem dX8_letsGo_26 : decode cX8_letsGo 26 = .ok (.getfield 71, 3) := by decide +kernel
theorem dX8_letsGo_29 : decode cX8_letsGo 29 = .ok (.iload_n 2, 1) := by decide +kernel
theorem dX8_letsGo_30 : decode cX8_letsGo 30 = .ok (.iconst 1, 1) := by decide +kernel
theorem dX8_letsGo_31 : decode cX8_letsGo 31 = .ok (.iadd, 1) := by decide +kernel
theorem dX8_letsGo_32 : decode cX8_letsGo 32 = .ok (.iaload, 1) := by decide +kernel
theorem dX8_letsGo_33 : decode cX8_letsGo 33 = .ok (.iastore, 1) := by decide +kernel
theorem dX8_letsGo_34 : decode cX8_letsGo 34 = .ok (.aload_n 0, 1) := by decide +kernel
theorem dX8_letsGo_35 : decode cX8_letsGo 35 = .ok (.getfield 74, 3) := by decide +kernel
theorem dX8_letsGo_38 : decode cX8_letsGo 38 = .ok (.iload_n 2, 1) := by decide +kernel
theorem dX8_letsGo_39 : decode cX8_letsGo 39 = .ok (.aload_n 0, 1) := by decide +kernel
theorem dX8_letsGo_40 : decode cX8_letsGo 40 = .ok (.getfield 74, 3) := by decide +kernel
theorem dX8_letsGo_43 : decode cX8_letsGo 43 = .ok (.iload_n 2, 1) := by decide +kernel
theorem dX8_letsGo_44 : decode cX8_letsGo 44 = .ok (.iconst 1, 1) := by decide +kernel
theorem dX8_letsGo_45 : decode cX8_letsGo 45 = .ok (.iadd, 1) := by decide +kernel
theorem dX8_letsGo_46 : decode cX8_letsGo 46 = .ok (.iaload, 1) := by decide +kernel
theorem dX8_letsGo_47 : decode cX8_letsGo 47 = .ok (.iastore, 1) := by decide +kernel
theorem dX8_letsGo_48 : decode cX8_letsGo 48 = .ok (.aload_n 0, 1) := by decide +kernel
theorem dX8_letsGo_49 : decode cX8_letsGo 49 = .ok (.getfield 77, 3) := by decide +kernel
theorem dX8_letsGo_52 : decode cX8_letsGo 52 = .ok (.iload_n 2, 1) := by decide +kernel
theorem dX8_letsGo_53 : decode cX8_letsGo 53 = .ok (.aload_n 0, 1) := by decide +kernel
theorem dX8_letsGo_54 : decode cX8_letsGo 54 = .ok (.getfield 77, 3) := by decide +kernel
theorem dX8_letsGo_57 : decode cX8_letsGo 57 = .ok (.iload_n 2, 1) := by decide +kernel
theorem dX8_letsGo_58 : decode cX8_letsGo 58 = .ok (.iconst 1, 1) := by decide +kernel
theorem dX8_letsGo_59 : decode cX8_letsGo 59 = .ok (.iadd, 1) := by decide +kernel
theorem dX8_letsGo_60 : decode cX8_letsGo 60 = .ok (.iaload, 1) := by decide +kernel
theorem dX8_letsGo_61 : decode cX8_letsGo 61 = .ok (.iastore, 1) := by decide +kernel
theorem dX8_letsGo_62 : decode cX8_letsGo 62 = .ok (.aload_n 0, 1) := by decide +kernel
theorem dX8_letsGo_63 : decode cX8_letsGo 63 = .ok (.getfield 80, 3) := by decide +kernel
theorem dX8_letsGo_66 : decode cX8_letsGo 66 = .ok (.iload_n 2, 1) := by decide +kernel
theorem dX8_letsGo_67 : decode cX8_letsGo 67 = .ok (.aload_n 0, 1) := by decide +kernel
theorem dX8_letsGo_68 : decode cX8_letsGo 68 = .ok (.getfield 80, 3) := by decide +kernel
theorem dX8_letsGo_71 : decode cX8_letsGo 71 = .ok (.iload_n 2, 1) := by decide +kernel
theorem dX8_letsGo_72 : decode cX8_letsGo 72 = .ok (.iconst 1, 1) := by decide +kernel
theorem dX8_letsGo_73 : decode cX8_letsGo 73 = .ok (.iadd, 1) := by decide +kernel
theorem dX8_letsGo_74 : decode cX8_letsGo 74 = .ok (.iaload, 1) := by decide +kernel
theorem dX8_letsGo_75 : decode cX8_letsGo 75 = .ok (.iastore, 1) := by decide +kernel
theorem dX8_letsGo_76 : decode cX8_letsGo 76 = .ok (.iinc 2 1, 3) := by decide +kernel
theorem dX8_letsGo_79 : decode cX8_letsGo 79 = .ok (.goto (-67), 3) := by decide +kernel
theorem dX8_letsGo_82 : decode cX8_letsGo 82 = .ok (.return_, 1) := by decide +kernel
set_option maxRecDepth 20000 in
theorem ggX8_hears_X8_findHeld : GoodIn wsX8_hears wsX8_findHeld := goodIn_r _ [13, 3, 5, 6, 25, 26, 27, 28, 29, 30, 31, 32, 33, 34, 35, 36, 37, 38, 39, 40, 41, 42, 43, 44, 45, 46, 47, 48, 49, 50, 51, 52, 53, 54, 55, 56, 57, 58, 59] (by decide +kernel) (by decide +kernel)
set_option maxRecDepth 20000 in
theorem gX8_hears_X8_findHeld : GoodIn wsX8_hears (wsV RX8 149 RX8 yX8_findHeld wsX8_findHeld) := goodIn_app (goodIn_of _ (by decide +kernel)) ggX8_hears_X8_findHeld
set_option maxRecDepth 20000 in
theorem ggX8_hears_X8_does : GoodIn wsX8_hears wsX8_does := goodIn_r _ [17, 18, 1, 19, 20, 25, 26, 27, 28, 29, 30, 31, 32, 33, 34, 35, 36, 37, 38, 39, 40, 41, 42, 43, 44, 45, 46, 47, 48, 49, 50, 51, 52, 53, 54, 55, 56, 57, 58, 59] (by decide +kernel) (by decide +kernel)
set_option maxRecDepth 20000 in
theorem gX8_hears_X8_does : GoodIn wsX8_hears (wsV RX8 156 RX8 yX8_does wsX8_does) := goodIn_app (goodIn_of _ (by decide +kernel)) ggX8_hears_X8_does
set_option maxRecDepth 20000 in
theorem ggX8_hears_X8_letsGo : GoodIn wsX8_hears wsX8_letsGo := goodIn_r _ [24, 3, 5, 6, 7, 8, 25, 26, 27, 28, 29, 30, 31, 32, 33, 34, 35, 36, 37, 38, 39, 40, 41, 42, 43, 44, 45, 46, 47, 48, 49, 50, 51, 52, 53, 54, 55, 56, 57, 58, 59] (by decide +kernel) (by decide +kernel)
set_option maxRecDepth 20000 in
theorem gX8_hears_X8_letsGo : GoodIn wsX8_hears (wsV RX8 160 RX8 yX8_letsGo wsX8_letsGo) := goodIn_app (goodIn_of _ (by decide +kernel)) ggX8_hears_X8_letsGo
theorem dX8_hears_0 : decode cX8_hears 0 = .ok (.iload_n 2, 1) := by decide +kernel
theorem dX8_hears_1 : decode cX8_hears 1 = .ok (.aload_n 0, 1) := by decide +kernel
theorem dX8_hears_2 : decode cX8_hears 2 = .ok (.getfield 56, 3) := by decide +kernel
theorem dX8_hears_5 : decode cX8_hears 5 = .ok (.iload_n 1, 1) := by decide +kernel
theorem dX8_hears_6 : decode cX8_hears 6 = .ok (.iaload, 1) := by decide +kernel
theorem dX8_hears_7 : decode cX8_hears 7 = .ok (.if_icmp .gt 15, 3) := by decide +kernel
theorem dX8_hears_10 : decode cX8_hears 10 = .ok (.aload_n 0, 1) := by decide +kernel
theorem dX8_hears_11 : decode cX8_hears 11 = .ok (.dup, 1) := by decide +kernel
theorem dX8_hears_12 : decode cX8_hears 12 = .ok (.getfield 146, 3) := by decide +kernel
theorem dX8_hears_15 : decode cX8_hears 15 = .ok (.iconst 1, 1) := by decide +kernel
theorem dX8_hears_16 : decode cX8_hears 16 = .ok (.iadd, 1) := by decide +kernel
theorem dX8_hears_17 : decode cX8_hears 17 = .ok (.putfield 146, 3) := by decide +kernel
theorem dX8_hears_20 : decode cX8_hears 20 = .ok (.iconst 2, 1) := by decide +kernel
theorem dX8_hears_21 : decode cX8_hears 21 = .ok (.ireturn, 1) := by decide +kernel
theorem dX8_hears_22 : decode cX8_hears 22 = .ok (.iload_n 2, 1) := by decide +kernel
theorem dX8_hears_23 : decode cX8_hears 23 = .ok (.aload_n 0, 1) := by decide +kernel
theorem dX8_hears_24 : decode cX8_hears 24 = .ok (.getfield 56, 3) := by decide +kernel
theorem dX8_hears_27 : decode cX8_hears 27 = .ok (.iload_n 1, 1) := by decide +kernel
theorem dX8_hears_28 : decode cX8_hears 28 = .ok (.iaload, 1) := by decide +kernel
theorem dX8_hears_29 : decode cX8_hears 29 = .ok (.iconst 1, 1) := by decide +kernel
theorem dX8_hears_30 : decode cX8_hears 30 = .ok (.iadd, 1) := by decide +kernel
theorem dX8_hears_31 : decode cX8_hears 31 = .ok (.if_icmp .le 98, 3) := by decide +kernel
theorem dX8_hears_34 : decode cX8_hears 34 = .ok (.aload_n 0, 1) := by decide +kernel
theorem dX8_hears_35 : decode cX8_hears 35 = .ok (.iload_n 1, 1) := by decide +kernel
theorem dX8_hears_36 : decode cX8_hears 36 = .ok (.iload_n 2, 1) := by decide +kernel
theorem dX8_hears_37 : decode cX8_hears 37 = .ok (.invokevirtual 149, 3) := by decide +kernel
theorem dX8_hears_40 : decode cX8_hears 40 = .ok (.ifCond .lt 15, 3) := by decide +kernel
theorem dX8_hears_43 : decode cX8_hears 43 = .ok (.aload_n 0, 1) := by decide +kernel
theorem dX8_hears_44 : decode cX8_hears 44 = .ok (.dup, 1) := by decide +kernel
theorem dX8_hears_45 : decode cX8_hears 45 = .ok (.getfield 146, 3) := by decide +kernel
theorem dX8_hears_48 : decode cX8_hears 48 = .ok (.iconst 1, 1) := by decide +kernel
theorem dX8_hears_49 : decode cX8_hears 49 = .ok (.iadd, 1) := by decide +kernel
theorem dX8_hears_50 : decode cX8_hears 50 = .ok (.putfield 146, 3) := by decide +kernel
theorem dX8_hears_53 : decode cX8_hears 53 = .ok (.iconst 2, 1) := by decide +kernel
theorem dX8_hears_54 : decode cX8_hears 54 = .ok (.ireturn, 1) := by decide +kernel
theorem dX8_hears_55 : decode cX8_hears 55 = .ok (.aload_n 0, 1) := by decide +kernel
theorem dX8_hears_56 : decode cX8_hears 56 = .ok (.getfield 115, 3) := by decide +kernel
theorem dX8_hears_59 : decode cX8_hears 59 = .ok (.bipush 8, 2) := by decide +kernel
theorem dX8_hears_61 : decode cX8_hears 61 = .ok (.if_icmp .ne 15, 3) := by decide +kernel
theorem dX8_hears_64 : decode cX8_hears 64 = .ok (.aload_n 0, 1) := by decide +kernel
theorem dX8_hears_65 : decode cX8_hears 65 = .ok (.dup, 1) := by decide +kernel
theorem dX8_hears_66 : decode cX8_hears 66 = .ok (.getfield 153, 3) := by decide +kernel
theorem dX8_hears_69 : decode cX8_hears 69 = .ok (.iconst 1, 1) := by decide +kernel
theorem dX8_hears_70 : decode cX8_hears 70 = .ok (.iadd, 1) := by decide +kernel
theorem dX8_hears_71 : decode cX8_hears 71 = .ok (.putfield 153, 3) := by decide +kernel
theorem dX8_hears_74 : decode cX8_hears 74 = .ok (.iconst 4, 1) := by decide +kernel
theorem dX8_hears_75 : decode cX8_hears 75 = .ok (.ireturn, 1) := by decide +kernel
theorem dX8_hears_76 : decode cX8_hears 76 = .ok (.aload_n 0, 1) := by decide +kernel
theorem dX8_hears_77 : decode cX8_hears 77 = .ok (.getfield 71, 3) := by decide +kernel
theorem dX8_hears_80 : decode cX8_hears 80 = .ok (.aload_n 0, 1) := by decide +kernel
theorem dX8_hears_81 : decode cX8_hears 81 = .ok (.getfield 115, 3) := by decide +kernel
theorem dX8_hears_84 : decode cX8_hears 84 = .ok (.iload_n 1, 1) := by decide +kernel
theorem dX8_hears_85 : decode cX8_hears 85 = .ok (.iastore, 1) := by decide +kernel
theorem dX8_hears_86 : decode cX8_hears 86 = .ok (.aload_n 0, 1) := by decide +kernel
theorem dX8_hears_87 : decode cX8_hears 87 = .ok (.getfield 74, 3) := by decide +kernel
theorem dX8_hears_90 : decode cX8_hears 90 = .ok (.aload_n 0, 1) := by decide +kernel
theorem dX8_hears_91 : decode cX8_hears 91 = .ok (.getfield 115, 3) := by decide +kernel
theorem dX8_hears_94 : decode cX8_hears 94 = .ok (.iload_n 2, 1) := by decide +kernel
theorem dX8_hears_95 : decode cX8_hears 95 = .ok (.iastore, 1) := by decide +kernel
theorem dX8_hears_96 : decode cX8_hears 96 = .ok (.aload_n 0, 1) := by decide +kernel
theorem dX8_hears_97 : decode cX8_hears 97 = .ok (.getfield 77, 3) := by decide +kernel
theorem dX8_hears_100 : decode cX8_hears 100 = .ok (.aload_n 0, 1) := by decide +kernel
theorem dX8_hears_101 : decode cX8_hears 101 = .ok (.getfield 115, 3) := by decide +kernel
theorem dX8_hears_104 : decode cX8_hears 104 = .ok (.iload_n 3, 1) := by decide +kernel
theorem dX8_hears_105 : decode cX8_hears 105 = .ok (.iastore, 1) := by decide +kernel
theorem dX8_hears_106 : decode cX8_hears 106 = .ok (.aload_n 0, 1) := by decide +kernel
theorem dX8_hears_107 : decode cX8_hears 107 = .ok (.getfield 80, 3) := by decide +kernel
theorem dX8_hears_110 : decode cX8_hears 110 = .ok (.aload_n 0, 1) := by decide +kernel
theorem dX8_hears_111 : decode cX8_hears 111 = .ok (.getfield 115, 3) := by decide +kernel
theorem dX8_hears_114 : decode cX8_hears 114 = .ok (.iload 4, 2) := by decide +kernel
theorem dX8_hears_116 : decode cX8_hears 116 = .ok (.iastore, 1) := by decide +kernel
theorem dX8_hears_117 : decode cX8_hears 117 = .ok (.aload_n 0, 1) := by decide +kernel
theorem dX8_hears_118 : decode cX8_hears 118 = .ok (.dup, 1) := by decide +kernel
theorem dX8_hears_119 : decode cX8_hears 119 = .ok (.getfield 115, 3) := by decide +kernel
theorem dX8_hears_122 : decode cX8_hears 122 = .ok (.iconst 1, 1) := by decide +kernel
theorem dX8_hears_123 : decode cX8_hears 123 = .ok (.iadd, 1) := by decide +kernel
theorem dX8_hears_124 : decode cX8_hears 124 = .ok (.putfield 115, 3) := by decide +kernel
theorem dX8_hears_127 : decode cX8_hears 127 = .ok (.iconst 3, 1) := by decide +kernel
theorem dX8_hears_128 : decode cX8_hears 128 = .ok (.ireturn, 1) := by decide +kernel
theorem dX8_hears_129 : decode cX8_hears 129 = .ok (.aload_n 0, 1) := by decide +kernel
theorem dX8_hears_130 : decode cX8_hears 130 = .ok (.iload_n 1, 1) := by decide +kernel
theorem dX8_hears_131 : decode cX8_hears 131 = .ok (.iload_n 3, 1) := by decide +kernel
theorem dX8_hears_132 : decode cX8_hears 132 = .ok (.iload 4, 2) := by decide +kernel
theorem dX8_hears_134 : decode cX8_hears 134 = .ok (.invokevirtual 156, 3) := by decide +kernel
theorem dX8_hears_137 : decode cX8_hears 137 = .ok (.aload_n 0, 1) := by decide +kernel
theorem dX8_hears_138 : decode cX8_hears 138 = .ok (.iload_n 1, 1) := by decide +kernel
theorem dX8_hears_139 : decode cX8_hears 139 = .ok (.aload_n 0, 1) := by decide +kernel
theorem dX8_hears_140 : decode cX8_hears 140 = .ok (.getfield 56, 3) := by decide +kernel
theorem dX8_hears_143 : decode cX8_hears 143 = .ok (.iload_n 1, 1) := by decide +kernel
theorem dX8_hears_144 : decode cX8_hears 144 = .ok (.iaload, 1) := by decide +kernel
theorem dX8_hears_145 : decode cX8_hears 145 = .ok (.iconst 1, 1) := by decide +kernel
theorem dX8_hears_146 : decode cX8_hears 146 = .ok (.iadd, 1) := by decide +kernel
theorem dX8_hears_147 : decode cX8_hears 147 = .ok (.invokevirtual 149, 3) := by decide +kernel
theorem dX8_hears_150 : decode cX8_hears 150 = .ok (.istore 5, 2) := by decide +kernel
theorem dX8_hears_152 : decode cX8_hears 152 = .ok (.iload 5, 2) := by decide +kernel
theorem dX8_hears_154 : decode cX8_hears 154 = .ok (.ifCond .lt 46, 3) := by decide +kernel
theorem dX8_hears_157 : decode cX8_hears 157 = .ok (.aload_n 0, 1) := by decide +kernel
theorem dX8_hears_158 : decode cX8_hears 158 = .ok (.iload_n 1, 1) := by decide +kernel
theorem dX8_hears_159 : decode cX8_hears 159 = .ok (.aload_n 0, 1) := by decide +kernel
theorem dX8_hears_160 : decode cX8_hears 160 = .ok (.getfield 77, 3) := by decide +kernel
theorem dX8_hears_163 : decode cX8_hears 163 = .ok (.iload 5, 2) := by decide +kernel
theorem dX8_hears_165 : decode cX8_hears 165 = .ok (.iaload, 1) := by decide +kernel
theorem dX8_hears_166 : decode cX8_hears 166 = .ok (.aload_n 0, 1) := by decide +kernel
theorem dX8_hears_167 : decode cX8_hears 167 = .ok (.getfield 80, 3) := by decide +kernel
theorem dX8_hears_170 : decode cX8_hears 170 = .ok (.iload 5, 2) := by decide +kernel
theorem dX8_hears_172 : decode cX8_hears 172 = .ok (.iaload, 1) := by decide +kernel
theorem dX8_hears_173 : decode cX8_hears 173 = .ok (.invokevirtual 156, 3) := by decide +kernel
theorem dX8_hears_176 : decode cX8_hears 176 = .ok (.aload_n 0, 1) := by decide +kernel
theorem dX8_hears_177 : decode cX8_hears 177 = .ok (.iload 5, 2) := by decide +kernel
theorem dX8_hears_179 : decode cX8_hears 179 = .ok (.invokevirtual 160, 3) := by decide +kernel
theorem dX8_hears_182 : decode cX8_hears 182 = .ok (.aload_n 0, 1) := by decide +kernel
theorem dX8_hears_183 : decode cX8_hears 183 = .ok (.iload_n 1, 1) := by decide +kernel
theorem dX8_hears_184 : decode cX8_hears 184 = .ok (.aload_n 0, 1) := by decide +kernel
theorem dX8_hears_185 : decode cX8_hears 185 = .ok (.getfield 56, 3) := by decide +kernel
theorem dX8_hears_188 : decode cX8_hears 188 = .ok (.iload_n 1, 1) := by decide +kernel
theorem dX8_hears_189 : decode cX8_hears 189 = .ok (.iaload, 1) := by decide +kernel
theorem dX8_hears_190 : decode cX8_hears 190 = .ok (.iconst 1, 1) := by decide +kernel
theorem dX8_hears_191 : decode cX8_hears 191 = .ok (.iadd, 1) := by decide +kernel
theorem dX8_hears_192 : decode cX8_hears 192 = .ok (.invokevirtual 149, 3) := by decide +kernel
theorem dX8_hears_195 : decode cX8_hears 195 = .ok (.istore 5, 2) := by decide +kernel
theorem dX8_hears_197 : decode cX8_hears 197 = .ok (.goto (-45), 3) := by decide +kernel
theorem dX8_hears_200 : decode cX8_hears 200 = .ok (.iconst 1, 1) := by decide +kernel
theorem dX8_hears_201 : decode cX8_hears 201 = .ok (.ireturn, 1) := by decide +kernel
set_option maxRecDepth 20000 in
theorem ggX8_delivers_X8_takesOut : GoodIn wsX8_delivers wsX8_takesOut := goodIn_r _ [9, 10, 4, 1, 2, 3, 38, 39, 40, 41, 42, 43, 44, 45, 46, 47, 48, 49, 50, 51, 52, 53, 54, 55, 56, 57, 58, 59, 60, 61, 62, 63, 64, 65, 66, 67, 68, 69, 70, 71, 72] (by decide +kernel) (by decide +kernel)
set_option maxRecDepth 20000 in
theorem gX8_delivers_X8_takesOut : GoodIn wsX8_delivers (wsV RX8 163 RX8 yX8_takesOut wsX8_takesOut) := goodIn_app (goodIn_of _ (by decide +kernel)) ggX8_delivers_X8_takesOut
set_option maxRecDepth 20000 in
theorem ggX8_delivers_X8_hears : GoodIn wsX8_delivers wsX8_hears := goodIn_r _ [14, 15, 16, 17, 18, 19, 20, 21, 22, 23, 24, 25, 8, 26, 27, 28, 29, 30, 31, 32, 33, 34, 35, 36, 37, 38, 39, 40, 41, 42, 43, 44, 45, 46, 47, 48, 49, 50, 51, 52, 53, 54, 55, 56, 57, 58, 59, 60, 61, 62, 63, 64, 65, 66, 67, 68, 69, 70, 71, 72] (by decide +kernel) (by decide +kernel)
set_option maxRecDepth 20000 in
theorem gX8_delivers_X8_hears : GoodIn wsX8_delivers (wsV RX8 167 RX8 yX8_hears wsX8_hears) := goodIn_app (goodIn_of _ (by decide +kernel)) ggX8_delivers_X8_hears
theorem dX8_delivers_0 : decode cX8_delivers 0 = .ok (.bipush 40, 2) := by decide +kernel
theorem dX8_delivers_2 : decode cX8_delivers 2 = .ok (.iload_n 1, 1) := by decide +kernel
theorem dX8_delivers_3 : decode cX8_delivers 3 = .ok (.imul, 1) := by decide +kernel
theorem dX8_delivers_4 : decode cX8_delivers 4 = .ok (.iload_n 2, 1) := by decide +kernel
theorem dX8_delivers_5 : decode cX8_delivers 5 = .ok (.iadd, 1) := by decide +kernel
theorem dX8_delivers_6 : decode cX8_delivers 6 = .ok (.istore 4, 2) := by decide +kernel
theorem dX8_delivers_8 : decode cX8_delivers 8 = .ok (.aload_n 0, 1) := by decide +kernel
theorem dX8_delivers_9 : decode cX8_delivers 9 = .ok (.getfield 44, 3) := by decide +kernel
theorem dX8_delivers_12 : decode cX8_delivers 12 = .ok (.iload 4, 2) := by decide +kernel
theorem dX8_delivers_14 : decode cX8_delivers 14 = .ok (.iaload, 1) := by decide +kernel
theorem dX8_delivers_15 : decode cX8_delivers 15 = .ok (.istore 5, 2) := by decide +kernel
theorem dX8_delivers_17 : decode cX8_delivers 17 = .ok (.aload_n 0, 1) := by decide +kernel
theorem dX8_delivers_18 : decode cX8_delivers 18 = .ok (.getfield 47, 3) := by decide +kernel
theorem dX8_delivers_21 : decode cX8_delivers 21 = .ok (.iload 4, 2) := by decide +kernel
theorem dX8_delivers_23 : decode cX8_delivers 23 = .ok (.iaload, 1) := by decide +kernel
theorem dX8_delivers_24 : decode cX8_delivers 24 = .ok (.istore 6, 2) := by decide +kernel
theorem dX8_delivers_26 : decode cX8_delivers 26 = .ok (.aload_n 0, 1) := by decide +kernel
theorem dX8_delivers_27 : decode cX8_delivers 27 = .ok (.getfield 50, 3) := by decide +kernel
theorem dX8_delivers_30 : decode cX8_delivers 30 = .ok (.iload 4, 2) := by decide +kernel
theorem dX8_delivers_32 : decode cX8_delivers 32 = .ok (.iaload, 1) := by decide +kernel
theorem dX8_delivers_33 : decode cX8_delivers 33 = .ok (.istore 7, 2) := by decide +kernel
theorem dX8_delivers_35 : decode cX8_delivers 35 = .ok (.aload_n 0, 1) := by decide +kernel
theorem dX8_delivers_36 : decode cX8_delivers 36 = .ok (.getfield 41, 3) := by decide +kernel
theorem dX8_delivers_39 : decode cX8_delivers 39 = .ok (.iload 4, 2) := by decide +kernel
theorem dX8_delivers_41 : decode cX8_delivers 41 = .ok (.iaload, 1) := by decide +kernel
theorem dX8_delivers_42 : decode cX8_delivers 42 = .ok (.istore 8, 2) := by decide +kernel
theorem dX8_delivers_44 : decode cX8_delivers 44 = .ok (.iload_n 3, 1) := by decide +kernel
theorem dX8_delivers_45 : decode cX8_delivers 45 = .ok (.ifCond .ne 9, 3) := by decide +kernel
theorem dX8_delivers_48 : decode cX8_delivers 48 = .ok (.aload_n 0, 1) := by decide +kernel
theorem dX8_delivers_49 : decode cX8_delivers 49 = .ok (.iload_n 1, 1) := by decide +kernel
theorem dX8_delivers_50 : decode cX8_delivers 50 = .ok (.iload_n 2, 1) := by decide +kernel
theorem dX8_delivers_51 : decode cX8_delivers 51 = .ok (.invokevirtual 163, 3) := by decide +kernel
theorem dX8_delivers_54 : decode cX8_delivers 54 = .ok (.aload_n 0, 1) := by decide +kernel
theorem dX8_delivers_55 : decode cX8_delivers 55 = .ok (.iload 5, 2) := by decide +kernel
theorem dX8_delivers_57 : decode cX8_delivers 57 = .ok (.iload 6, 2) := by decide +kernel
theorem dX8_delivers_59 : decode cX8_delivers 59 = .ok (.iload 7, 2) := by decide +kernel
theorem dX8_delivers_61 : decode cX8_delivers 61 = .ok (.iload 8, 2) := by decide +kernel
theorem dX8_delivers_63 : decode cX8_delivers 63 = .ok (.invokevirtual 167, 3) := by decide +kernel
theorem dX8_delivers_66 : decode cX8_delivers 66 = .ok (.ireturn, 1) := by decide +kernel
set_option maxRecDepth 20000 in
theorem ggX8_isLetter_X8_isLane : GoodIn wsX8_isLetter wsX8_isLane := goodIn_r _ [5, 6, 7, 4, 8] (by decide +kernel) (by decide +kernel)
set_option maxRecDepth 20000 in
theorem gX8_isLetter_X8_isLane : GoodIn wsX8_isLetter (va_wsS RX8 171 yX8_isLane wsX8_isLane) := goodIn_app (goodIn_of _ (by decide +kernel)) ggX8_isLetter_X8_isLane
set_option maxRecDepth 20000 in
theorem ggX8_isLetter_X8_in : GoodIn wsX8_isLetter wsX8_in := goodIn_r _ [8] (by decide +kernel) (by decide +kernel)
set_option maxRecDepth 20000 in
theorem gX8_isLetter_X8_in : GoodIn wsX8_isLetter (va_wsS RX8 87 yX8_in wsX8_in) := goodIn_app (goodIn_of _ (by decide +kernel)) ggX8_isLetter_X8_in
theorem dX8_isLetter_0 : decode cX8_isLetter 0 = .ok (.iload_n 1, 1) := by decide +kernel
theorem dX8_isLetter_1 : decode cX8_isLetter 1 = .ok (.invokestatic 171, 3) := by decide +kernel
theorem dX8_isLetter_4 : decode cX8_isLetter 4 = .ok (.ifCond .eq 23, 3) := by decide +kernel
theorem dX8_isLetter_7 : decode cX8_isLetter 7 = .ok (.iload_n 2, 1) := by decide +kernel
theorem dX8_isLetter_8 : decode cX8_isLetter 8 = .ok (.iconst 0, 1) := by decide +kernel
theorem dX8_isLetter_9 : decode cX8_isLetter 9 = .ok (.aload_n 0, 1) := by decide +kernel
theorem dX8_isLetter_10 : decode cX8_isLetter 10 = .ok (.getfield 38, 3) := by decide +kernel
theorem dX8_isLetter_13 : decode cX8_isLetter 13 = .ok (.iload_n 1, 1) := by decide +kernel
theorem dX8_isLetter_14 : decode cX8_isLetter 14 = .ok (.iaload, 1) := by decide +kernel
theorem dX8_isLetter_15 : decode cX8_isLetter 15 = .ok (.iconst 1, 1) := by decide +kernel
theorem dX8_isLetter_16 : decode cX8_isLetter 16 = .ok (.isub, 1) := by decide +kernel
theorem dX8_isLetter_17 : decode cX8_isLetter 17 = .ok (.invokestatic 87, 3) := by decide +kernel
theorem dX8_isLetter_20 : decode cX8_isLetter 20 = .ok (.ifCond .eq 7, 3) := by decide +kernel
theorem dX8_isLetter_23 : decode cX8_isLetter 23 = .ok (.iconst 1, 1) := by decide +kernel
theorem dX8_isLetter_24 : decode cX8_isLetter 24 = .ok (.goto 4, 3) := by decide +kernel
theorem dX8_isLetter_27 : decode cX8_isLetter 27 = .ok (.iconst 0, 1) := by decide +kernel
theorem dX8_isLetter_28 : decode cX8_isLetter 28 = .ok (.ireturn, 1) := by decide +kernel
set_option maxRecDepth 20000 in
theorem ggX8_deliver_X8_isLetter : GoodIn wsX8_deliver wsX8_isLetter := goodIn_r _ [5, 6, 7, 8, 4, 9, 10, 11, 12, 52, 53, 54, 55, 56, 57, 58, 59, 60, 61, 62, 63, 64, 65, 66, 67, 68, 69, 70, 71, 72, 73, 74, 75, 76, 77, 78, 79, 80, 81, 82, 83, 84, 85, 86] (by decide +kernel) (by decide +kernel)
set_option maxRecDepth 20000 in
theorem gX8_deliver_X8_isLetter : GoodIn wsX8_deliver (wsV RX8 174 RX8 yX8_isLetter wsX8_isLetter) := goodIn_app (goodIn_of _ (by decide +kernel)) ggX8_deliver_X8_isLetter
set_option maxRecDepth 20000 in
theorem ggX8_deliver_X8_delivers : GoodIn wsX8_deliver wsX8_delivers := goodIn_r _ [16, 17, 18, 19, 20, 21, 22, 23, 4, 24, 6, 25, 26, 27, 28, 29, 30, 31, 32, 33, 34, 35, 36, 37, 38, 39, 40, 41, 42, 43, 44, 45, 46, 47, 48, 49, 50, 51, 52, 53, 54, 55, 56, 57, 58, 59, 60, 61, 62, 63, 64, 65, 66, 67, 68, 69, 70, 71, 72, 73, 74, 75, 76, 77, 78, 79, 80, 81, 82, 83, 84, 85, 86] (by decide +kernel) (by decide +kernel)
set_option maxRecDepth 20000 in
theorem gX8_deliver_X8_delivers : GoodIn wsX8_deliver (wsV RX8 178 RX8 yX8_delivers wsX8_delivers) := goodIn_app (goodIn_of _ (by decide +kernel)) ggX8_deliver_X8_delivers
theorem dX8_deliver_0 : decode cX8_deliver 0 = .ok (.aload_n 0, 1) := by decide +kernel
theorem dX8_deliver_1 : decode cX8_deliver 1 = .ok (.iload_n 1, 1) := by decide +kernel
theorem dX8_deliver_2 : decode cX8_deliver 2 = .ok (.iload_n 2, 1) := by decide +kernel
theorem dX8_deliver_3 : decode cX8_deliver 3 = .ok (.invokevirtual 174, 3) := by decide +kernel
theorem dX8_deliver_6 : decode cX8_deliver 6 = .ok (.ifCond .eq 13, 3) := by decide +kernel
theorem dX8_deliver_9 : decode cX8_deliver 9 = .ok (.aload_n 0, 1) := by decide +kernel
theorem dX8_deliver_10 : decode cX8_deliver 10 = .ok (.iload_n 1, 1) := by decide +kernel
theorem dX8_deliver_11 : decode cX8_deliver 11 = .ok (.iload_n 2, 1) := by decide +kernel
theorem dX8_deliver_12 : decode cX8_deliver 12 = .ok (.iload_n 3, 1) := by decide +kernel
theorem dX8_deliver_13 : decode cX8_deliver 13 = .ok (.invokevirtual 178, 3) := by decide +kernel
theorem dX8_deliver_16 : decode cX8_deliver 16 = .ok (.goto 4, 3) := by decide +kernel
theorem dX8_deliver_19 : decode cX8_deliver 19 = .ok (.iconst (-1), 1) := by decide +kernel
theorem dX8_deliver_20 : decode cX8_deliver 20 = .ok (.ireturn, 1) := by decide +kernel
set_option maxRecDepth 20000 in
theorem ggX8_lose_X8_isLetter : GoodIn wsX8_lose wsX8_isLetter := goodIn_r _ [7, 8, 9, 10, 6, 11, 12, 13, 14, 22, 23, 24, 25, 26, 27, 28, 29, 30, 31, 32, 33, 34, 35, 36, 37, 38, 39, 40, 41, 42, 43, 44, 45, 46, 47, 48, 49, 50, 51, 52, 53, 54, 55, 56] (by decide +kernel) (by decide +kernel)
set_option maxRecDepth 20000 in
theorem gX8_lose_X8_isLetter : GoodIn wsX8_lose (wsV RX8 174 RX8 yX8_isLetter wsX8_isLetter) := goodIn_app (goodIn_of _ (by decide +kernel)) ggX8_lose_X8_isLetter
set_option maxRecDepth 20000 in
theorem ggX8_lose_X8_takesOut : GoodIn wsX8_lose wsX8_takesOut := goodIn_r _ [18, 8, 1, 19, 20, 21, 22, 23, 24, 25, 26, 27, 28, 29, 30, 31, 32, 33, 34, 35, 36, 37, 38, 39, 40, 41, 42, 43, 44, 45, 46, 47, 48, 49, 50, 51, 52, 53, 54, 55, 56] (by decide +kernel) (by decide +kernel)
set_option maxRecDepth 20000 in
theorem gX8_lose_X8_takesOut : GoodIn wsX8_lose (wsV RX8 163 RX8 yX8_takesOut wsX8_takesOut) := goodIn_app (goodIn_of _ (by decide +kernel)) ggX8_lose_X8_takesOut
theorem dX8_lose_0 : decode cX8_lose 0 = .ok (.aload_n 0, 1) := by decide +kernel
theorem dX8_lose_1 : decode cX8_lose 1 = .ok (.iload_n 1, 1) := by decide +kernel
theorem dX8_lose_2 : decode cX8_lose 2 = .ok (.iload_n 2, 1) := by decide +kernel
theorem dX8_lose_3 : decode cX8_lose 3 = .ok (.invokevirtual 174, 3) := by decide +kernel
theorem dX8_lose_6 : decode cX8_lose 6 = .ok (.ifCond .ne 5, 3) := by decide +kernel
theorem dX8_lose_9 : decode cX8_lose 9 = .ok (.iconst (-1), 1) := by decide +kernel
theorem dX8_lose_10 : decode cX8_lose 10 = .ok (.ireturn, 1) := by decide +kernel
theorem dX8_lose_11 : decode cX8_lose 11 = .ok (.aload_n 0, 1) := by decide +kernel
theorem dX8_lose_12 : decode cX8_lose 12 = .ok (.getfield 41, 3) := by decide +kernel
theorem dX8_lose_15 : decode cX8_lose 15 = .ok (.bipush 40, 2) := by decide +kernel
theorem dX8_lose_17 : decode cX8_lose 17 = .ok (.iload_n 1, 1) := by decide +kernel
theorem dX8_lose_18 : decode cX8_lose 18 = .ok (.imul, 1) := by decide +kernel
theorem dX8_lose_19 : decode cX8_lose 19 = .ok (.iload_n 2, 1) := by decide +kernel
theorem dX8_lose_20 : decode cX8_lose 20 = .ok (.iadd, 1) := by decide +kernel
theorem dX8_lose_21 : decode cX8_lose 21 = .ok (.iaload, 1) := by decide +kernel
theorem dX8_lose_22 : decode cX8_lose 22 = .ok (.istore_n 3, 1) := by decide +kernel
theorem dX8_lose_23 : decode cX8_lose 23 = .ok (.aload_n 0, 1) := by decide +kernel
theorem dX8_lose_24 : decode cX8_lose 24 = .ok (.iload_n 1, 1) := by decide +kernel
theorem dX8_lose_25 : decode cX8_lose 25 = .ok (.iload_n 2, 1) := by decide +kernel
theorem dX8_lose_26 : decode cX8_lose 26 = .ok (.invokevirtual 163, 3) := by decide +kernel
theorem dX8_lose_29 : decode cX8_lose 29 = .ok (.aload_n 0, 1) := by decide +kernel
theorem dX8_lose_30 : decode cX8_lose 30 = .ok (.dup, 1) := by decide +kernel
theorem dX8_lose_31 : decode cX8_lose 31 = .ok (.getfield 153, 3) := by decide +kernel
theorem dX8_lose_34 : decode cX8_lose 34 = .ok (.iconst 1, 1) := by decide +kernel
theorem dX8_lose_35 : decode cX8_lose 35 = .ok (.iadd, 1) := by decide +kernel
theorem dX8_lose_36 : decode cX8_lose 36 = .ok (.putfield 153, 3) := by decide +kernel
theorem dX8_lose_39 : decode cX8_lose 39 = .ok (.iload_n 3, 1) := by decide +kernel
theorem dX8_lose_40 : decode cX8_lose 40 = .ok (.ireturn, 1) := by decide +kernel
set_option maxRecDepth 20000 in
theorem ggX8_letter_X8_isLane : GoodIn wsX8_letter wsX8_isLane := goodIn_r _ [8, 9, 10, 7, 11] (by decide +kernel) (by decide +kernel)
set_option maxRecDepth 20000 in
theorem gX8_letter_X8_isLane : GoodIn wsX8_letter (va_wsS RX8 171 yX8_isLane wsX8_isLane) := goodIn_app (goodIn_of _ (by decide +kernel)) ggX8_letter_X8_isLane
set_option maxRecDepth 20000 in
theorem ggX8_letter_X8_in : GoodIn wsX8_letter wsX8_in := goodIn_r _ [11] (by decide +kernel) (by decide +kernel)
set_option maxRecDepth 20000 in
theorem gX8_letter_X8_in : GoodIn wsX8_letter (va_wsS RX8 87 yX8_in wsX8_in) := goodIn_app (goodIn_of _ (by decide +kernel)) ggX8_letter_X8_in
set_option maxRecDepth 20000 in
theorem ggX8_letter_X8_isLetter : GoodIn wsX8_letter wsX8_isLetter := goodIn_r _ [15, 16, 5, 6, 7, 8, 9, 10, 11, 17, 18, 19, 20, 21, 22, 23, 24, 25, 26, 27, 28, 29, 30, 31, 32, 33, 34, 35, 36, 37, 38, 39, 40, 41, 42, 43, 44, 45, 46, 47, 48, 49, 50, 51] (by decide +kernel) (by decide +kernel)
set_option maxRecDepth 20000 in
theorem gX8_letter_X8_isLetter : GoodIn wsX8_letter (wsV RX8 174 RX8 yX8_isLetter wsX8_isLetter) := goodIn_app (goodIn_of _ (by decide +kernel)) ggX8_letter_X8_isLetter
theorem dX8_letter_0 : decode cX8_letter 0 = .ok (.iload_n 1, 1) := by decide +kernel
theorem dX8_letter_1 : decode cX8_letter 1 = .ok (.invokestatic 171, 3) := by decide +kernel
theorem dX8_letter_4 : decode cX8_letter 4 = .ok (.ifCond .eq 12, 3) := by decide +kernel
theorem dX8_letter_7 : decode cX8_letter 7 = .ok (.iload_n 3, 1) := by decide +kernel
theorem dX8_letter_8 : decode cX8_letter 8 = .ok (.iconst 0, 1) := by decide +kernel
theorem dX8_letter_9 : decode cX8_letter 9 = .ok (.iconst 3, 1) := by decide +kernel
theorem dX8_letter_10 : decode cX8_letter 10 = .ok (.invokestatic 87, 3) := by decide +kernel
theorem dX8_letter_13 : decode cX8_letter 13 = .ok (.ifCond .ne 5, 3) := by decide +kernel
theorem dX8_letter_16 : decode cX8_letter 16 = .ok (.iconst (-1), 1) := by decide +kernel
theorem dX8_letter_17 : decode cX8_letter 17 = .ok (.ireturn, 1) := by decide +kernel
theorem dX8_letter_18 : decode cX8_letter 18 = .ok (.aload_n 0, 1) := by decide +kernel
theorem dX8_letter_19 : decode cX8_letter 19 = .ok (.iload_n 1, 1) := by decide +kernel
theorem dX8_letter_20 : decode cX8_letter 20 = .ok (.iload_n 2, 1) := by decide +kernel
theorem dX8_letter_21 : decode cX8_letter 21 = .ok (.invokevirtual 174, 3) := by decide +kernel
theorem dX8_letter_24 : decode cX8_letter 24 = .ok (.ifCond .ne 6, 3) := by decide +kernel
theorem dX8_letter_27 : decode cX8_letter 27 = .ok (.bipush (-9), 2) := by decide +kernel
theorem dX8_letter_29 : decode cX8_letter 29 = .ok (.ireturn, 1) := by decide +kernel
theorem dX8_letter_30 : decode cX8_letter 30 = .ok (.bipush 40, 2) := by decide +kernel
theorem dX8_letter_32 : decode cX8_letter 32 = .ok (.iload_n 1, 1) := by decide +kernel
theorem dX8_letter_33 : decode cX8_letter 33 = .ok (.imul, 1) := by decide +kernel
theorem dX8_letter_34 : decode cX8_letter 34 = .ok (.iload_n 2, 1) := by decide +kernel
theorem dX8_letter_35 : decode cX8_letter 35 = .ok (.iadd, 1) := by decide +kernel
theorem dX8_letter_36 : decode cX8_letter 36 = .ok (.istore 4, 2) := by decide +kernel
theorem dX8_letter_38 : decode cX8_letter 38 = .ok (.iload_n 3, 1) := by decide +kernel
theorem dX8_letter_39 : decode cX8_letter 39 = .ok (.ifCond .ne 13, 3) := by decide +kernel
theorem dX8_letter_42 : decode cX8_letter 42 = .ok (.aload_n 0, 1) := by decide +kernel
theorem dX8_letter_43 : decode cX8_letter 43 = .ok (.getfield 41, 3) := by decide +kernel
theorem dX8_letter_46 : decode cX8_letter 46 = .ok (.iload 4, 2) := by decide +kernel
theorem dX8_letter_48 : decode cX8_letter 48 = .ok (.iaload, 1) := by decide +kernel
theorem dX8_letter_49 : decode cX8_letter 49 = .ok (.goto 40, 3) := by decide +kernel
theorem dX8_letter_52 : decode cX8_letter 52 = .ok (.iload_n 3, 1) := by decide +kernel
theorem dX8_letter_53 : decode cX8_letter 53 = .ok (.iconst 1, 1) := by decide +kernel
theorem dX8_letter_54 : decode cX8_letter 54 = .ok (.if_icmp .ne 13, 3) := by decide +kernel
theorem dX8_letter_57 : decode cX8_letter 57 = .ok (.aload_n 0, 1) := by decide +kernel
theorem dX8_letter_58 : decode cX8_letter 58 = .ok (.getfield 44, 3) := by decide +kernel
theorem dX8_letter_61 : decode cX8_letter 61 = .ok (.iload 4, 2) := by decide +kernel
theorem dX8_letter_63 : decode cX8_letter 63 = .ok (.iaload, 1) := by decide +kernel
theorem dX8_letter_64 : decode cX8_letter 64 = .ok (.goto 25, 3) := by decide +kernel
theorem dX8_letter_67 : decode cX8_letter 67 = .ok (.iload_n 3, 1) := by decide +kernel
theorem dX8_letter_68 : decode cX8_letter 68 = .ok (.iconst 2, 1) := by decide +kernel
theorem dX8_letter_69 : decode cX8_letter 69 = .ok (.if_icmp .ne 13, 3) := by decide +kernel
theorem dX8_letter_72 : decode cX8_letter 72 = .ok (.aload_n 0, 1) := by decide +kernel
theorem dX8_letter_73 : decode cX8_letter 73 = .ok (.getfield 47, 3) := by decide +kernel
theorem dX8_letter_76 : decode cX8_letter 76 = .ok (.iload 4, 2) := by decide +kernel
theorem dX8_letter_78 : decode cX8_letter 78 = .ok (.iaload, 1) := by decide +kernel
theorem dX8_letter_79 : decode cX8_letter 79 = .ok (.goto 10, 3) := by decide +kernel
theorem dX8_letter_82 : decode cX8_letter 82 = .ok (.aload_n 0, 1) := by decide +kernel
theorem dX8_letter_83 : decode cX8_letter 83 = .ok (.getfield 50, 3) := by decide +kernel
theorem dX8_letter_86 : decode cX8_letter 86 = .ok (.iload 4, 2) := by decide +kernel
theorem dX8_letter_88 : decode cX8_letter 88 = .ok (.iaload, 1) := by decide +kernel
theorem dX8_letter_89 : decode cX8_letter 89 = .ok (.ireturn, 1) := by decide +kernel
theorem dX8_saves_0 : decode cX8_saves 0 = .ok (.iconst 0, 1) := by decide +kernel
theorem dX8_saves_1 : decode cX8_saves 1 = .ok (.istore_n 1, 1) := by decide +kernel
theorem dX8_saves_2 : decode cX8_saves 2 = .ok (.iconst 0, 1) := by decide +kernel
theorem dX8_saves_3 : decode cX8_saves 3 = .ok (.istore_n 2, 1) := by decide +kernel
theorem dX8_saves_4 : decode cX8_saves 4 = .ok (.iload_n 2, 1) := by decide +kernel
theorem dX8_saves_5 : decode cX8_saves 5 = .ok (.bipush 6, 2) := by decide +kernel
theorem dX8_saves_7 : decode cX8_saves 7 = .ok (.if_icmp .ge 49, 3) := by decide +kernel
theorem dX8_saves_10 : decode cX8_saves 10 = .ok (.iload_n 1, 1) := by decide +kernel
theorem dX8_saves_11 : decode cX8_saves 11 = .ok (.aload_n 0, 1) := by decide +kernel
theorem dX8_saves_12 : decode cX8_saves 12 = .ok (.getfield 56, 3) := by decide +kernel
theorem dX8_saves_15 : decode cX8_saves 15 = .ok (.iload_n 2, 1) := by decide +kernel
theorem dX8_saves_16 : decode cX8_saves 16 = .ok (.iaload, 1) := by decide +kernel
theorem dX8_saves_17 : decode cX8_saves 17 = .ok (.aload_n 0, 1) := by decide +kernel
theorem dX8_saves_18 : decode cX8_saves 18 = .ok (.getfield 65, 3) := by decide +kernel
theorem dX8_saves_21 : decode cX8_saves 21 = .ok (.iload_n 2, 1) := by decide +kernel
theorem dX8_saves_22 : decode cX8_saves 22 = .ok (.iaload, 1) := by decide +kernel
theorem dX8_saves_23 : decode cX8_saves 23 = .ok (.isub, 1) := by decide +kernel
theorem dX8_saves_24 : decode cX8_saves 24 = .ok (.iadd, 1) := by decide +kernel
theorem dX8_saves_25 : decode cX8_saves 25 = .ok (.istore_n 1, 1) := by decide +kernel
theorem dX8_saves_26 : decode cX8_saves 26 = .ok (.aload_n 0, 1) := by decide +kernel
theorem dX8_saves_27 : decode cX8_saves 27 = .ok (.getfield 62, 3) := by decide +kernel
theorem dX8_saves_30 : decode cX8_saves 30 = .ok (.iload_n 2, 1) := by decide +kernel
theorem dX8_saves_31 : decode cX8_saves 31 = .ok (.aload_n 0, 1) := by decide +kernel
theorem dX8_saves_32 : decode cX8_saves 32 = .ok (.getfield 53, 3) := by decide +kernel
theorem dX8_saves_35 : decode cX8_saves 35 = .ok (.iload_n 2, 1) := by decide +kernel
theorem dX8_saves_36 : decode cX8_saves 36 = .ok (.iaload, 1) := by decide +kernel
theorem dX8_saves_37 : decode cX8_saves 37 = .ok (.iastore, 1) := by decide +kernel
theorem dX8_saves_38 : decode cX8_saves 38 = .ok (.aload_n 0, 1) := by decide +kernel
theorem dX8_saves_39 : decode cX8_saves 39 = .ok (.getfield 65, 3) := by decide +kernel
theorem dX8_saves_42 : decode cX8_saves 42 = .ok (.iload_n 2, 1) := by decide +kernel
theorem dX8_saves_43 : decode cX8_saves 43 = .ok (.aload_n 0, 1) := by decide +kernel
theorem dX8_saves_44 : decode cX8_saves 44 = .ok (.getfield 56, 3) := by decide +kernel
theorem dX8_saves_47 : decode cX8_saves 47 = .ok (.iload_n 2, 1) := by decide +kernel
theorem dX8_saves_48 : decode cX8_saves 48 = .ok (.iaload, 1) := by decide +kernel
theorem dX8_saves_49 : decode cX8_saves 49 = .ok (.iastore, 1) := by decide +kernel
theorem dX8_saves_50 : decode cX8_saves 50 = .ok (.iinc 2 1, 3) := by decide +kernel
theorem dX8_saves_53 : decode cX8_saves 53 = .ok (.goto (-49), 3) := by decide +kernel
theorem dX8_saves_56 : decode cX8_saves 56 = .ok (.iconst 0, 1) := by decide +kernel
theorem dX8_saves_57 : decode cX8_saves 57 = .ok (.istore_n 2, 1) := by decide +kernel
theorem dX8_saves_58 : decode cX8_saves 58 = .ok (.iload_n 2, 1) := by decide +kernel
theorem dX8_saves_59 : decode cX8_saves 59 = .ok (.sipush 400, 3) := by decide +kernel
theorem dX8_saves_62 : decode cX8_saves 62 = .ok (.if_icmp .ge 21, 3) := by decide +kernel
theorem dX8_saves_65 : decode cX8_saves 65 = .ok (.aload_n 0, 1) := by decide +kernel
theorem dX8_saves_66 : decode cX8_saves 66 = .ok (.getfield 68, 3) := by decide +kernel
theorem dX8_saves_69 : decode cX8_saves 69 = .ok (.iload_n 2, 1) := by decide +kernel
theorem dX8_saves_70 : decode cX8_saves 70 = .ok (.aload_n 0, 1) := by decide +kernel
theorem dX8_saves_71 : decode cX8_saves 71 = .ok (.getfield 59, 3) := by decide +kernel
theorem dX8_saves_74 : decode cX8_saves 74 = .ok (.iload_n 2, 1) := by decide +kernel
theorem dX8_saves_75 : decode cX8_saves 75 = .ok (.baload, 1) := by decide +kernel
theorem dX8_saves_76 : decode cX8_saves 76 = .ok (.bastore, 1) := by decide +kernel
theorem dX8_saves_77 : decode cX8_saves 77 = .ok (.iinc 2 1, 3) := by decide +kernel
theorem dX8_saves_80 : decode cX8_saves 80 = .ok (.goto (-22), 3) := by decide +kernel
theorem dX8_saves_83 : decode cX8_saves 83 = .ok (.iload_n 1, 1) := by decide +kernel
theorem dX8_saves_84 : decode cX8_saves 84 = .ok (.ireturn, 1) := by decide +kernel
set_option maxRecDepth 20000 in
theorem ggX8_save_X8_saves : GoodIn wsX8_save wsX8_saves := goodIn_r _ [5, 6, 7, 8, 9, 10, 11, 12, 13, 14, 15, 16, 17, 18, 19, 20, 21, 22, 23, 24, 25, 26, 27, 28, 29, 30, 31, 32, 33, 34, 35, 36, 37, 38, 39, 40, 41, 42, 43, 44, 45, 46] (by decide +kernel) (by decide +kernel)
set_option maxRecDepth 20000 in
theorem gX8_save_X8_saves : GoodIn wsX8_save (wsV RX8 182 RX8 yX8_saves wsX8_saves) := goodIn_app (goodIn_of _ (by decide +kernel)) ggX8_save_X8_saves
theorem dX8_save_0 : decode cX8_save 0 = .ok (.aload_n 0, 1) := by decide +kernel
theorem dX8_save_1 : decode cX8_save 1 = .ok (.invokevirtual 182, 3) := by decide +kernel
theorem dX8_save_4 : decode cX8_save 4 = .ok (.ireturn, 1) := by decide +kernel
theorem dX8_toAck_0 : decode cX8_toAck 0 = .ok (.iconst 0, 1) := by decide +kernel
theorem dX8_toAck_1 : decode cX8_toAck 1 = .ok (.istore_n 1, 1) := by decide +kernel
theorem dX8_toAck_2 : decode cX8_toAck 2 = .ok (.iload_n 1, 1) := by decide +kernel
theorem dX8_toAck_3 : decode cX8_toAck 3 = .ok (.sipush 400, 3) := by decide +kernel
theorem dX8_toAck_6 : decode cX8_toAck 6 = .ok (.if_icmp .ge 18, 3) := by decide +kernel
theorem dX8_toAck_9 : decode cX8_toAck 9 = .ok (.aload_n 0, 1) := by decide +kernel
theorem dX8_toAck_10 : decode cX8_toAck 10 = .ok (.getfield 68, 3) := by decide +kernel
theorem dX8_toAck_13 : decode cX8_toAck 13 = .ok (.iload_n 1, 1) := by decide +kernel
theorem dX8_toAck_14 : decode cX8_toAck 14 = .ok (.baload, 1) := by decide +kernel
theorem dX8_toAck_15 : decode cX8_toAck 15 = .ok (.ifCond .eq 9, 3) := by decide +kernel
theorem dX8_toAck_18 : decode cX8_toAck 18 = .ok (.iinc 1 1, 3) := by decide +kernel
theorem dX8_toAck_21 : decode cX8_toAck 21 = .ok (.goto (-19), 3) := by decide +kernel
theorem dX8_toAck_24 : decode cX8_toAck 24 = .ok (.iload_n 1, 1) := by decide +kernel
theorem dX8_toAck_25 : decode cX8_toAck 25 = .ok (.ireturn, 1) := by decide +kernel
set_option maxRecDepth 20000 in
theorem ggX8_acks_X8_toAck : GoodIn wsX8_acks wsX8_toAck := goodIn_r _ [7, 8, 9, 10, 11, 12, 13, 14, 15, 16, 17, 18, 19, 20, 21, 22, 23, 24, 25, 26, 27, 28, 29, 30, 31, 32, 33, 34, 35, 36, 37, 38, 39, 40, 41, 42, 43] (by decide +kernel) (by decide +kernel)
set_option maxRecDepth 20000 in
theorem gX8_acks_X8_toAck : GoodIn wsX8_acks (wsV RX8 185 RX8 yX8_toAck wsX8_toAck) := goodIn_app (goodIn_of _ (by decide +kernel)) ggX8_acks_X8_toAck
theorem dX8_acks_0 : decode cX8_acks 0 = .ok (.aload_n 0, 1) := by decide +kernel
theorem dX8_acks_1 : decode cX8_acks 1 = .ok (.invokevirtual 185, 3) := by decide +kernel
theorem dX8_acks_4 : decode cX8_acks 4 = .ok (.istore_n 2, 1) := by decide +kernel
theorem dX8_acks_5 : decode cX8_acks 5 = .ok (.iload_n 1, 1) := by decide +kernel
theorem dX8_acks_6 : decode cX8_acks 6 = .ok (.ifCond .eq 42, 3) := by decide +kernel
theorem dX8_acks_9 : decode cX8_acks 9 = .ok (.iload_n 2, 1) := by decide +kernel
theorem dX8_acks_10 : decode cX8_acks 10 = .ok (.aload_n 0, 1) := by decide +kernel
theorem dX8_acks_11 : decode cX8_acks 11 = .ok (.getfield 128, 3) := by decide +kernel
theorem dX8_acks_14 : decode cX8_acks 14 = .ok (.if_icmp .le 34, 3) := by decide +kernel
theorem dX8_acks_17 : decode cX8_acks 17 = .ok (.aload_n 0, 1) := by decide +kernel
theorem dX8_acks_18 : decode cX8_acks 18 = .ok (.iload_n 2, 1) := by decide +kernel
theorem dX8_acks_19 : decode cX8_acks 19 = .ok (.putfield 128, 3) := by decide +kernel
theorem dX8_acks_22 : decode cX8_acks 22 = .ok (.aload_n 0, 1) := by decide +kernel
theorem dX8_acks_23 : decode cX8_acks 23 = .ok (.aload_n 0, 1) := by decide +kernel
theorem dX8_acks_24 : decode cX8_acks 24 = .ok (.getfield 125, 3) := by decide +kernel
theorem dX8_acks_27 : decode cX8_acks 27 = .ok (.aload_n 0, 1) := by decide +kernel
theorem dX8_acks_28 : decode cX8_acks 28 = .ok (.getfield 128, 3) := by decide +kernel
theorem dX8_acks_31 : decode cX8_acks 31 = .ok (.if_icmp .ge 10, 3) := by decide +kernel
theorem dX8_acks_34 : decode cX8_acks 34 = .ok (.aload_n 0, 1) := by decide +kernel
theorem dX8_acks_35 : decode cX8_acks 35 = .ok (.getfield 128, 3) := by decide +kernel
theorem dX8_acks_38 : decode cX8_acks 38 = .ok (.goto 7, 3) := by decide +kernel
theorem dX8_acks_41 : decode cX8_acks 41 = .ok (.aload_n 0, 1) := by decide +kernel
theorem dX8_acks_42 : decode cX8_acks 42 = .ok (.getfield 125, 3) := by decide +kernel
theorem dX8_acks_45 : decode cX8_acks 45 = .ok (.putfield 125, 3) := by decide +kernel
theorem dX8_acks_48 : decode cX8_acks 48 = .ok (.iload_n 2, 1) := by decide +kernel
theorem dX8_acks_49 : decode cX8_acks 49 = .ok (.ireturn, 1) := by decide +kernel
set_option maxRecDepth 20000 in
theorem ggX8_ack_X8_acks : GoodIn wsX8_ack wsX8_acks := goodIn_r _ [5, 6, 7, 8, 9, 10, 4, 11, 12, 13, 14, 15, 16, 17, 18, 19, 20, 21, 22, 23, 24, 25, 26, 27, 28, 29, 30, 31, 32, 33, 34, 35, 36, 37, 38, 39, 40, 41, 42, 43, 44, 45, 46, 47] (by decide +kernel) (by decide +kernel)
set_option maxRecDepth 20000 in
theorem gX8_ack_X8_acks : GoodIn wsX8_ack (wsV RX8 188 RX8 yX8_acks wsX8_acks) := goodIn_app (goodIn_of _ (by decide +kernel)) ggX8_ack_X8_acks
theorem dX8_ack_0 : decode cX8_ack 0 = .ok (.aload_n 0, 1) := by decide +kernel
theorem dX8_ack_1 : decode cX8_ack 1 = .ok (.iload_n 1, 1) := by decide +kernel
theorem dX8_ack_2 : decode cX8_ack 2 = .ok (.invokevirtual 188, 3) := by decide +kernel
theorem dX8_ack_5 : decode cX8_ack 5 = .ok (.ireturn, 1) := by decide +kernel
set_option maxRecDepth 20000 in
theorem ggX8_flow_X8_in : GoodIn wsX8_flow wsX8_in := goodIn_r _ [6] (by decide +kernel) (by decide +kernel)
set_option maxRecDepth 20000 in
theorem gX8_flow_X8_in : GoodIn wsX8_flow (va_wsS RX8 87 yX8_in wsX8_in) := goodIn_app (goodIn_of _ (by decide +kernel)) ggX8_flow_X8_in
set_option maxRecDepth 20000 in
theorem ggX8_flow_X8_delivers : GoodIn wsX8_flow wsX8_delivers := goodIn_r _ [10, 11, 12, 13, 14, 15, 16, 17, 5, 18, 2, 19, 20, 21, 22, 23, 24, 25, 26, 27, 28, 29, 30, 31, 32, 33, 34, 35, 36, 37, 38, 39, 40, 1, 41, 42, 43, 44, 71, 72, 73, 74, 75, 76, 77, 78, 79, 80, 81, 82, 83, 84, 85, 86, 87, 88, 89, 90, 91, 92, 93, 94, 95, 96, 97, 98, 99, 100, 101, 102, 103, 104, 105] (by decide +kernel) (by decide +kernel)
set_option maxRecDepth 20000 in
theorem gX8_flow_X8_delivers : GoodIn wsX8_flow (wsV RX8 178 RX8 yX8_delivers wsX8_delivers) := goodIn_app (goodIn_of _ (by decide +kernel)) ggX8_flow_X8_delivers
set_option maxRecDepth 20000 in
theorem ggX8_flow_X8_saves : GoodIn wsX8_flow wsX8_saves := goodIn_r _ [48, 23, 49, 50, 39, 51, 40, 71, 72, 73, 74, 75, 76, 77, 78, 79, 80, 81, 82, 83, 84, 85, 86, 87, 88, 89, 90, 91, 92, 93, 94, 95, 96, 97, 98, 99, 100, 101, 102, 103, 104, 105] (by decide +kernel) (by decide +kernel)
set_option maxRecDepth 20000 in
theorem gX8_flow_X8_saves : GoodIn wsX8_flow (wsV RX8 182 RX8 yX8_saves wsX8_saves) := goodIn_app (goodIn_of _ (by decide +kernel)) ggX8_flow_X8_saves
set_option maxRecDepth 20000 in
theorem ggX8_flow_X8_acks : GoodIn wsX8_flow wsX8_acks := goodIn_r _ [55, 56, 57, 58, 59, 60, 5, 61, 51, 71, 72, 73, 74, 75, 76, 77, 78, 79, 80, 81, 82, 83, 84, 85, 86, 87, 88, 89, 90, 91, 92, 93, 94, 95, 96, 97, 98, 99, 100, 101, 102, 103, 104, 105] (by decide +kernel) (by decide +kernel)
set_option maxRecDepth 20000 in
theorem gX8_flow_X8_acks : GoodIn wsX8_flow (wsV RX8 188 RX8 yX8_acks wsX8_acks) := goodIn_app (goodIn_of _ (by decide +kernel)) ggX8_flow_X8_acks
set_option maxRecDepth 20000 in
theorem ggX8_flow_X8_relays : GoodIn wsX8_flow wsX8_relays := goodIn_r _ [65, 57, 66, 2, 67, 14, 11, 12, 68, 13, 69, 70, 71, 72, 73, 74, 75, 76, 77, 78, 79, 80, 81, 82, 83, 84, 85, 86, 87, 88, 89, 90, 91, 92, 93, 94, 95, 96, 97, 98, 99, 100, 101, 102, 103, 104, 105] (by decide +kernel) (by decide +kernel)
set_option maxRecDepth 20000 in
theorem gX8_flow_X8_relays : GoodIn wsX8_flow (wsV RX8 140 RX8 yX8_relays wsX8_relays) := goodIn_app (goodIn_of _ (by decide +kernel)) ggX8_flow_X8_relays
theorem dX8_flow_0 : decode cX8_flow 0 = .ok (.iload_n 1, 1) := by decide +kernel
theorem dX8_flow_1 : decode cX8_flow 1 = .ok (.iconst 1, 1) := by decide +kernel
theorem dX8_flow_2 : decode cX8_flow 2 = .ok (.bipush 10, 2) := by decide +kernel
theorem dX8_flow_4 : decode cX8_flow 4 = .ok (.invokestatic 87, 3) := by decide +kernel
theorem dX8_flow_7 : decode cX8_flow 7 = .ok (.ifCond .ne 5, 3) := by decide +kernel
theorem dX8_flow_10 : decode cX8_flow 10 = .ok (.iconst (-1), 1) := by decide +kernel
theorem dX8_flow_11 : decode cX8_flow 11 = .ok (.ireturn, 1) := by decide +kernel
theorem dX8_flow_12 : decode cX8_flow 12 = .ok (.aload_n 0, 1) := by decide +kernel
theorem dX8_flow_13 : decode cX8_flow 13 = .ok (.getfield 143, 3) := by decide +kernel
theorem dX8_flow_16 : decode cX8_flow 16 = .ok (.istore_n 2, 1) := by decide +kernel
theorem dX8_flow_17 : decode cX8_flow 17 = .ok (.iconst 0, 1) := by decide +kernel
theorem dX8_flow_18 : decode cX8_flow 18 = .ok (.istore_n 3, 1) := by decide +kernel
theorem dX8_flow_19 : decode cX8_flow 19 = .ok (.iload_n 3, 1) := by decide +kernel
theorem dX8_flow_20 : decode cX8_flow 20 = .ok (.iload_n 1, 1) := by decide +kernel
theorem dX8_flow_21 : decode cX8_flow 21 = .ok (.if_icmp .ge 69, 3) := by decide +kernel
theorem dX8_flow_24 : decode cX8_flow 24 = .ok (.iconst 0, 1) := by decide +kernel
theorem dX8_flow_25 : decode cX8_flow 25 = .ok (.istore 4, 2) := by decide +kernel
theorem dX8_flow_27 : decode cX8_flow 27 = .ok (.iload 4, 2) := by decide +kernel
theorem dX8_flow_29 : decode cX8_flow 29 = .ok (.iconst 3, 1) := by decide +kernel
theorem dX8_flow_30 : decode cX8_flow 30 = .ok (.if_icmp .ge 32, 3) := by decide +kernel
theorem dX8_flow_33 : decode cX8_flow 33 = .ok (.aload_n 0, 1) := by decide +kernel
theorem dX8_flow_34 : decode cX8_flow 34 = .ok (.getfield 38, 3) := by decide +kernel
theorem dX8_flow_37 : decode cX8_flow 37 = .ok (.iload 4, 2) := by decide +kernel
theorem dX8_flow_39 : decode cX8_flow 39 = .ok (.iaload, 1) := by decide +kernel
theorem dX8_flow_40 : decode cX8_flow 40 = .ok (.ifCond .le 16, 3) := by decide +kernel
theorem dX8_flow_43 : decode cX8_flow 43 = .ok (.aload_n 0, 1) := by decide +kernel
theorem dX8_flow_44 : decode cX8_flow 44 = .ok (.iload 4, 2) := by decide +kernel
theorem dX8_flow_46 : decode cX8_flow 46 = .ok (.iconst 0, 1) := by decide +kernel
theorem dX8_flow_47 : decode cX8_flow 47 = .ok (.iconst 0, 1) := by decide +kernel
theorem dX8_flow_48 : decode cX8_flow 48 = .ok (.invokevirtual 178, 3) := by decide +kernel
theorem dX8_flow_51 : decode cX8_flow 51 = .ok (.istore 5, 2) := by decide +kernel
theorem dX8_flow_53 : decode cX8_flow 53 = .ok (.goto (-20), 3) := by decide +kernel
theorem dX8_flow_56 : decode cX8_flow 56 = .ok (.iinc 4 1, 3) := by decide +kernel
theorem dX8_flow_59 : decode cX8_flow 59 = .ok (.goto (-32), 3) := by decide +kernel
theorem dX8_flow_62 : decode cX8_flow 62 = .ok (.aload_n 0, 1) := by decide +kernel
theorem dX8_flow_63 : decode cX8_flow 63 = .ok (.invokevirtual 182, 3) := by decide +kernel
theorem dX8_flow_66 : decode cX8_flow 66 = .ok (.istore 4, 2) := by decide +kernel
theorem dX8_flow_68 : decode cX8_flow 68 = .ok (.aload_n 0, 1) := by decide +kernel
theorem dX8_flow_69 : decode cX8_flow 69 = .ok (.iconst 1, 1) := by decide +kernel
theorem dX8_flow_70 : decode cX8_flow 70 = .ok (.invokevirtual 188, 3) := by decide +kernel
theorem dX8_flow_73 : decode cX8_flow 73 = .ok (.istore 5, 2) := by decide +kernel
theorem dX8_flow_75 : decode cX8_flow 75 = .ok (.aload_n 0, 1) := by decide +kernel
theorem dX8_flow_76 : decode cX8_flow 76 = .ok (.sipush 400, 3) := by decide +kernel
theorem dX8_flow_79 : decode cX8_flow 79 = .ok (.invokevirtual 140, 3) := by decide +kernel
theorem dX8_flow_82 : decode cX8_flow 82 = .ok (.istore 6, 2) := by decide +kernel
theorem dX8_flow_84 : decode cX8_flow 84 = .ok (.iinc 3 1, 3) := by decide +kernel
theorem dX8_flow_87 : decode cX8_flow 87 = .ok (.goto (-68), 3) := by decide +kernel
theorem dX8_flow_90 : decode cX8_flow 90 = .ok (.aload_n 0, 1) := by decide +kernel
theorem dX8_flow_91 : decode cX8_flow 91 = .ok (.getfield 143, 3) := by decide +kernel
theorem dX8_flow_94 : decode cX8_flow 94 = .ok (.iload_n 2, 1) := by decide +kernel
theorem dX8_flow_95 : decode cX8_flow 95 = .ok (.isub, 1) := by decide +kernel
theorem dX8_flow_96 : decode cX8_flow 96 = .ok (.ireturn, 1) := by decide +kernel
theorem dX8_whole_0 : decode cX8_whole 0 = .ok (.iconst 1, 1) := by decide +kernel
theorem dX8_whole_1 : decode cX8_whole 1 = .ok (.istore_n 1, 1) := by decide +kernel
theorem dX8_whole_2 : decode cX8_whole 2 = .ok (.iconst 0, 1) := by decide +kernel
theorem dX8_whole_3 : decode cX8_whole 3 = .ok (.istore_n 2, 1) := by decide +kernel
theorem dX8_whole_4 : decode cX8_whole 4 = .ok (.iconst 0, 1) := by decide +kernel
theorem dX8_whole_5 : decode cX8_whole 5 = .ok (.istore_n 3, 1) := by decide +kernel
theorem dX8_whole_6 : decode cX8_whole 6 = .ok (.iload_n 3, 1) := by decide +kernel
theorem dX8_whole_7 : decode cX8_whole 7 = .ok (.aload_n 0, 1) := by decide +kernel
theorem dX8_whole_8 : decode cX8_whole 8 = .ok (.getfield 95, 3) := by decide +kernel
theorem dX8_whole_11 : decode cX8_whole 11 = .ok (.if_icmp .ge 63, 3) := by decide +kernel
theorem dX8_whole_14 : decode cX8_whole 14 = .ok (.aload_n 0, 1) := by decide +kernel
theorem dX8_whole_15 : decode cX8_whole 15 = .ok (.getfield 35, 3) := by decide +kernel
theorem dX8_whole_18 : decode cX8_whole 18 = .ok (.iload_n 3, 1) := by decide +kernel
theorem dX8_whole_19 : decode cX8_whole 19 = .ok (.baload, 1) := by decide +kernel
theorem dX8_whole_20 : decode cX8_whole 20 = .ok (.ifCond .eq 48, 3) := by decide +kernel
theorem dX8_whole_23 : decode cX8_whole 23 = .ok (.iload_n 2, 1) := by decide +kernel
theorem dX8_whole_24 : decode cX8_whole 24 = .ok (.istore 4, 2) := by decide +kernel
theorem dX8_whole_26 : decode cX8_whole 26 = .ok (.iload 4, 2) := by decide +kernel
theorem dX8_whole_28 : decode cX8_whole 28 = .ok (.iload_n 3, 1) := by decide +kernel
theorem dX8_whole_29 : decode cX8_whole 29 = .ok (.if_icmp .gt 35, 3) := by decide +kernel
theorem dX8_whole_32 : decode cX8_whole 32 = .ok (.iload_n 1, 1) := by decide +kernel
theorem dX8_whole_33 : decode cX8_whole 33 = .ok (.ifCond .eq 23, 3) := by decide +kernel
theorem dX8_whole_36 : decode cX8_whole 36 = .ok (.aload_n 0, 1) := by decide +kernel
theorem dX8_whole_37 : decode cX8_whole 37 = .ok (.getfield 68, 3) := by decide +kernel
theorem dX8_whole_40 : decode cX8_whole 40 = .ok (.iload 4, 2) := by decide +kernel
theorem dX8_whole_42 : decode cX8_whole 42 = .ok (.baload, 1) := by decide +kernel
theorem dX8_whole_43 : decode cX8_whole 43 = .ok (.aload_n 0, 1) := by decide +kernel
theorem dX8_whole_44 : decode cX8_whole 44 = .ok (.getfield 68, 3) := by decide +kernel
theorem dX8_whole_47 : decode cX8_whole 47 = .ok (.iload_n 3, 1) := by decide +kernel
theorem dX8_whole_48 : decode cX8_whole 48 = .ok (.baload, 1) := by decide +kernel
theorem dX8_whole_49 : decode cX8_whole 49 = .ok (.if_icmp .ne 7, 3) := by decide +kernel
theorem dX8_whole_52 : decode cX8_whole 52 = .ok (.iconst 1, 1) := by decide +kernel
theorem dX8_whole_53 : decode cX8_whole 53 = .ok (.goto 4, 3) := by decide +kernel
theorem dX8_whole_56 : decode cX8_whole 56 = .ok (.iconst 0, 1) := by decide +kernel
theorem dX8_whole_57 : decode cX8_whole 57 = .ok (.istore_n 1, 1) := by decide +kernel
theorem dX8_whole_58 : decode cX8_whole 58 = .ok (.iinc 4 1, 3) := by decide +kernel
theorem dX8_whole_61 : decode cX8_whole 61 = .ok (.goto (-35), 3) := by decide +kernel
theorem dX8_whole_64 : decode cX8_whole 64 = .ok (.iload_n 3, 1) := by decide +kernel
theorem dX8_whole_65 : decode cX8_whole 65 = .ok (.iconst 1, 1) := by decide +kernel
theorem dX8_whole_66 : decode cX8_whole 66 = .ok (.iadd, 1) := by decide +kernel
theorem dX8_whole_67 : decode cX8_whole 67 = .ok (.istore_n 2, 1) := by decide +kernel
theorem dX8_whole_68 : decode cX8_whole 68 = .ok (.iinc 3 1, 3) := by decide +kernel
theorem dX8_whole_71 : decode cX8_whole 71 = .ok (.goto (-65), 3) := by decide +kernel
theorem dX8_whole_74 : decode cX8_whole 74 = .ok (.iload_n 1, 1) := by decide +kernel
theorem dX8_whole_75 : decode cX8_whole 75 = .ok (.ifCond .eq 7, 3) := by decide +kernel
theorem dX8_whole_78 : decode cX8_whole 78 = .ok (.iconst 1, 1) := by decide +kernel
theorem dX8_whole_79 : decode cX8_whole 79 = .ok (.goto 4, 3) := by decide +kernel
theorem dX8_whole_82 : decode cX8_whole 82 = .ok (.iconst 0, 1) := by decide +kernel
theorem dX8_whole_83 : decode cX8_whole 83 = .ok (.ireturn, 1) := by decide +kernel
theorem dX8_hasPrefix_0 : decode cX8_hasPrefix 0 = .ok (.iconst 0, 1) := by decide +kernel
theorem dX8_hasPrefix_1 : decode cX8_hasPrefix 1 = .ok (.istore 4, 2) := by decide +kernel
theorem dX8_hasPrefix_3 : decode cX8_hasPrefix 3 = .ok (.iconst 0, 1) := by decide +kernel
end
section
theorem dX8_hasPrefix_4 : decode cX8_hasPrefix 4 = .ok (.istore 5, 2) := by decide +kernel
theorem dX8_hasPrefix_6 : decode cX8_hasPrefix 6 = .ok (.iload 5, 2) := by decide +kernel
theorem dX8_hasPrefix_8 : decode cX8_hasPrefix 8 = .ok (.aload_n 0, 1) := by decide +kernel
theorem dX8_hasPrefix_9 : decode cX8_hasPrefix 9 = .ok (.getfield 95, 3) := by decide +kernel
theorem dX8_hasPrefix_12 : decode cX8_hasPrefix 12 = .ok (.if_icmp .ge 45, 3) := by decide +kernel
theorem dX8_hasPrefix_15 : decode cX8_hasPrefix 15 = .ok (.aload_n 0, 1) := by decide +kernel
theorem dX8_hasPrefix_16 : decode cX8_hasPrefix 16 = .ok (.getfield 26, 3) := by decide +kernel
theorem dX8_hasPrefix_19 : decode cX8_hasPrefix 19 = .ok (.iload 5, 2) := by decide +kernel
theorem dX8_hasPrefix_21 : decode cX8_hasPrefix 21 = .ok (.iaload, 1) := by decide +kernel
theorem dX8_hasPrefix_22 : decode cX8_hasPrefix 22 = .ok (.iload_n 1, 1) := by decide +kernel
theorem dX8_hasPrefix_23 : decode cX8_hasPrefix 23 = .ok (.if_icmp .ne 24, 3) := by decide +kernel
theorem dX8_hasPrefix_26 : decode cX8_hasPrefix 26 = .ok (.aload_n 0, 1) := by decide +kernel
theorem dX8_hasPrefix_27 : decode cX8_hasPrefix 27 = .ok (.getfield 32, 3) := by decide +kernel
theorem dX8_hasPrefix_30 : decode cX8_hasPrefix 30 = .ok (.iload 5, 2) := by decide +kernel
theorem dX8_hasPrefix_32 : decode cX8_hasPrefix 32 = .ok (.iaload, 1) := by decide +kernel
theorem dX8_hasPrefix_33 : decode cX8_hasPrefix 33 = .ok (.iload_n 2, 1) := by decide +kernel
theorem dX8_hasPrefix_34 : decode cX8_hasPrefix 34 = .ok (.if_icmp .ne 13, 3) := by decide +kernel
theorem dX8_hasPrefix_37 : decode cX8_hasPrefix 37 = .ok (.aload_n 0, 1) := by decide +kernel
theorem dX8_hasPrefix_38 : decode cX8_hasPrefix 38 = .ok (.getfield 29, 3) := by decide +kernel
theorem dX8_hasPrefix_41 : decode cX8_hasPrefix 41 = .ok (.iload 5, 2) := by decide +kernel
theorem dX8_hasPrefix_43 : decode cX8_hasPrefix 43 = .ok (.iaload, 1) := by decide +kernel
theorem dX8_hasPrefix_44 : decode cX8_hasPrefix 44 = .ok (.goto 5, 3) := by decide +kernel
theorem dX8_hasPrefix_47 : decode cX8_hasPrefix 47 = .ok (.iload 4, 2) := by decide +kernel
theorem dX8_hasPrefix_49 : decode cX8_hasPrefix 49 = .ok (.istore 4, 2) := by decide +kernel
theorem dX8_hasPrefix_51 : decode cX8_hasPrefix 51 = .ok (.iinc 5 1, 3) := by decide +kernel
theorem dX8_hasPrefix_54 : decode cX8_hasPrefix 54 = .ok (.goto (-48), 3) := by decide +kernel
theorem dX8_hasPrefix_57 : decode cX8_hasPrefix 57 = .ok (.iload 4, 2) := by decide +kernel
theorem dX8_hasPrefix_59 : decode cX8_hasPrefix 59 = .ok (.iload_n 3, 1) := by decide +kernel
theorem dX8_hasPrefix_60 : decode cX8_hasPrefix 60 = .ok (.if_icmp .ne 7, 3) := by decide +kernel
theorem dX8_hasPrefix_63 : decode cX8_hasPrefix 63 = .ok (.iconst 1, 1) := by decide +kernel
theorem dX8_hasPrefix_64 : decode cX8_hasPrefix 64 = .ok (.goto 4, 3) := by decide +kernel
theorem dX8_hasPrefix_67 : decode cX8_hasPrefix 67 = .ok (.iconst 0, 1) := by decide +kernel
theorem dX8_hasPrefix_68 : decode cX8_hasPrefix 68 = .ok (.ireturn, 1) := by decide +kernel
set_option maxRecDepth 20000 in
theorem ggX8_prefix_X8_in : GoodIn wsX8_prefix wsX8_in := goodIn_r _ [8] (by decide +kernel) (by decide +kernel)
set_option maxRecDepth 20000 in
theorem gX8_prefix_X8_in : GoodIn wsX8_prefix (va_wsS RX8 87 yX8_in wsX8_in) := goodIn_app (goodIn_of _ (by decide +kernel)) ggX8_prefix_X8_in
set_option maxRecDepth 20000 in
theorem ggX8_prefix_X8_hasPrefix : GoodIn wsX8_prefix wsX8_hasPrefix := goodIn_r _ [12, 13, 14, 15, 16, 17, 18, 19, 20, 21, 22, 23, 24, 25, 26, 27, 28, 29, 30, 31, 32, 33, 34, 35, 36, 37, 38, 39, 40, 41, 42, 43, 44, 45, 46, 47, 48, 49, 50, 51] (by decide +kernel) (by decide +kernel)
set_option maxRecDepth 20000 in
theorem gX8_prefix_X8_hasPrefix : GoodIn wsX8_prefix (wsV RX8 192 RX8 yX8_hasPrefix wsX8_hasPrefix) := goodIn_app (goodIn_of _ (by decide +kernel)) ggX8_prefix_X8_hasPrefix
theorem dX8_prefix_0 : decode cX8_prefix 0 = .ok (.iload_n 1, 1) := by decide +kernel
theorem dX8_prefix_1 : decode cX8_prefix 1 = .ok (.iconst 0, 1) := by decide +kernel
theorem dX8_prefix_2 : decode cX8_prefix 2 = .ok (.iconst 1, 1) := by decide +kernel
theorem dX8_prefix_3 : decode cX8_prefix 3 = .ok (.invokestatic 87, 3) := by decide +kernel
theorem dX8_prefix_6 : decode cX8_prefix 6 = .ok (.ifCond .ne 5, 3) := by decide +kernel
theorem dX8_prefix_9 : decode cX8_prefix 9 = .ok (.iconst (-1), 1) := by decide +kernel
theorem dX8_prefix_10 : decode cX8_prefix 10 = .ok (.ireturn, 1) := by decide +kernel
theorem dX8_prefix_11 : decode cX8_prefix 11 = .ok (.iconst 1, 1) := by decide +kernel
theorem dX8_prefix_12 : decode cX8_prefix 12 = .ok (.istore_n 2, 1) := by decide +kernel
theorem dX8_prefix_13 : decode cX8_prefix 13 = .ok (.iconst 0, 1) := by decide +kernel
theorem dX8_prefix_14 : decode cX8_prefix 14 = .ok (.istore_n 3, 1) := by decide +kernel
theorem dX8_prefix_15 : decode cX8_prefix 15 = .ok (.iload_n 3, 1) := by decide +kernel
theorem dX8_prefix_16 : decode cX8_prefix 16 = .ok (.bipush 6, 2) := by decide +kernel
theorem dX8_prefix_18 : decode cX8_prefix 18 = .ok (.if_icmp .ge 66, 3) := by decide +kernel
theorem dX8_prefix_21 : decode cX8_prefix 21 = .ok (.iload_n 2, 1) := by decide +kernel
theorem dX8_prefix_22 : decode cX8_prefix 22 = .ok (.ifCond .eq 54, 3) := by decide +kernel
theorem dX8_prefix_25 : decode cX8_prefix 25 = .ok (.iload_n 1, 1) := by decide +kernel
theorem dX8_prefix_26 : decode cX8_prefix 26 = .ok (.ifCond .ne 26, 3) := by decide +kernel
theorem dX8_prefix_29 : decode cX8_prefix 29 = .ok (.aload_n 0, 1) := by decide +kernel
theorem dX8_prefix_30 : decode cX8_prefix 30 = .ok (.iload_n 3, 1) := by decide +kernel
theorem dX8_prefix_31 : decode cX8_prefix 31 = .ok (.aload_n 0, 1) := by decide +kernel
theorem dX8_prefix_32 : decode cX8_prefix 32 = .ok (.getfield 56, 3) := by decide +kernel
theorem dX8_prefix_35 : decode cX8_prefix 35 = .ok (.iload_n 3, 1) := by decide +kernel
theorem dX8_prefix_36 : decode cX8_prefix 36 = .ok (.iaload, 1) := by decide +kernel
theorem dX8_prefix_37 : decode cX8_prefix 37 = .ok (.aload_n 0, 1) := by decide +kernel
theorem dX8_prefix_38 : decode cX8_prefix 38 = .ok (.getfield 53, 3) := by decide +kernel
theorem dX8_prefix_41 : decode cX8_prefix 41 = .ok (.iload_n 3, 1) := by decide +kernel
theorem dX8_prefix_42 : decode cX8_prefix 42 = .ok (.iaload, 1) := by decide +kernel
theorem dX8_prefix_43 : decode cX8_prefix 43 = .ok (.invokevirtual 192, 3) := by decide +kernel
theorem dX8_prefix_46 : decode cX8_prefix 46 = .ok (.ifCond .eq 30, 3) := by decide +kernel
theorem dX8_prefix_49 : decode cX8_prefix 49 = .ok (.goto 23, 3) := by decide +kernel
theorem dX8_prefix_52 : decode cX8_prefix 52 = .ok (.aload_n 0, 1) := by decide +kernel
theorem dX8_prefix_53 : decode cX8_prefix 53 = .ok (.iload_n 3, 1) := by decide +kernel
theorem dX8_prefix_54 : decode cX8_prefix 54 = .ok (.aload_n 0, 1) := by decide +kernel
theorem dX8_prefix_55 : decode cX8_prefix 55 = .ok (.getfield 65, 3) := by decide +kernel
theorem dX8_prefix_58 : decode cX8_prefix 58 = .ok (.iload_n 3, 1) := by decide +kernel
theorem dX8_prefix_59 : decode cX8_prefix 59 = .ok (.iaload, 1) := by decide +kernel
theorem dX8_prefix_60 : decode cX8_prefix 60 = .ok (.aload_n 0, 1) := by decide +kernel
theorem dX8_prefix_61 : decode cX8_prefix 61 = .ok (.getfield 62, 3) := by decide +kernel
theorem dX8_prefix_64 : decode cX8_prefix 64 = .ok (.iload_n 3, 1) := by decide +kernel
theorem dX8_prefix_65 : decode cX8_prefix 65 = .ok (.iaload, 1) := by decide +kernel
theorem dX8_prefix_66 : decode cX8_prefix 66 = .ok (.invokevirtual 192, 3) := by decide +kernel
theorem dX8_prefix_69 : decode cX8_prefix 69 = .ok (.ifCond .eq 7, 3) := by decide +kernel
theorem dX8_prefix_72 : decode cX8_prefix 72 = .ok (.iconst 1, 1) := by decide +kernel
theorem dX8_prefix_73 : decode cX8_prefix 73 = .ok (.goto 4, 3) := by decide +kernel
theorem dX8_prefix_76 : decode cX8_prefix 76 = .ok (.iconst 0, 1) := by decide +kernel
theorem dX8_prefix_77 : decode cX8_prefix 77 = .ok (.istore_n 2, 1) := by decide +kernel
theorem dX8_prefix_78 : decode cX8_prefix 78 = .ok (.iinc 3 1, 3) := by decide +kernel
theorem dX8_prefix_81 : decode cX8_prefix 81 = .ok (.goto (-66), 3) := by decide +kernel
theorem dX8_prefix_84 : decode cX8_prefix 84 = .ok (.iload_n 2, 1) := by decide +kernel
theorem dX8_prefix_85 : decode cX8_prefix 85 = .ok (.ifCond .eq 7, 3) := by decide +kernel
theorem dX8_prefix_88 : decode cX8_prefix 88 = .ok (.iconst 1, 1) := by decide +kernel
theorem dX8_prefix_89 : decode cX8_prefix 89 = .ok (.goto 4, 3) := by decide +kernel
theorem dX8_prefix_92 : decode cX8_prefix 92 = .ok (.iconst 0, 1) := by decide +kernel
theorem dX8_prefix_93 : decode cX8_prefix 93 = .ok (.ireturn, 1) := by decide +kernel
set_option maxRecDepth 20000 in
theorem ggX8_count_X8_toAck : GoodIn wsX8_count wsX8_toAck := goodIn_r _ [18, 19, 20, 21, 22, 23, 24, 25, 26, 27, 28, 29, 30, 31, 32, 33, 34, 35, 36, 37, 38, 39, 40, 41, 42, 43, 44, 45, 46, 47, 48, 49, 50, 51, 52, 53, 54] (by decide +kernel) (by decide +kernel)
set_option maxRecDepth 20000 in
theorem gX8_count_X8_toAck : GoodIn wsX8_count (wsV RX8 185 RX8 yX8_toAck wsX8_toAck) := goodIn_app (goodIn_of _ (by decide +kernel)) ggX8_count_X8_toAck
theorem dX8_count_0 : decode cX8_count 0 = .ok (.iconst 0, 1) := by decide +kernel
theorem dX8_count_1 : decode cX8_count 1 = .ok (.istore_n 2, 1) := by decide +kernel
theorem dX8_count_2 : decode cX8_count 2 = .ok (.iload_n 1, 1) := by decide +kernel
theorem dX8_count_3 : decode cX8_count 3 = .ok (.tableswitch 182 0 13 #[69, 101, 106, 111, 116, 121, 126, 147, 152, 157, 162, 167, 172, 177], 69) := by decide +kernel
theorem dX8_count_72 : decode cX8_count 72 = .ok (.iconst 0, 1) := by decide +kernel
theorem dX8_count_73 : decode cX8_count 73 = .ok (.istore_n 3, 1) := by decide +kernel
theorem dX8_count_74 : decode cX8_count 74 = .ok (.iload_n 3, 1) := by decide +kernel
theorem dX8_count_75 : decode cX8_count 75 = .ok (.iconst 4, 1) := by decide +kernel
theorem dX8_count_76 : decode cX8_count 76 = .ok (.if_icmp .ge 26, 3) := by decide +kernel
theorem dX8_count_79 : decode cX8_count 79 = .ok (.iload_n 2, 1) := by decide +kernel
theorem dX8_count_80 : decode cX8_count 80 = .ok (.aload_n 0, 1) := by decide +kernel
theorem dX8_count_81 : decode cX8_count 81 = .ok (.getfield 7, 3) := by decide +kernel
theorem dX8_count_84 : decode cX8_count 84 = .ok (.iload_n 3, 1) := by decide +kernel
theorem dX8_count_85 : decode cX8_count 85 = .ok (.baload, 1) := by decide +kernel
theorem dX8_count_86 : decode cX8_count 86 = .ok (.ifCond .eq 7, 3) := by decide +kernel
theorem dX8_count_89 : decode cX8_count 89 = .ok (.iconst 1, 1) := by decide +kernel
theorem dX8_count_90 : decode cX8_count 90 = .ok (.goto 4, 3) := by decide +kernel
theorem dX8_count_93 : decode cX8_count 93 = .ok (.iconst 0, 1) := by decide +kernel
theorem dX8_count_94 : decode cX8_count 94 = .ok (.iadd, 1) := by decide +kernel
theorem dX8_count_95 : decode cX8_count 95 = .ok (.istore_n 2, 1) := by decide +kernel
theorem dX8_count_96 : decode cX8_count 96 = .ok (.iinc 3 1, 3) := by decide +kernel
theorem dX8_count_99 : decode cX8_count 99 = .ok (.goto (-25), 3) := by decide +kernel
theorem dX8_count_102 : decode cX8_count 102 = .ok (.iload_n 2, 1) := by decide +kernel
theorem dX8_count_103 : decode cX8_count 103 = .ok (.ireturn, 1) := by decide +kernel
theorem dX8_count_104 : decode cX8_count 104 = .ok (.aload_n 0, 1) := by decide +kernel
theorem dX8_count_105 : decode cX8_count 105 = .ok (.getfield 83, 3) := by decide +kernel
theorem dX8_count_108 : decode cX8_count 108 = .ok (.ireturn, 1) := by decide +kernel
theorem dX8_count_109 : decode cX8_count 109 = .ok (.aload_n 0, 1) := by decide +kernel
theorem dX8_count_110 : decode cX8_count 110 = .ok (.getfield 95, 3) := by decide +kernel
theorem dX8_count_113 : decode cX8_count 113 = .ok (.ireturn, 1) := by decide +kernel
theorem dX8_count_114 : decode cX8_count 114 = .ok (.aload_n 0, 1) := by decide +kernel
theorem dX8_count_115 : decode cX8_count 115 = .ok (.getfield 125, 3) := by decide +kernel
theorem dX8_count_118 : decode cX8_count 118 = .ok (.ireturn, 1) := by decide +kernel
theorem dX8_count_119 : decode cX8_count 119 = .ok (.aload_n 0, 1) := by decide +kernel
theorem dX8_count_120 : decode cX8_count 120 = .ok (.getfield 128, 3) := by decide +kernel
theorem dX8_count_123 : decode cX8_count 123 = .ok (.ireturn, 1) := by decide +kernel
theorem dX8_count_124 : decode cX8_count 124 = .ok (.aload_n 0, 1) := by decide +kernel
theorem dX8_count_125 : decode cX8_count 125 = .ok (.getfield 134, 3) := by decide +kernel
theorem dX8_count_128 : decode cX8_count 128 = .ok (.ireturn, 1) := by decide +kernel
theorem dX8_count_129 : decode cX8_count 129 = .ok (.aload_n 0, 1) := by decide +kernel
theorem dX8_count_130 : decode cX8_count 130 = .ok (.getfield 38, 3) := by decide +kernel
theorem dX8_count_133 : decode cX8_count 133 = .ok (.iconst 0, 1) := by decide +kernel
theorem dX8_count_134 : decode cX8_count 134 = .ok (.iaload, 1) := by decide +kernel
theorem dX8_count_135 : decode cX8_count 135 = .ok (.aload_n 0, 1) := by decide +kernel
theorem dX8_count_136 : decode cX8_count 136 = .ok (.getfield 38, 3) := by decide +kernel
theorem dX8_count_139 : decode cX8_count 139 = .ok (.iconst 1, 1) := by decide +kernel
theorem dX8_count_140 : decode cX8_count 140 = .ok (.iaload, 1) := by decide +kernel
theorem dX8_count_141 : decode cX8_count 141 = .ok (.iadd, 1) := by decide +kernel
theorem dX8_count_142 : decode cX8_count 142 = .ok (.aload_n 0, 1) := by decide +kernel
theorem dX8_count_143 : decode cX8_count 143 = .ok (.getfield 38, 3) := by decide +kernel
theorem dX8_count_146 : decode cX8_count 146 = .ok (.iconst 2, 1) := by decide +kernel
theorem dX8_count_147 : decode cX8_count 147 = .ok (.iaload, 1) := by decide +kernel
theorem dX8_count_148 : decode cX8_count 148 = .ok (.iadd, 1) := by decide +kernel
theorem dX8_count_149 : decode cX8_count 149 = .ok (.ireturn, 1) := by decide +kernel
theorem dX8_count_150 : decode cX8_count 150 = .ok (.aload_n 0, 1) := by decide +kernel
theorem dX8_count_151 : decode cX8_count 151 = .ok (.getfield 137, 3) := by decide +kernel
theorem dX8_count_154 : decode cX8_count 154 = .ok (.ireturn, 1) := by decide +kernel
theorem dX8_count_155 : decode cX8_count 155 = .ok (.aload_n 0, 1) := by decide +kernel
theorem dX8_count_156 : decode cX8_count 156 = .ok (.getfield 143, 3) := by decide +kernel
theorem dX8_count_159 : decode cX8_count 159 = .ok (.ireturn, 1) := by decide +kernel
theorem dX8_count_160 : decode cX8_count 160 = .ok (.aload_n 0, 1) := by decide +kernel
theorem dX8_count_161 : decode cX8_count 161 = .ok (.getfield 146, 3) := by decide +kernel
theorem dX8_count_164 : decode cX8_count 164 = .ok (.ireturn, 1) := by decide +kernel
theorem dX8_count_165 : decode cX8_count 165 = .ok (.aload_n 0, 1) := by decide +kernel
theorem dX8_count_166 : decode cX8_count 166 = .ok (.getfield 115, 3) := by decide +kernel
theorem dX8_count_169 : decode cX8_count 169 = .ok (.ireturn, 1) := by decide +kernel
theorem dX8_count_170 : decode cX8_count 170 = .ok (.aload_n 0, 1) := by decide +kernel
theorem dX8_count_171 : decode cX8_count 171 = .ok (.getfield 153, 3) := by decide +kernel
theorem dX8_count_174 : decode cX8_count 174 = .ok (.ireturn, 1) := by decide +kernel
theorem dX8_count_175 : decode cX8_count 175 = .ok (.aload_n 0, 1) := by decide +kernel
theorem dX8_count_176 : decode cX8_count 176 = .ok (.getfield 118, 3) := by decide +kernel
theorem dX8_count_179 : decode cX8_count 179 = .ok (.ireturn, 1) := by decide +kernel
theorem dX8_count_180 : decode cX8_count 180 = .ok (.aload_n 0, 1) := by decide +kernel
theorem dX8_count_181 : decode cX8_count 181 = .ok (.invokevirtual 185, 3) := by decide +kernel
theorem dX8_count_184 : decode cX8_count 184 = .ok (.ireturn, 1) := by decide +kernel
theorem dX8_count_185 : decode cX8_count 185 = .ok (.iconst (-1), 1) := by decide +kernel
theorem dX8_count_186 : decode cX8_count 186 = .ok (.ireturn, 1) := by decide +kernel
theorem dJ9_max_7cf53_0 : decode cJ9_max_7cf53 0 = .ok (.iload_n 0, 1) := by decide +kernel
theorem dJ9_max_7cf53_1 : decode cJ9_max_7cf53 1 = .ok (.iload_n 1, 1) := by decide +kernel
theorem dJ9_max_7cf53_2 : decode cJ9_max_7cf53 2 = .ok (.if_icmp .lt 7, 3) := by decide +kernel
theorem dJ9_max_7cf53_5 : decode cJ9_max_7cf53 5 = .ok (.iload_n 0, 1) := by decide +kernel
theorem dJ9_max_7cf53_6 : decode cJ9_max_7cf53 6 = .ok (.goto 4, 3) := by decide +kernel
theorem dJ9_max_7cf53_9 : decode cJ9_max_7cf53 9 = .ok (.iload_n 1, 1) := by decide +kernel
theorem dJ9_max_7cf53_10 : decode cJ9_max_7cf53 10 = .ok (.ireturn, 1) := by decide +kernel
theorem dJ7_fill_53178_0 : decode cJ7_fill_53178 0 = .ok (.iconst 0, 1) := by decide +kernel
theorem dJ7_fill_53178_1 : decode cJ7_fill_53178 1 = .ok (.istore_n 2, 1) := by decide +kernel
theorem dJ7_fill_53178_2 : decode cJ7_fill_53178 2 = .ok (.aload_n 0, 1) := by decide +kernel
theorem dJ7_fill_53178_3 : decode cJ7_fill_53178 3 = .ok (.arraylength, 1) := by decide +kernel
theorem dJ7_fill_53178_4 : decode cJ7_fill_53178 4 = .ok (.istore_n 3, 1) := by decide +kernel
theorem dJ7_fill_53178_5 : decode cJ7_fill_53178 5 = .ok (.iload_n 2, 1) := by decide +kernel
theorem dJ7_fill_53178_6 : decode cJ7_fill_53178 6 = .ok (.iload_n 3, 1) := by decide +kernel
theorem dJ7_fill_53178_7 : decode cJ7_fill_53178 7 = .ok (.if_icmp .ge 13, 3) := by decide +kernel
theorem dJ7_fill_53178_10 : decode cJ7_fill_53178 10 = .ok (.aload_n 0, 1) := by decide +kernel
theorem dJ7_fill_53178_11 : decode cJ7_fill_53178 11 = .ok (.iload_n 2, 1) := by decide +kernel
theorem dJ7_fill_53178_12 : decode cJ7_fill_53178 12 = .ok (.iload_n 1, 1) := by decide +kernel
theorem dJ7_fill_53178_13 : decode cJ7_fill_53178 13 = .ok (.iastore, 1) := by decide +kernel
theorem dJ7_fill_53178_14 : decode cJ7_fill_53178 14 = .ok (.iinc 2 1, 3) := by decide +kernel
theorem dJ7_fill_53178_17 : decode cJ7_fill_53178 17 = .ok (.goto (-12), 3) := by decide +kernel
theorem dJ7_fill_53178_20 : decode cJ7_fill_53178 20 = .ok (.return_, 1) := by decide +kernel
abbrev vwCl : List vw_C := [(RX0, TX0, 5), (RX1, TX1, 4), (RX2, TX2, 6), (RX3, TX3, 2), (RX4, TX4, 6), (RX5, TX5, 7), (RX6, TX6, 3), (RX7, TX7, 5), (RX8, TX8, 35)]
end
section
abbrev St : Type := Nat → Nat → Int32
abbrev Rf : Type := Nat → Nat → Option Nat
abbrev CS : Type := St × Rf × List Nat × St
def st (I : St) (c k : Nat) (v : Int32) : St := va_up I c (upd (I c) k v)
def stJ (J : Rf) (c k : Nat) (r : Option Nat) : Rf := va_up J c (va_up (J c) k r)
abbrev wT (cy : Nat → ClassId) : List (ClassId × FieldType) := [(cy 0, .int), (cy 1, .boolean), (cy 2, .object RX0), (cy 3, .object RX3)]
def nestF : List (String × Nat × String × String × String × String) := [(RX7, 197, "OutboxHouse$ChangeLog", "first", "I", "OutboxHouse"), (RX4, 48, "OutboxHouse$ChangeLog", "flushed", "I", "OutboxHouse"), (RX7, 191, "OutboxHouse$ChangeLog", "flushed", "I", "OutboxHouse"), (RX4, 67, "OutboxHouse$ChangeLog", "end", "I", "OutboxHouse"), (RX7, 188, "OutboxHouse$ChangeLog", "end", "I", "OutboxHouse"), (RX7, 85, "OutboxHouse$Source", "values", "[I", "OutboxHouse"), (RX7, 89, "OutboxHouse$Source", "counts", "[I", "OutboxHouse"), (RX2, 72, "OutboxHouse$Row", "size", "I", "OutboxHouse"), (RX7, 213, "OutboxHouse$Row", "size", "I", "OutboxHouse"), (RX7, 221, "OutboxHouse$Relay", "lanes", "[LOutboxHouse$Row;", "OutboxHouse"), (RX7, 194, "OutboxHouse$Relay", "position", "I", "OutboxHouse"), (RX7, 136, "OutboxHouse$Relay", "mark", "I", "OutboxHouse"), (RX7, 203, "OutboxHouse$Relay", "sentEver", "I", "OutboxHouse"), (RX7, 153, "OutboxHouse$Relay", "lostUnderWay", "I", "OutboxHouse"), (RX7, 99, "OutboxHouse$TargetState", "values", "[I", "OutboxHouse"), (RX5, 54, "OutboxHouse$TargetState", "done", "[I", "OutboxHouse"), (RX7, 102, "OutboxHouse$TargetState", "done", "[I", "OutboxHouse"), (RX7, 165, "OutboxHouse$TargetState", "upTo", "I", "OutboxHouse"), (RX7, 95, "OutboxHouse$Target", "memory", "LOutboxHouse$TargetState;", "OutboxHouse"), (RX7, 105, "OutboxHouse$Target", "disk", "LOutboxHouse$TargetState;", "OutboxHouse"), (RX7, 209, "OutboxHouse$Target", "held", "LOutboxHouse$Row;", "OutboxHouse"), (RX7, 171, "OutboxHouse$Target", "doneEver", "I", "OutboxHouse"), (RX7, 206, "OutboxHouse$Target", "twiceEver", "I", "OutboxHouse"), (RX7, 218, "OutboxHouse$Target", "lostForRoom", "I", "OutboxHouse")]
def nestM : List (String × Nat × MethodName × String) := [(RX7, 9, yX1_init, "OutboxHouse"), (RX5, 11, yX6_init, "OutboxHouse"), (RX2, 53, yX7_isLane, "OutboxHouse")]
def wN (U : State) : Prop := (∀ q ∈ nestF, va_Nw (.fieldLinkNest q.1 q.2.1 q.2.2.1 q.2.2.2.1 q.2.2.2.2.1 q.2.2.2.2.2) U) ∧ ∀ q ∈ nestM, va_Nw (.methodLinkNest q.1 q.2.1 q.2.2.1 q.2.2.2) U
theorem wN.warm {s U : State} (hW : s.WarmedH U.vm) (h : wN s) : wN U := ⟨fun q hq => va_Nw.warmF hW (h.1 q hq), fun q hq => va_Nw.warmM hW (h.2 q hq)⟩
theorem wN.same {u U : State} (e : u.vm = U.vm) (h : wN u) : wN U := ⟨fun q hq => va_Nw.same rfl e (h.1 q hq), fun q hq => va_Nw.same rfl e (h.2 q hq)⟩
def wPre (D : va_G) (cy : Nat → ClassId) (A : Nat → Prop) (ws : va_W) (U : State) : Prop := va_P D vwCl ws U.heap ∧ va_K D vwCl (wT cy) U ∧ wN U ∧ ∀ q, U.heap.size ≤ q → A q
def wPost (D : va_G) (A : Nat → Prop) (ws : va_W) (t : State) : Prop := va_P D vwCl ws t.heap ∧ va_D A ws
theorem wPre.blind {D : va_G} {cy : Nat → ClassId} {A : Nat → Prop} {ws : va_W} {av : List Value} : FrameBlind (va_Pc av (wPre D cy A ws)) := fun a U g mk q => ⟨q.1, q.2.1, va_K.moved (u := U) (U := U.calling g mk a) (Vm.Alike.refl U.vm) q.2.2.1, wN.same (u := U) (U := U.calling g mk a) rfl q.2.2.2.1, q.2.2.2.2⟩
theorem wPre.at {D : va_G} {cy : Nat → ClassId} {A : Nat → Prop} {ws : va_W} {H H0 : Heap} {locs : List Loc} {s : State} {av : List Value} (hP : va_P D vwCl ws H) (hK : va_K D vwCl (wT cy) s) (hN : wN s) (hS : va_S A H0 H locs) (hA : ∀ q, H0.size ≤ q → A q) : ∀ U : State, U.heap = H → s.WarmedH U.vm → va_Pc av (wPre D cy A ws) av.toArray U := fun U hU hW => ⟨rfl, by rw [hU]; exact hP, va_K.moved hW.alike hK, hN.warm hW, by rw [hU]; exact fun q h => hA q (Nat.le_trans hS.1 h)⟩
theorem wP {D : va_G} {H : Heap} {w1 w2 : va_W} (e : w1 = w2) (h : va_P D vwCl w1 H) : va_P D vwCl w2 H := e ▸ h
theorem wD {A : Nat → Prop} {w1 w2 : va_W} (e : w1 = w2) (h : va_D A w1) : va_D A w2 := e ▸ h
-- the reference
def rO (ad : Nat → Nat) (I : St) : List Value := [.ref (ad 0), .ref (ad 1), .ref (ad 2), .ref (ad 3), .ref (ad 4), .int (I 5 0), .int (I 6 0), .int (I 7 0), .ref (ad 8), .ref (ad 9), .ref (ad 10), .ref (ad 11), .int (I 12 0), .int (I 13 0), .ref (ad 14), .ref (ad 15), .ref (ad 16), .ref (ad 17), .ref (ad 18), .ref (ad 19), .ref (ad 20), .ref (ad 21), .ref (ad 22), .ref (ad 23), .ref (ad 24), .int (I 25 0), .ref (ad 26), .ref (ad 27), .ref (ad 28), .ref (ad 29), .int (I 30 0), .int (I 31 0), .int (I 32 0), .int (I 33 0), .int (I 34 0)]
def rW (ad : Nat → Nat) (cy : Nat → ClassId) (I : St) : va_W := [(ad 40, .inr (8, rO ad I)), (ad 0, .inl (cy 1, 4, .inl (I 0))), (ad 1, .inl (cy 1, 24, .inl (I 1))), (ad 2, .inl (cy 0, 24, .inl (I 2))), (ad 3, .inl (cy 0, 6, .inl (I 3))), (ad 4, .inl (cy 0, 6, .inl (I 4))), (ad 8, .inl (cy 0, 400, .inl (I 8))), (ad 9, .inl (cy 0, 400, .inl (I 9))), (ad 10, .inl (cy 0, 400, .inl (I 10))), (ad 11, .inl (cy 1, 400, .inl (I 11))), (ad 14, .inl (cy 0, 3, .inl (I 14))), (ad 15, .inl (cy 0, 120, .inl (I 15))), (ad 16, .inl (cy 0, 120, .inl (I 16))), (ad 17, .inl (cy 0, 120, .inl (I 17))), (ad 18, .inl (cy 0, 120, .inl (I 18))), (ad 19, .inl (cy 0, 6, .inl (I 19))), (ad 20, .inl (cy 0, 6, .inl (I 20))), (ad 21, .inl (cy 1, 400, .inl (I 21))), (ad 22, .inl (cy 0, 6, .inl (I 22))), (ad 23, .inl (cy 0, 6, .inl (I 23))), (ad 24, .inl (cy 1, 400, .inl (I 24))), (ad 26, .inl (cy 0, 8, .inl (I 26))), (ad 27, .inl (cy 0, 8, .inl (I 27))), (ad 28, .inl (cy 0, 8, .inl (I 28))), (ad 29, .inl (cy 0, 8, .inl (I 29)))]
section RG
variable {ad : Nat → Nat} {cy : Nat → ClassId} {I I1 : St} {k : Nat} {v : Int32}
theorem rG_o : (rW ad cy I)[0]? = some (ad 40, .inr (8, rO ad I)) := rfl
theorem rG_0 : (rW ad cy I)[1]? = some (ad 0, .inl (cy 1, 4, .inl (I 0))) := rfl
theorem rG_1 : (rW ad cy I)[2]? = some (ad 1, .inl (cy 1, 24, .inl (I 1))) := rfl
theorem rG_2 : (rW ad cy I)[3]? = some (ad 2, .inl (cy 0, 24, .inl (I 2))) := rfl
theorem rG_3 : (rW ad cy I)[4]? = some (ad 3, .inl (cy 0, 6, .inl (I 3))) := rfl
theorem rG_4 : (rW ad cy I)[5]? = some (ad 4, .inl (cy 0, 6, .inl (I 4))) := rfl
theorem rG_8 : (rW ad cy I)[6]? = some (ad 8, .inl (cy 0, 400, .inl (I 8))) := rfl
theorem rG_9 : (rW ad cy I)[7]? = some (ad 9, .inl (cy 0, 400, .inl (I 9))) := rfl
theorem rG_10 : (rW ad cy I)[8]? = some (ad 10, .inl (cy 0, 400, .inl (I 10))) := rfl
theorem rG_11 : (rW ad cy I)[9]? = some (ad 11, .inl (cy 1, 400, .inl (I 11))) := rfl
theorem rG_14 : (rW ad cy I)[10]? = some (ad 14, .inl (cy 0, 3, .inl (I 14))) := rfl
theorem rG_15 : (rW ad cy I)[11]? = some (ad 15, .inl (cy 0, 120, .inl (I 15))) := rfl
theorem rG_16 : (rW ad cy I)[12]? = some (ad 16, .inl (cy 0, 120, .inl (I 16))) := rfl
theorem rG_17 : (rW ad cy I)[13]? = some (ad 17, .inl (cy 0, 120, .inl (I 17))) := rfl
theorem rG_18 : (rW ad cy I)[14]? = some (ad 18, .inl (cy 0, 120, .inl (I 18))) := rfl
theorem rG_19 : (rW ad cy I)[15]? = some (ad 19, .inl (cy 0, 6, .inl (I 19))) := rfl
theorem rG_20 : (rW ad cy I)[16]? = some (ad 20, .inl (cy 0, 6, .inl (I 20))) := rfl
theorem rG_21 : (rW ad cy I)[17]? = some (ad 21, .inl (cy 1, 400, .inl (I 21))) := rfl
theorem rG_22 : (rW ad cy I)[18]? = some (ad 22, .inl (cy 0, 6, .inl (I 22))) := rfl
theorem rG_23 : (rW ad cy I)[19]? = some (ad 23, .inl (cy 0, 6, .inl (I 23))) := rfl
theorem rG_24 : (rW ad cy I)[20]? = some (ad 24, .inl (cy 1, 400, .inl (I 24))) := rfl
theorem rG_26 : (rW ad cy I)[21]? = some (ad 26, .inl (cy 0, 8, .inl (I 26))) := rfl
theorem rG_27 : (rW ad cy I)[22]? = some (ad 27, .inl (cy 0, 8, .inl (I 27))) := rfl
theorem rG_28 : (rW ad cy I)[23]? = some (ad 28, .inl (cy 0, 8, .inl (I 28))) := rfl
theorem rG_29 : (rW ad cy I)[24]? = some (ad 29, .inl (cy 0, 8, .inl (I 29))) := rfl
theorem rE_0 (e : I1 = st I 0 k v) : (rW ad cy I).set 1 (ad 0, .inl (cy 1, 4, .inl (upd (I 0) k v))) = rW ad cy I1 := by subst e; rfl
theorem rE_1 (e : I1 = st I 1 k v) : (rW ad cy I).set 2 (ad 1, .inl (cy 1, 24, .inl (upd (I 1) k v))) = rW ad cy I1 := by subst e; rfl
theorem rE_2 (e : I1 = st I 2 k v) : (rW ad cy I).set 3 (ad 2, .inl (cy 0, 24, .inl (upd (I 2) k v))) = rW ad cy I1 := by subst e; rfl
theorem rE_3 (e : I1 = st I 3 k v) : (rW ad cy I).set 4 (ad 3, .inl (cy 0, 6, .inl (upd (I 3) k v))) = rW ad cy I1 := by subst e; rfl
theorem rE_4 (e : I1 = st I 4 k v) : (rW ad cy I).set 5 (ad 4, .inl (cy 0, 6, .inl (upd (I 4) k v))) = rW ad cy I1 := by subst e; rfl
theorem rE_5 (e : I1 = st I 5 0 v) : (rW ad cy I).set 0 (ad 40, .inr (8, (rO ad I).set 5 (.int v))) = rW ad cy I1 := by subst e; rfl
theorem rE_6 (e : I1 = st I 6 0 v) : (rW ad cy I).set 0 (ad 40, .inr (8, (rO ad I).set 6 (.int v))) = rW ad cy I1 := by subst e; rfl
theorem rE_7 (e : I1 = st I 7 0 v) : (rW ad cy I).set 0 (ad 40, .inr (8, (rO ad I).set 7 (.int v))) = rW ad cy I1 := by subst e; rfl
theorem rE_8 (e : I1 = st I 8 k v) : (rW ad cy I).set 6 (ad 8, .inl (cy 0, 400, .inl (upd (I 8) k v))) = rW ad cy I1 := by subst e; rfl
theorem rE_9 (e : I1 = st I 9 k v) : (rW ad cy I).set 7 (ad 9, .inl (cy 0, 400, .inl (upd (I 9) k v))) = rW ad cy I1 := by subst e; rfl
theorem rE_10 (e : I1 = st I 10 k v) : (rW ad cy I).set 8 (ad 10, .inl (cy 0, 400, .inl (upd (I 10) k v))) = rW ad cy I1 := by subst e; rfl
theorem rE_11 (e : I1 = st I 11 k v) : (rW ad cy I).set 9 (ad 11, .inl (cy 1, 400, .inl (upd (I 11) k v))) = rW ad cy I1 := by subst e; rfl
theorem rE_12 (e : I1 = st I 12 0 v) : (rW ad cy I).set 0 (ad 40, .inr (8, (rO ad I).set 12 (.int v))) = rW ad cy I1 := by subst e; rfl
theorem rE_13 (e : I1 = st I 13 0 v) : (rW ad cy I).set 0 (ad 40, .inr (8, (rO ad I).set 13 (.int v))) = rW ad cy I1 := by subst e; rfl
theorem rE_14 (e : I1 = st I 14 k v) : (rW ad cy I).set 10 (ad 14, .inl (cy 0, 3, .inl (upd (I 14) k v))) = rW ad cy I1 := by subst e; rfl
theorem rE_15 (e : I1 = st I 15 k v) : (rW ad cy I).set 11 (ad 15, .inl (cy 0, 120, .inl (upd (I 15) k v))) = rW ad cy I1 := by subst e; rfl
theorem rE_16 (e : I1 = st I 16 k v) : (rW ad cy I).set 12 (ad 16, .inl (cy 0, 120, .inl (upd (I 16) k v))) = rW ad cy I1 := by subst e; rfl
theorem rE_17 (e : I1 = st I 17 k v) : (rW ad cy I).set 13 (ad 17, .inl (cy 0, 120, .inl (upd (I 17) k v))) = rW ad cy I1 := by subst e; rfl
theorem rE_18 (e : I1 = st I 18 k v) : (rW ad cy I).set 14 (ad 18, .inl (cy 0, 120, .inl (upd (I 18) k v))) = rW ad cy I1 := by subst e; rfl
theorem rE_19 (e : I1 = st I 19 k v) : (rW ad cy I).set 15 (ad 19, .inl (cy 0, 6, .inl (upd (I 19) k v))) = rW ad cy I1 := by subst e; rfl
theorem rE_20 (e : I1 = st I 20 k v) : (rW ad cy I).set 16 (ad 20, .inl (cy 0, 6, .inl (upd (I 20) k v))) = rW ad cy I1 := by subst e; rfl
theorem rE_21 (e : I1 = st I 21 k v) : (rW ad cy I).set 17 (ad 21, .inl (cy 1, 400, .inl (upd (I 21) k v))) = rW ad cy I1 := by subst e; rfl
theorem rE_22 (e : I1 = st I 22 k v) : (rW ad cy I).set 18 (ad 22, .inl (cy 0, 6, .inl (upd (I 22) k v))) = rW ad cy I1 := by subst e; rfl
theorem rE_23 (e : I1 = st I 23 k v) : (rW ad cy I).set 19 (ad 23, .inl (cy 0, 6, .inl (upd (I 23) k v))) = rW ad cy I1 := by subst e; rfl
theorem rE_24 (e : I1 = st I 24 k v) : (rW ad cy I).set 20 (ad 24, .inl (cy 1, 400, .inl (upd (I 24) k v))) = rW ad cy I1 := by subst e; rfl
theorem rE_25 (e : I1 = st I 25 0 v) : (rW ad cy I).set 0 (ad 40, .inr (8, (rO ad I).set 25 (.int v))) = rW ad cy I1 := by subst e; rfl
theorem rE_26 (e : I1 = st I 26 k v) : (rW ad cy I).set 21 (ad 26, .inl (cy 0, 8, .inl (upd (I 26) k v))) = rW ad cy I1 := by subst e; rfl
theorem rE_27 (e : I1 = st I 27 k v) : (rW ad cy I).set 22 (ad 27, .inl (cy 0, 8, .inl (upd (I 27) k v))) = rW ad cy I1 := by subst e; rfl
theorem rE_28 (e : I1 = st I 28 k v) : (rW ad cy I).set 23 (ad 28, .inl (cy 0, 8, .inl (upd (I 28) k v))) = rW ad cy I1 := by subst e; rfl
theorem rE_29 (e : I1 = st I 29 k v) : (rW ad cy I).set 24 (ad 29, .inl (cy 0, 8, .inl (upd (I 29) k v))) = rW ad cy I1 := by subst e; rfl
theorem rE_30 (e : I1 = st I 30 0 v) : (rW ad cy I).set 0 (ad 40, .inr (8, (rO ad I).set 30 (.int v))) = rW ad cy I1 := by subst e; rfl
theorem rE_31 (e : I1 = st I 31 0 v) : (rW ad cy I).set 0 (ad 40, .inr (8, (rO ad I).set 31 (.int v))) = rW ad cy I1 := by subst e; rfl
theorem rE_32 (e : I1 = st I 32 0 v) : (rW ad cy I).set 0 (ad 40, .inr (8, (rO ad I).set 32 (.int v))) = rW ad cy I1 := by subst e; rfl
theorem rE_33 (e : I1 = st I 33 0 v) : (rW ad cy I).set 0 (ad 40, .inr (8, (rO ad I).set 33 (.int v))) = rW ad cy I1 := by subst e; rfl
theorem rE_34 (e : I1 = st I 34 0 v) : (rW ad cy I).set 0 (ad 40, .inr (8, (rO ad I).set 34 (.int v))) = rW ad cy I1 := by subst e; rfl
end RG
-- the class
def cO_0 (ad : Nat → Nat) (I : St) : List Value := [.ref (ad 1), .ref (ad 3), .ref (ad 9), .ref (ad 19), .int (I 0 0)]
def cO_1 (ad : Nat → Nat) (I : St) : List Value := [.ref (ad 2), .int (I 1 0), .int (I 1 1), .int (I 1 2)]
def cO_3 (ad : Nat → Nat) (I : St) : List Value := [.ref (ad 1), .ref (ad 4), .ref (ad 5), .ref (ad 6), .ref (ad 7), .ref (ad 8)]
def cO_9 (ad : Nat → Nat) (I : St) : List Value := [.ref (ad 1), .ref (ad 10), .int (I 9 0), .int (I 9 1), .int (I 9 2), .int (I 9 3)]
def cO_11 (ad : Nat → Nat) (I : St) : List Value := [.ref (ad 15), .int (I 11 0)]
def cO_12 (ad : Nat → Nat) (I : St) : List Value := [.ref (ad 16), .int (I 12 0)]
def cO_13 (ad : Nat → Nat) (I : St) : List Value := [.ref (ad 17), .int (I 13 0)]
def cO_14 (ad : Nat → Nat) (I : St) : List Value := [.ref (ad 18), .int (I 14 0)]
def cO_19 (ad : Nat → Nat) (I : St) : List Value := [.ref (ad 1), .ref (ad 20), .ref (ad 21), .ref (ad 14), .int (I 19 0), .int (I 19 1), .int (I 19 2)]
def cO_20 (ad : Nat → Nat) (I : St) : List Value := [.ref (ad 22), .ref (ad 24), .int (I 20 0)]
def cO_21 (ad : Nat → Nat) (I : St) : List Value := [.ref (ad 23), .ref (ad 25), .int (I 21 0)]
def cLn (ad : Nat → Nat) : Nat → Option Nat := fun i => some (ad (11 + i))
def rlen (j : Nat) : Nat := if j = 14 then 8 else 40
def cX (ad : Nat → Nat) (cy : Nat → ClassId) (I : St) (J : Rf) : va_W := [(ad 0, .inr (7, cO_0 ad I)), (ad 1, .inr (1, cO_1 ad I)), (ad 2, .inl (cy 2, 400, .inr (.inr (.inr (.inr (J 2)))))), (ad 3, .inr (4, cO_3 ad I)), (ad 4, .inl (cy 0, 6, .inl (I 4))), (ad 5, .inl (cy 0, 6, .inl (I 5))), (ad 6, .inl (cy 0, 6, .inl (I 6))), (ad 7, .inl (cy 0, 6, .inl (I 7))), (ad 8, .inl (cy 1, 4, .inl (I 8))), (ad 9, .inr (2, cO_9 ad I)), (ad 10, .inl (cy 3, 3, .inr (.inr (.inr (.inr (cLn ad)))))), (ad 11, .inr (3, cO_11 ad I)), (ad 12, .inr (3, cO_12 ad I)), (ad 13, .inr (3, cO_13 ad I)), (ad 14, .inr (3, cO_14 ad I)), (ad 15, .inl (cy 2, 40, .inr (.inr (.inr (.inr (J 15)))))), (ad 16, .inl (cy 2, 40, .inr (.inr (.inr (.inr (J 16)))))), (ad 17, .inl (cy 2, 40, .inr (.inr (.inr (.inr (J 17)))))), (ad 18, .inl (cy 2, 8, .inr (.inr (.inr (.inr (J 18)))))), (ad 19, .inr (5, cO_19 ad I)), (ad 20, .inr (6, cO_20 ad I)), (ad 21, .inr (6, cO_21 ad I)), (ad 22, .inl (cy 0, 6, .inl (I 22))), (ad 23, .inl (cy 0, 6, .inl (I 23))), (ad 24, .inl (cy 0, 6, .inl (I 24))), (ad 25, .inl (cy 0, 6, .inl (I 25)))]
def cF (P : St) : Nat → va_E := fun a => .inr (0, [.int (P a 0), .int (P a 1), .int (P a 2), .int (P a 3), .int (P a 4)])
def cW (ad : Nat → Nat) (cy : Nat → ClassId) (I : St) (J : Rf) (LP : List Nat) (P : St) : va_W := cX ad cy I J ++ va_pl LP (cF P)
section CG
variable {ad : Nat → Nat} {cy : Nat → ClassId} {I I1 : St} {J J1 : Rf} {LP : List Nat} {P : St} {k j : Nat} {v : Int32} {r : Option Nat}
theorem cG_0 : (cW ad cy I J LP P)[0]? = some (ad 0, .inr (7, cO_0 ad I)) := rfl
theorem cG_1 : (cW ad cy I J LP P)[1]? = some (ad 1, .inr (1, cO_1 ad I)) := rfl
theorem cG_2 : (cW ad cy I J LP P)[2]? = some (ad 2, .inl (cy 2, 400, .inr (.inr (.inr (.inr (J 2)))))) := rfl
theorem cG_3 : (cW ad cy I J LP P)[3]? = some (ad 3, .inr (4, cO_3 ad I)) := rfl
theorem cG_4 : (cW ad cy I J LP P)[4]? = some (ad 4, .inl (cy 0, 6, .inl (I 4))) := rfl
theorem cG_5 : (cW ad cy I J LP P)[5]? = some (ad 5, .inl (cy 0, 6, .inl (I 5))) := rfl
theorem cG_6 : (cW ad cy I J LP P)[6]? = some (ad 6, .inl (cy 0, 6, .inl (I 6))) := rfl
theorem cG_7 : (cW ad cy I J LP P)[7]? = some (ad 7, .inl (cy 0, 6, .inl (I 7))) := rfl
theorem cG_8 : (cW ad cy I J LP P)[8]? = some (ad 8, .inl (cy 1, 4, .inl (I 8))) := rfl
theorem cG_9 : (cW ad cy I J LP P)[9]? = some (ad 9, .inr (2, cO_9 ad I)) := rfl
theorem cG_10 : (cW ad cy I J LP P)[10]? = some (ad 10, .inl (cy 3, 3, .inr (.inr (.inr (.inr (cLn ad)))))) := rfl
theorem cG_11 : (cW ad cy I J LP P)[11]? = some (ad 11, .inr (3, cO_11 ad I)) := rfl
theorem cG_12 : (cW ad cy I J LP P)[12]? = some (ad 12, .inr (3, cO_12 ad I)) := rfl
theorem cG_13 : (cW ad cy I J LP P)[13]? = some (ad 13, .inr (3, cO_13 ad I)) := rfl
theorem cG_14 : (cW ad cy I J LP P)[14]? = some (ad 14, .inr (3, cO_14 ad I)) := rfl
theorem cG_15 : (cW ad cy I J LP P)[15]? = some (ad 15, .inl (cy 2, 40, .inr (.inr (.inr (.inr (J 15)))))) := rfl
theorem cG_16 : (cW ad cy I J LP P)[16]? = some (ad 16, .inl (cy 2, 40, .inr (.inr (.inr (.inr (J 16)))))) := rfl
theorem cG_17 : (cW ad cy I J LP P)[17]? = some (ad 17, .inl (cy 2, 40, .inr (.inr (.inr (.inr (J 17)))))) := rfl
theorem cG_18 : (cW ad cy I J LP P)[18]? = some (ad 18, .inl (cy 2, 8, .inr (.inr (.inr (.inr (J 18)))))) := rfl
theorem cG_19 : (cW ad cy I J LP P)[19]? = some (ad 19, .inr (5, cO_19 ad I)) := rfl
theorem cG_20 : (cW ad cy I J LP P)[20]? = some (ad 20, .inr (6, cO_20 ad I)) := rfl
theorem cG_21 : (cW ad cy I J LP P)[21]? = some (ad 21, .inr (6, cO_21 ad I)) := rfl
theorem cG_22 : (cW ad cy I J LP P)[22]? = some (ad 22, .inl (cy 0, 6, .inl (I 22))) := rfl
theorem cG_23 : (cW ad cy I J LP P)[23]? = some (ad 23, .inl (cy 0, 6, .inl (I 23))) := rfl
theorem cG_24 : (cW ad cy I J LP P)[24]? = some (ad 24, .inl (cy 0, 6, .inl (I 24))) := rfl
theorem cG_25 : (cW ad cy I J LP P)[25]? = some (ad 25, .inl (cy 0, 6, .inl (I 25))) := rfl
theorem cG_row (hj : 11 ≤ j ∧ j ≤ 14) : (cW ad cy I J LP P)[j]? = some (ad j, .inr (3, [.ref (ad (j + 4)), .int (I j 0)])) := by rcases (show j = 11 ∨ j = 12 ∨ j = 13 ∨ j = 14 by omega) with rfl | rfl | rfl | rfl <;> rfl
theorem cG_slots (hj : 11 ≤ j ∧ j ≤ 14) : (cW ad cy I J LP P)[j + 4]? = some (ad (j + 4), .inl (cy 2, rlen j, .inr (.inr (.inr (.inr (J (j + 4))))))) := by rcases (show j = 11 ∨ j = 12 ∨ j = 13 ∨ j = 14 by omega) with rfl | rfl | rfl | rfl <;> rfl
theorem cG_ts (hj : 20 ≤ j ∧ j ≤ 21) : (cW ad cy I J LP P)[j]? = some (ad j, .inr (6, [.ref (ad (j + 2)), .ref (ad (j + 4)), .int (I j 0)])) := by rcases (show j = 20 ∨ j = 21 by omega) with rfl | rfl <;> rfl
theorem cG_tsv (hj : 20 ≤ j ∧ j ≤ 21) : (cW ad cy I J LP P)[j + 2]? = some (ad (j + 2), .inl (cy 0, 6, .inl (I (j + 2)))) := by rcases (show j = 20 ∨ j = 21 by omega) with rfl | rfl <;> rfl
theorem cG_tsd (hj : 20 ≤ j ∧ j ≤ 21) : (cW ad cy I J LP P)[j + 4]? = some (ad (j + 4), .inl (cy 0, 6, .inl (I (j + 4)))) := by rcases (show j = 20 ∨ j = 21 by omega) with rfl | rfl <;> rfl
theorem cG_p {a : Nat} (h : a ∈ LP) : ∃ k : Nat, (cW ad cy I J LP P)[k]? = some (a, .inr (0, [.int (P a 0), .int (P a 1), .int (P a 2), .int (P a 3), .int (P a 4)])) := va_pl_get (X := cX ad cy I J) (f := cF P) h
theorem cE_0_0 (e : I1 = st I 0 0 v) : (cW ad cy I J LP P).set 0 (ad 0, .inr (7, (cO_0 ad I).set 4 (.int v))) = cW ad cy I1 J LP P := by subst e; rfl
theorem cE_1_0 (e : I1 = st I 1 0 v) : (cW ad cy I J LP P).set 1 (ad 1, .inr (1, (cO_1 ad I).set 1 (.int v))) = cW ad cy I1 J LP P := by subst e; rfl
theorem cE_1_1 (e : I1 = st I 1 1 v) : (cW ad cy I J LP P).set 1 (ad 1, .inr (1, (cO_1 ad I).set 2 (.int v))) = cW ad cy I1 J LP P := by subst e; rfl
theorem cE_1_2 (e : I1 = st I 1 2 v) : (cW ad cy I J LP P).set 1 (ad 1, .inr (1, (cO_1 ad I).set 3 (.int v))) = cW ad cy I1 J LP P := by subst e; rfl
theorem cE_9_0 (e : I1 = st I 9 0 v) : (cW ad cy I J LP P).set 9 (ad 9, .inr (2, (cO_9 ad I).set 2 (.int v))) = cW ad cy I1 J LP P := by subst e; rfl
theorem cE_9_1 (e : I1 = st I 9 1 v) : (cW ad cy I J LP P).set 9 (ad 9, .inr (2, (cO_9 ad I).set 3 (.int v))) = cW ad cy I1 J LP P := by subst e; rfl
theorem cE_9_2 (e : I1 = st I 9 2 v) : (cW ad cy I J LP P).set 9 (ad 9, .inr (2, (cO_9 ad I).set 4 (.int v))) = cW ad cy I1 J LP P := by subst e; rfl
theorem cE_9_3 (e : I1 = st I 9 3 v) : (cW ad cy I J LP P).set 9 (ad 9, .inr (2, (cO_9 ad I).set 5 (.int v))) = cW ad cy I1 J LP P := by subst e; rfl
theorem cE_19_0 (e : I1 = st I 19 0 v) : (cW ad cy I J LP P).set 19 (ad 19, .inr (5, (cO_19 ad I).set 4 (.int v))) = cW ad cy I1 J LP P := by subst e; rfl
theorem cE_19_1 (e : I1 = st I 19 1 v) : (cW ad cy I J LP P).set 19 (ad 19, .inr (5, (cO_19 ad I).set 5 (.int v))) = cW ad cy I1 J LP P := by subst e; rfl
theorem cE_19_2 (e : I1 = st I 19 2 v) : (cW ad cy I J LP P).set 19 (ad 19, .inr (5, (cO_19 ad I).set 6 (.int v))) = cW ad cy I1 J LP P := by subst e; rfl
theorem cE_4 (e : I1 = st I 4 k v) : (cW ad cy I J LP P).set 4 (ad 4, .inl (cy 0, 6, .inl (upd (I 4) k v))) = cW ad cy I1 J LP P := by subst e; rfl
theorem cE_5 (e : I1 = st I 5 k v) : (cW ad cy I J LP P).set 5 (ad 5, .inl (cy 0, 6, .inl (upd (I 5) k v))) = cW ad cy I1 J LP P := by subst e; rfl
theorem cE_6 (e : I1 = st I 6 k v) : (cW ad cy I J LP P).set 6 (ad 6, .inl (cy 0, 6, .inl (upd (I 6) k v))) = cW ad cy I1 J LP P := by subst e; rfl
theorem cE_7 (e : I1 = st I 7 k v) : (cW ad cy I J LP P).set 7 (ad 7, .inl (cy 0, 6, .inl (upd (I 7) k v))) = cW ad cy I1 J LP P := by subst e; rfl
theorem cE_8 (e : I1 = st I 8 k v) : (cW ad cy I J LP P).set 8 (ad 8, .inl (cy 1, 4, .inl (upd (I 8) k v))) = cW ad cy I1 J LP P := by subst e; rfl
theorem cE_22 (e : I1 = st I 22 k v) : (cW ad cy I J LP P).set 22 (ad 22, .inl (cy 0, 6, .inl (upd (I 22) k v))) = cW ad cy I1 J LP P := by subst e; rfl
theorem cE_23 (e : I1 = st I 23 k v) : (cW ad cy I J LP P).set 23 (ad 23, .inl (cy 0, 6, .inl (upd (I 23) k v))) = cW ad cy I1 J LP P := by subst e; rfl
theorem cE_24 (e : I1 = st I 24 k v) : (cW ad cy I J LP P).set 24 (ad 24, .inl (cy 0, 6, .inl (upd (I 24) k v))) = cW ad cy I1 J LP P := by subst e; rfl
theorem cE_25 (e : I1 = st I 25 k v) : (cW ad cy I J LP P).set 25 (ad 25, .inl (cy 0, 6, .inl (upd (I 25) k v))) = cW ad cy I1 J LP P := by subst e; rfl
theorem cE_2 (e : J1 = stJ J 2 k r) : (cW ad cy I J LP P).set 2 (ad 2, .inl (cy 2, 400, .inr (.inr (.inr (.inr (va_up (J 2) k r)))))) = cW ad cy I J1 LP P := by subst e; rfl
theorem cE_row (hj : 11 ≤ j ∧ j ≤ 14) (e : I1 = st I j 0 v) : (cW ad cy I J LP P).set j (ad j, .inr (3, ([.ref (ad (j + 4)), .int (I j 0)] : List Value).set 1 (.int v))) = cW ad cy I1 J LP P := by subst e; rcases (show j = 11 ∨ j = 12 ∨ j = 13 ∨ j = 14 by omega) with rfl | rfl | rfl | rfl <;> rfl
theorem cE_slots (hj : 11 ≤ j ∧ j ≤ 14) (e : J1 = stJ J (j + 4) k r) : (cW ad cy I J LP P).set (j + 4) (ad (j + 4), .inl (cy 2, rlen j, .inr (.inr (.inr (.inr (va_up (J (j + 4)) k r)))))) = cW ad cy I J1 LP P := by subst e; rcases (show j = 11 ∨ j = 12 ∨ j = 13 ∨ j = 14 by omega) with rfl | rfl | rfl | rfl <;> rfl
theorem cE_ts (hj : 20 ≤ j ∧ j ≤ 21) (e : I1 = st I j 0 v) : (cW ad cy I J LP P).set j (ad j, .inr (6, ([.ref (ad (j + 2)), .ref (ad (j + 4)), .int (I j 0)] : List Value).set 2 (.int v))) = cW ad cy I1 J LP P := by subst e; rcases (show j = 20 ∨ j = 21 by omega) with rfl | rfl <;> rfl
theorem cE_tsv (hj : 20 ≤ j ∧ j ≤ 21) (e : I1 = st I (j + 2) k v) : (cW ad cy I J LP P).set (j + 2) (ad (j + 2), .inl (cy 0, 6, .inl (upd (I (j + 2)) k v))) = cW ad cy I1 J LP P := by subst e; rcases (show j = 20 ∨ j = 21 by omega) with rfl | rfl <;> rfl
theorem cE_tsd (hj : 20 ≤ j ∧ j ≤ 21) (e : I1 = st I (j + 4) k v) : (cW ad cy I J LP P).set (j + 4) (ad (j + 4), .inl (cy 0, 6, .inl (upd (I (j + 4)) k v))) = cW ad cy I1 J LP P := by subst e; rcases (show j = 20 ∨ j = 21 by omega) with rfl | rfl <;> rfl
end CG
theorem lane_j {x : Int32} (h : vp_in x 3) : 11 ≤ 11 + x.toNatClampNeg ∧ 11 + x.toNatClampNeg ≤ 14 := by
  have : x.toNatClampNeg < 3 := Nat.not_le.mp fun q => h (Or.inr q)
  omega
end
section
def wp_X1_hasRoomFor (I : St) (J : Rf) (LP : List Nat) (P : St) (p1 : Int32) (post : Int32 → St → Rf → List Nat → St → Prop) : Prop := (((400 - (I 1 2)) < p1 → (post 0 I J LP P)) ∧ (¬ (400 - (I 1 2)) < p1 → (post 1 I J LP P)))
def wp_X1_at (I : St) (J : Rf) (LP : List Nat) (P : St) (p1 : Int32) (post : Option Nat → St → Rf → List Nat → St → Prop) : Prop := ((p1 < 0 → (post none I J LP P)) ∧ (¬ p1 < 0 → (((I 1 2) ≤ p1 → (post none I J LP P)) ∧ (¬ (I 1 2) ≤ p1 → (vp_in p1 400 ∧ ((J 2 p1.toNatClampNeg = none → (post none I J LP P)) ∧ (∀ a1 : Nat, J 2 p1.toNatClampNeg = some a1 → (post (some a1) I J LP P))))))))
def wp_X1_flushedAt (I : St) (J : Rf) (LP : List Nat) (P : St) (p1 : Int32) (post : Option Nat → St → Rf → List Nat → St → Prop) : Prop := ((p1 < 0 → (post none I J LP P)) ∧ (¬ p1 < 0 → (((I 1 1) ≤ p1 → (post none I J LP P)) ∧ (¬ (I 1 1) ≤ p1 → (vp_in p1 400 ∧ ((J 2 p1.toNatClampNeg = none → (post none I J LP P)) ∧ (∀ a1 : Nat, J 2 p1.toNatClampNeg = some a1 → (post (some a1) I J LP P))))))))
def wp_X1_isFlushed (I : St) (J : Rf) (LP : List Nat) (P : St) (p1 : Int32) (post : Int32 → St → Rf → List Nat → St → Prop) : Prop := (((I 1 1) ≤ p1 → (post 0 I J LP P)) ∧ (¬ (I 1 1) ≤ p1 → (post 1 I J LP P)))
def wp_X1_isCut (I : St) (J : Rf) (LP : List Nat) (P : St) (p1 : Int32) (post : Int32 → St → Rf → List Nat → St → Prop) : Prop := (((I 1 0) ≤ p1 → (post 0 I J LP P)) ∧ (¬ (I 1 0) ≤ p1 → (post 1 I J LP P)))
def wp_X1_dropUnflushed (I : St) (J : Rf) (LP : List Nat) (P : St)  (post : Int32 → St → Rf → List Nat → St → Prop) : Prop := (∀ I1 : St, I1 = st I 1 2 (I 1 1) → (post ((I 1 2) - (I 1 1)) I1 J LP P))
def wp_X1_cutUpTo (I : St) (J : Rf) (LP : List Nat) (P : St) (p1 : Int32) (post : Int32 → St → Rf → List Nat → St → Prop) : Prop := (∀ I1 : St, I1 = st I 1 0 p1 → (post (p1 - (I 1 0)) I1 J LP P))
def wp_X3_add (I : St) (J : Rf) (LP : List Nat) (P : St) (j : Nat) (a0 : Nat) (post : St → Rf → List Nat → St → Prop) : Prop := (((Int32.ofNat (rlen j)) ≤ (I j 0) → (post I J LP P)) ∧ (¬ (Int32.ofNat (rlen j)) ≤ (I j 0) → (vp_in (I j 0) (rlen j) ∧ a0 ∈ LP ∧ ∀ J1 : Rf, J1 = stJ J (j + 4) (I j 0).toNatClampNeg (some a0) → (∀ I3 : St, I3 = st I j 0 ((I j 0) + 1) → (post I3 J1 LP P)))))
def wp_X3_isFull (I : St) (J : Rf) (LP : List Nat) (P : St) (j : Nat) (post : Int32 → St → Rf → List Nat → St → Prop) : Prop := (((I j 0) < (Int32.ofNat (rlen j)) → (post 0 I J LP P)) ∧ (¬ (I j 0) < (Int32.ofNat (rlen j)) → (post 1 I J LP P)))
def wp_X2_readOne (I : St) (J : Rf) (LP : List Nat) (P : St)  (post : Int32 → St → Rf → List Nat → St → Prop) : Prop := (wp_X1_flushedAt I J LP P (I 9 0) (fun r1 I2 J3 LP4 P5 => ((r1 = none → (post 0 I2 J3 LP4 P5)) ∧ (∀ a6 : Nat, r1 = some a6 → (a6 ∈ LP4 ∧ (vp_in ((P5 a6 1) - (P5 a6 1) / 3 * 3) 3 ∧ ∀ j8 : Nat, j8 = 11 + ((P5 a6 1) - (P5 a6 1) / 3 * 3).toNatClampNeg → (wp_X3_isFull I2 J3 LP4 P5 j8 (fun r9 I10 J11 LP12 P13 => ((r9 = 0 → (wp_X3_add I10 J11 LP12 P13 j8 a6 (fun I15 J16 LP17 P18 => (∀ I19 : St, I19 = st I15 9 0 ((I15 9 0) + 1) → (∀ I20 : St, I20 = st I19 9 2 ((I19 9 2) + 1) → (post 1 I20 J16 LP17 P18)))))) ∧ (¬ r9 = 0 → (post 0 I10 J11 LP12 P13)))))))))))
def wp_X2_readOn (I : St) (J : Rf) (LP : List Nat) (P : St) (p1 : Int32) (post : Int32 → St → Rf → List Nat → St → Prop) : Prop := (∃ V1 : Nat → Int32 → St → Rf → List Nat → St → Prop, (∃ n2 : Nat, V1 n2 0 I J LP P) ∧ ∀ (n2 : Nat) (x3 : Int32) (I4 : St) (J5 : Rf) (LP6 : List Nat) (P7 : St), V1 n2 x3 I4 J5 LP6 P7 → ((p1 ≤ x3 → (post x3 I4 J5 LP6 P7)) ∧ (¬ p1 ≤ x3 → (wp_X2_readOne I4 J5 LP6 P7  (fun r8 I9 J10 LP11 P12 => ((r8 = 0 → (post x3 I9 J10 LP11 P12)) ∧ (¬ r8 = 0 → (∃ n13 : Nat, n13 < n2 ∧ V1 n13 (x3 + 1) I9 J10 LP11 P12))))))))
def wp_X7_isLane (I : St) (J : Rf) (LP : List Nat) (P : St) (p1 : Int32) (post : Int32 → St → Rf → List Nat → St → Prop) : Prop := ((p1 < 0 → (post 0 I J LP P)) ∧ (¬ p1 < 0 → ((3 ≤ p1 → (post 0 I J LP P)) ∧ (¬ 3 ≤ p1 → (post 1 I J LP P)))))
def wp_X3_at (I : St) (J : Rf) (LP : List Nat) (P : St) (j : Nat) (p1 : Int32) (post : Option Nat → St → Rf → List Nat → St → Prop) : Prop := ((p1 < 0 → (post none I J LP P)) ∧ (¬ p1 < 0 → (((I j 0) ≤ p1 → (post none I J LP P)) ∧ (¬ (I j 0) ≤ p1 → (vp_in p1 (rlen j) ∧ ((J (j + 4) p1.toNatClampNeg = none → (post none I J LP P)) ∧ (∀ a1 : Nat, J (j + 4) p1.toNatClampNeg = some a1 → (post (some a1) I J LP P))))))))
def wp_X2_letterAt (I : St) (J : Rf) (LP : List Nat) (P : St) (p1 : Int32) (p2 : Int32) (post : Option Nat → St → Rf → List Nat → St → Prop) : Prop := (wp_X7_isLane I J LP P p1 (fun r1 I2 J3 LP4 P5 => ((r1 = 0 → (post none I2 J3 LP4 P5)) ∧ (¬ r1 = 0 → (vp_in p1 3 ∧ ∀ j6 : Nat, j6 = 11 + p1.toNatClampNeg → (wp_X3_at I2 J3 LP4 P5 j6 p2 (fun r7 I8 J9 LP10 P11 => ((r7 = none → (post none I8 J9 LP10 P11)) ∧ (∀ a12 : Nat, r7 = some a12 → (post (some a12) I8 J9 LP10 P11))))))))))
def wp_X3_remove (I : St) (J : Rf) (LP : List Nat) (P : St) (j : Nat) (p1 : Int32) (post : St → Rf → List Nat → St → Prop) : Prop := ((p1 < 0 → (post I J LP P)) ∧ (¬ p1 < 0 → ((p1 < (I j 0) → (∃ V1 : Nat → Int32 → St → Rf → List Nat → St → Prop, (∃ n2 : Nat, V1 n2 (p1 + 1) I J LP P) ∧ ∀ (n2 : Nat) (x3 : Int32) (I4 : St) (J5 : Rf) (LP6 : List Nat) (P7 : St), V1 n2 x3 I4 J5 LP6 P7 → (((I4 j 0) ≤ x3 → (∀ I8 : St, I8 = st I4 j 0 ((I4 j 0) - 1) → (post I8 J5 LP6 P7))) ∧ (¬ (I4 j 0) ≤ x3 → (vp_in x3 (rlen j) ∧ ((J5 (j + 4) x3.toNatClampNeg = none → (vp_in (x3 - 1) (rlen j) ∧ ∀ J10 : Rf, J10 = stJ J5 (j + 4) (x3 - 1).toNatClampNeg none → (∃ n11 : Nat, n11 < n2 ∧ V1 n11 (x3 + 1) I4 J10 LP6 P7))) ∧ (∀ a9 : Nat, J5 (j + 4) x3.toNatClampNeg = some a9 → (vp_in (x3 - 1) (rlen j) ∧ a9 ∈ LP6 ∧ ∀ J12 : Rf, J12 = stJ J5 (j + 4) (x3 - 1).toNatClampNeg (some a9) → (∃ n14 : Nat, n14 < n2 ∧ V1 n14 (x3 + 1) I4 J12 LP6 P7))))))))) ∧ (¬ p1 < (I j 0) → (post I J LP P)))))
def wp_X2_dropLetter (I : St) (J : Rf) (LP : List Nat) (P : St) (p1 : Int32) (p2 : Int32) (post : St → Rf → List Nat → St → Prop) : Prop := (wp_X7_isLane I J LP P p1 (fun r1 I2 J3 LP4 P5 => ((r1 = 0 → (post I2 J3 LP4 P5)) ∧ (¬ r1 = 0 → (vp_in p1 3 ∧ ∀ j6 : Nat, j6 = 11 + p1.toNatClampNeg → (wp_X3_remove I2 J3 LP4 P5 j6 p2 (fun I8 J9 LP10 P11 => (post I8 J9 LP10 P11))))))))
def wp_X2_hear (I : St) (J : Rf) (LP : List Nat) (P : St) (p1 : Int32) (post : St → Rf → List Nat → St → Prop) : Prop := (∀ I1 : St, I1 = st I 9 1 (if (I 9 1) < p1 then p1 else (I 9 1)) → (∀ I2 : St, I2 = st I1 9 0 (if (I1 9 0) < (I1 9 1) then (I1 9 1) else (I1 9 0)) → (post I2 J LP P)))
def wp_X2_restart (I : St) (J : Rf) (LP : List Nat) (P : St)  (post : Int32 → St → Rf → List Nat → St → Prop) : Prop := (∀ I1 : St, I1 = st I 9 0 (I 9 1) → (post ((I 9 0) - (I 9 1)) I1 J LP P))
def wp_X2_lettersUnderWay (I : St) (J : Rf) (LP : List Nat) (P : St)  (post : Int32 → St → Rf → List Nat → St → Prop) : Prop := (∃ V1 : Nat → Int32 → Int32 → St → Rf → List Nat → St → Prop, (∃ n2 : Nat, V1 n2 0 0 I J LP P) ∧ ∀ (n2 : Nat) (x3 : Int32) (x4 : Int32) (I5 : St) (J6 : Rf) (LP7 : List Nat) (P8 : St), V1 n2 x3 x4 I5 J6 LP7 P8 → ((3 ≤ x4 → (post x3 I5 J6 LP7 P8)) ∧ (¬ 3 ≤ x4 → (vp_in x4 3 ∧ ∀ j9 : Nat, j9 = 11 + x4.toNatClampNeg → (∃ n10 : Nat, n10 < n2 ∧ V1 n10 (x3 + (I5 j9 0)) (x4 + 1) I5 J6 LP7 P8)))))
def wp_X3_find (I : St) (J : Rf) (LP : List Nat) (P : St) (j : Nat) (p1 : Int32) (p2 : Int32) (post : Int32 → St → Rf → List Nat → St → Prop) : Prop := (∃ V1 : Nat → Int32 → St → Rf → List Nat → St → Prop, (∃ n2 : Nat, V1 n2 0 I J LP P) ∧ ∀ (n2 : Nat) (x3 : Int32) (I4 : St) (J5 : Rf) (LP6 : List Nat) (P7 : St), V1 n2 x3 I4 J5 LP6 P7 → (((I4 j 0) ≤ x3 → (post (-9) I4 J5 LP6 P7)) ∧ (¬ (I4 j 0) ≤ x3 → (vp_in x3 (rlen j) ∧ ((J5 (j + 4) x3.toNatClampNeg = none → (∃ n9 : Nat, n9 < n2 ∧ V1 n9 (x3 + 1) I4 J5 LP6 P7)) ∧ (∀ a8 : Nat, J5 (j + 4) x3.toNatClampNeg = some a8 → (a8 ∈ LP6 ∧ ((¬ (P7 a8 1) = p1 → (∃ n11 : Nat, n11 < n2 ∧ V1 n11 (x3 + 1) I4 J5 LP6 P7)) ∧ ((P7 a8 1) = p1 → (a8 ∈ LP6 ∧ ((¬ (P7 a8 3) = p2 → (∃ n13 : Nat, n13 < n2 ∧ V1 n13 (x3 + 1) I4 J5 LP6 P7)) ∧ ((P7 a8 3) = p2 → (post x3 I4 J5 LP6 P7)))))))))))))
def wp_X3_clear (I : St) (J : Rf) (LP : List Nat) (P : St) (j : Nat) (post : St → Rf → List Nat → St → Prop) : Prop := (∀ I1 : St, I1 = st I j 0 0 → (post I1 J LP P))
def wp_X4_isOpen (I : St) (J : Rf) (LP : List Nat) (P : St) (p1 : Int32) (post : Int32 → St → Rf → List Nat → St → Prop) : Prop := ((p1 < 0 → (post 0 I J LP P)) ∧ (¬ p1 < 0 → ((4 ≤ p1 → (post 0 I J LP P)) ∧ (¬ 4 ≤ p1 → (vp_in p1 4 ∧ (((I 8 p1.toNatClampNeg) = 0 → (post 0 I J LP P)) ∧ (¬ (I 8 p1.toNatClampNeg) = 0 → (post 1 I J LP P))))))))
def wp_X4_openFirstFree (I : St) (J : Rf) (LP : List Nat) (P : St)  (post : Int32 → St → Rf → List Nat → St → Prop) : Prop := (∃ V1 : Nat → Int32 → St → Rf → List Nat → St → Prop, (∃ n2 : Nat, V1 n2 0 I J LP P) ∧ ∀ (n2 : Nat) (x3 : Int32) (I4 : St) (J5 : Rf) (LP6 : List Nat) (P7 : St), V1 n2 x3 I4 J5 LP6 P7 → ((4 ≤ x3 → (post (-3) I4 J5 LP6 P7)) ∧ (¬ 4 ≤ x3 → (vp_in x3 4 ∧ ((¬ (I4 8 x3.toNatClampNeg) = 0 → (∃ n8 : Nat, n8 < n2 ∧ V1 n8 (x3 + 1) I4 J5 LP6 P7)) ∧ ((I4 8 x3.toNatClampNeg) = 0 → (vp_in x3 4 ∧ ∀ I9 : St, I9 = st I4 8 x3.toNatClampNeg (vp_nar .boolean 1) → (post x3 I9 J5 LP6 P7))))))))
def wp_X4_openTransactions (I : St) (J : Rf) (LP : List Nat) (P : St)  (post : Int32 → St → Rf → List Nat → St → Prop) : Prop := (∃ V1 : Nat → Int32 → Int32 → St → Rf → List Nat → St → Prop, (∃ n2 : Nat, V1 n2 0 0 I J LP P) ∧ ∀ (n2 : Nat) (x3 : Int32) (x4 : Int32) (I5 : St) (J6 : Rf) (LP7 : List Nat) (P8 : St), V1 n2 x3 x4 I5 J6 LP7 P8 → ((4 ≤ x4 → (post x3 I5 J6 LP7 P8)) ∧ (¬ 4 ≤ x4 → (vp_in x4 4 ∧ (((I5 8 x4.toNatClampNeg) = 0 → (∃ n9 : Nat, n9 < n2 ∧ V1 n9 x3 (x4 + 1) I5 J6 LP7 P8)) ∧ (¬ (I5 8 x4.toNatClampNeg) = 0 → (∃ n10 : Nat, n10 < n2 ∧ V1 n10 (x3 + 1) (x4 + 1) I5 J6 LP7 P8)))))))
def wp_X4_draft (I : St) (J : Rf) (LP : List Nat) (P : St) (p1 : Int32) (p2 : Int32) (p3 : Int32) (post : Int32 → St → Rf → List Nat → St → Prop) : Prop := (vp_in p2 6 ∧ (((I 6 p2.toNatClampNeg) = (-1) → (vp_in p2 6 ∧ ∀ I1 : St, I1 = st I 6 p2.toNatClampNeg p1 → (vp_in p2 6 ∧ ∀ I2 : St, I2 = st I1 7 p2.toNatClampNeg p3 → (post 1 I2 J LP P)))) ∧ (¬ (I 6 p2.toNatClampNeg) = (-1) → (vp_in p2 6 ∧ (((I 6 p2.toNatClampNeg) = p1 → (vp_in p2 6 ∧ ∀ I3 : St, I3 = st I 6 p2.toNatClampNeg p1 → (vp_in p2 6 ∧ ∀ I4 : St, I4 = st I3 7 p2.toNatClampNeg p3 → (post 1 I4 J LP P)))) ∧ (¬ (I 6 p2.toNatClampNeg) = p1 → (post 0 I J LP P)))))))
def wp_X4_seenBy (I : St) (J : Rf) (LP : List Nat) (P : St) (p1 : Int32) (p2 : Int32) (post : Int32 → St → Rf → List Nat → St → Prop) : Prop := (vp_in p2 6 ∧ ((¬ (I 6 p2.toNatClampNeg) = p1 → (vp_in p2 6 ∧ (post (I 4 p2.toNatClampNeg) I J LP P))) ∧ ((I 6 p2.toNatClampNeg) = p1 → (vp_in p2 6 ∧ (post (I 7 p2.toNatClampNeg) I J LP P)))))
def wp_X4_lockedKeys (I : St) (J : Rf) (LP : List Nat) (P : St) (p1 : Int32) (post : Int32 → St → Rf → List Nat → St → Prop) : Prop := (∃ V1 : Nat → Int32 → Int32 → St → Rf → List Nat → St → Prop, (∃ n2 : Nat, V1 n2 0 0 I J LP P) ∧ ∀ (n2 : Nat) (x3 : Int32) (x4 : Int32) (I5 : St) (J6 : Rf) (LP7 : List Nat) (P8 : St), V1 n2 x3 x4 I5 J6 LP7 P8 → ((6 ≤ x4 → (post x3 I5 J6 LP7 P8)) ∧ (¬ 6 ≤ x4 → (vp_in x4 6 ∧ ((¬ (I5 6 x4.toNatClampNeg) = p1 → (∃ n9 : Nat, n9 < n2 ∧ V1 n9 x3 (x4 + 1) I5 J6 LP7 P8)) ∧ ((I5 6 x4.toNatClampNeg) = p1 → (∃ n10 : Nat, n10 < n2 ∧ V1 n10 (x3 + 1) (x4 + 1) I5 J6 LP7 P8)))))))
def wp_X4_lockOf (I : St) (J : Rf) (LP : List Nat) (P : St) (p1 : Int32) (post : Int32 → St → Rf → List Nat → St → Prop) : Prop := (vp_in p1 6 ∧ ((¬ (I 6 p1.toNatClampNeg) = (-1) → (vp_in p1 6 ∧ ((¬ (I 6 p1.toNatClampNeg) = 4 → (post 1 I J LP P)) ∧ ((I 6 p1.toNatClampNeg) = 4 → (post 2 I J LP P))))) ∧ ((I 6 p1.toNatClampNeg) = (-1) → (post 0 I J LP P))))
def wp_X4_finish (I : St) (J : Rf) (LP : List Nat) (P : St) (p1 : Int32) (p2 : Int32) (post : St → Rf → List Nat → St → Prop) : Prop := (∃ V1 : Nat → Int32 → St → Rf → List Nat → St → Prop, (∃ n2 : Nat, V1 n2 0 I J LP P) ∧ ∀ (n2 : Nat) (x3 : Int32) (I4 : St) (J5 : Rf) (LP6 : List Nat) (P7 : St), V1 n2 x3 I4 J5 LP6 P7 → ((6 ≤ x3 → (vp_in p1 4 ∧ ∀ I8 : St, I8 = st I4 8 p1.toNatClampNeg (vp_nar .boolean 0) → (post I8 J5 LP6 P7))) ∧ (¬ 6 ≤ x3 → (vp_in x3 6 ∧ ((¬ (I4 6 x3.toNatClampNeg) = p1 → (∃ n9 : Nat, n9 < n2 ∧ V1 n9 (x3 + 1) I4 J5 LP6 P7)) ∧ ((I4 6 x3.toNatClampNeg) = p1 → (vp_in x3 6 ∧ ∀ I10 : St, I10 = st I4 6 x3.toNatClampNeg p2 → (∃ n11 : Nat, n11 < n2 ∧ V1 n11 (x3 + 1) I10 J5 LP6 P7))))))))
def chg (a b c d e : Int32) : Nat → Int32 := fun k => match k with
  | 0 => a
  | 1 => b
  | 2 => c
  | 3 => d
  | _ => e
def wp_X1_append (I : St) (J : Rf) (LP : List Nat) (P : St) (p1 p2 p3 p4 : Int32) (post : St → Rf → List Nat → St → Prop) : Prop := ((400 ≤ (I 1 2) → post I J LP P) ∧ (¬ 400 ≤ (I 1 2) → (narrow .boolean (.int p4) = .int p4 ∧ fits .boolean (.int p4) = true) ∧ vp_in (I 1 2) 400 ∧ ∀ q : Nat, q ∉ LP → ∀ P1 : St, P1 = va_up P q (chg (I 1 2) p1 p2 p3 p4) → ∀ J1 : Rf, J1 = stJ J 2 (I 1 2).toNatClampNeg (some q) → ∀ I1 : St, I1 = st I 1 2 ((I 1 2) + 1) → post I1 J1 (LP ++ [q]) P1))
def wp_X4_putIntoLog (I : St) (J : Rf) (LP : List Nat) (P : St) (p1 : Int32) (p2 : Int32) (post : St → Rf → List Nat → St → Prop) : Prop := (∃ V1 : Nat → Int32 → Int32 → St → Rf → List Nat → St → Prop, (∃ n2 : Nat, V1 n2 0 0 I J LP P ∧ n2 ≤ 6) ∧ ∀ (n2 : Nat) (x3 : Int32) (x4 : Int32) (I5 : St) (J6 : Rf) (LP7 : List Nat) (P8 : St), V1 n2 x3 x4 I5 J6 LP7 P8 → ((6 ≤ x4 → (wp_X4_finish I5 J6 LP7 P8 p1 4 (fun I10 J11 LP12 P13 => (post I10 J11 LP12 P13)))) ∧ (¬ 6 ≤ x4 → (vp_in x4 6 ∧ ((¬ (I5 6 x4.toNatClampNeg) = p1 → (∃ n14 : Nat, n14 < n2 ∧ V1 n14 x3 (x4 + 1) I5 J6 LP7 P8)) ∧ ((I5 6 x4.toNatClampNeg) = p1 → (vp_in x4 6 ∧ (vp_in x4 6 ∧ ((¬ (x3 + 1) = p2 → (wp_X1_append I5 J6 LP7 P8 x4 (I5 7 x4.toNatClampNeg) ((I5 5 x4.toNatClampNeg) + 1) 0 (fun I16 J17 LP18 P19 => (∃ n20 : Nat, n20 < n2 ∧ V1 n20 (x3 + 1) (x4 + 1) I16 J17 LP18 P19)))) ∧ ((x3 + 1) = p2 → (wp_X1_append I5 J6 LP7 P8 x4 (I5 7 x4.toNatClampNeg) ((I5 5 x4.toNatClampNeg) + 1) 1 (fun I22 J23 LP24 P25 => (∃ n26 : Nat, n26 < n2 ∧ V1 n26 (x3 + 1) (x4 + 1) I22 J23 LP24 P25)))))))))))))
def wp_X4_giveUp (I : St) (J : Rf) (LP : List Nat) (P : St) (p1 : Int32) (post : St → Rf → List Nat → St → Prop) : Prop := (wp_X4_finish I J LP P p1 (-1) (fun I2 J3 LP4 P5 => (post I2 J3 LP4 P5)))
def wp_X4_flushChanges (I : St) (J : Rf) (LP : List Nat) (P : St)  (post : Int32 → St → Rf → List Nat → St → Prop) : Prop := (∃ V1 : Nat → Int32 → St → Rf → List Nat → St → Prop, (∃ n2 : Nat, V1 n2 (I 1 1) I J LP P) ∧ ∀ (n2 : Nat) (x3 : Int32) (I4 : St) (J5 : Rf) (LP6 : List Nat) (P7 : St), V1 n2 x3 I4 J5 LP6 P7 → ((400 ≤ x3 → (∀ I8 : St, I8 = st I4 1 1 (I4 1 2) → (post ((I8 1 1) - (I 1 1)) I8 J5 LP6 P7))) ∧ (¬ 400 ≤ x3 → (wp_X1_at I4 J5 LP6 P7 x3 (fun r9 I10 J11 LP12 P13 => ((r9 = none → (∀ I15 : St, I15 = st I10 1 1 (I10 1 2) → (post ((I15 1 1) - (I 1 1)) I15 J11 LP12 P13))) ∧ (∀ a14 : Nat, r9 = some a14 → (a14 ∈ LP12 ∧ (a14 ∈ LP12 ∧ (vp_in (P13 a14 1) 6 ∧ ∀ I18 : St, I18 = st I10 4 (P13 a14 1).toNatClampNeg (P13 a14 2) → (a14 ∈ LP12 ∧ (a14 ∈ LP12 ∧ (vp_in (P13 a14 1) 6 ∧ ∀ I21 : St, I21 = st I18 5 (P13 a14 1).toNatClampNeg (P13 a14 3) → (a14 ∈ LP12 ∧ (vp_in (P13 a14 1) 6 ∧ ∀ I23 : St, I23 = st I21 6 (P13 a14 1).toNatClampNeg (-1) → (∃ n24 : Nat, n24 < n2 ∧ V1 n24 (x3 + 1) I23 J11 LP12 P13))))))))))))))))
def wp_J7_fill_53178 (I : St) (J : Rf) (LP : List Nat) (P : St) (p2 : Int32) (post : St → Rf → List Nat → St → Prop) : Prop := (∃ V1 : Nat → Int32 → St → Rf → List Nat → St → Prop, (∃ n2 : Nat, V1 n2 0 I J LP P) ∧ ∀ (n2 : Nat) (x3 : Int32) (I4 : St) (J5 : Rf) (LP6 : List Nat) (P7 : St), V1 n2 x3 I4 J5 LP6 P7 → ((6 ≤ x3 → (post I4 J5 LP6 P7)) ∧ (¬ 6 ≤ x3 → (vp_in x3 6 ∧ ∀ I8 : St, I8 = st I4 6 x3.toNatClampNeg p2 → (∃ n9 : Nat, n9 < n2 ∧ V1 n9 (x3 + 1) I8 J5 LP6 P7)))))
def wp_X4_restart (I : St) (J : Rf) (LP : List Nat) (P : St)  (post : Int32 → St → Rf → List Nat → St → Prop) : Prop := (∃ V1 : Nat → Int32 → St → Rf → List Nat → St → Prop, (∃ n2 : Nat, V1 n2 0 I J LP P) ∧ ∀ (n2 : Nat) (x3 : Int32) (I4 : St) (J5 : Rf) (LP6 : List Nat) (P7 : St), V1 n2 x3 I4 J5 LP6 P7 → ((4 ≤ x3 → (wp_J7_fill_53178 I4 J5 LP6 P7 (-1) (fun I9 J10 LP11 P12 => (wp_X1_dropUnflushed I9 J10 LP11 P12  (fun r13 I14 J15 LP16 P17 => (post r13 I14 J15 LP16 P17)))))) ∧ (¬ 4 ≤ x3 → (vp_in x3 4 ∧ ∀ I18 : St, I18 = st I4 8 x3.toNatClampNeg (vp_nar .boolean 0) → (∃ n19 : Nat, n19 < n2 ∧ V1 n19 (x3 + 1) I18 J5 LP6 P7)))))
def wp_X6_has (I : St) (J : Rf) (LP : List Nat) (P : St) (j : Nat) (r0 : Option Nat) (post : Int32 → St → Rf → List Nat → St → Prop) : Prop := ((r0 = none → (post 0 I J LP P)) ∧ (∀ a0 : Nat, r0 = some a0 → (a0 ∈ LP ∧ (a0 ∈ LP ∧ (vp_in (P a0 1) 6 ∧ (((I (j + 4) (P a0 1).toNatClampNeg) < (P a0 3) → (post 0 I J LP P)) ∧ (¬ (I (j + 4) (P a0 1).toNatClampNeg) < (P a0 3) → (post 1 I J LP P))))))))
def wp_X6_apply (I : St) (J : Rf) (LP : List Nat) (P : St) (j : Nat) (a0 : Nat) (post : St → Rf → List Nat → St → Prop) : Prop := (a0 ∈ LP ∧ (a0 ∈ LP ∧ (vp_in (P a0 1) 6 ∧ ∀ I3 : St, I3 = st I (j + 2) (P a0 1).toNatClampNeg (P a0 2) → (a0 ∈ LP ∧ (a0 ∈ LP ∧ (vp_in (P a0 1) 6 ∧ ∀ I6 : St, I6 = st I3 (j + 4) (P a0 1).toNatClampNeg (P a0 3) → (∃ V7 : Nat → Int32 → St → Rf → List Nat → St → Prop, (∃ n8 : Nat, V7 n8 0 I6 J LP P) ∧ ∀ (n8 : Nat) (x9 : Int32) (I10 : St) (J11 : Rf) (LP12 : List Nat) (P13 : St), V7 n8 x9 I10 J11 LP12 P13 → ((400 ≤ x9 → (post I10 J11 LP12 P13)) ∧ (¬ 400 ≤ x9 → (wp_X1_flushedAt I10 J11 LP12 P13 (I10 j 0) (fun r14 I15 J16 LP17 P18 => ((r14 = none → (wp_X6_has I15 J16 LP17 P18 j none (fun r20 I21 J22 LP23 P24 => ((r20 = 0 → (post I21 J22 LP23 P24)) ∧ (¬ r20 = 0 → (∀ I25 : St, I25 = st I21 j 0 ((I21 j 0) + 1) → (∃ n26 : Nat, n26 < n8 ∧ V7 n26 (x9 + 1) I25 J22 LP23 P24))))))) ∧ (∀ a19 : Nat, r14 = some a19 → (wp_X6_has I15 J16 LP17 P18 j (some a19) (fun r27 I28 J29 LP30 P31 => ((r27 = 0 → (post I28 J29 LP30 P31)) ∧ (¬ r27 = 0 → (∀ I32 : St, I32 = st I28 j 0 ((I28 j 0) + 1) → (∃ n33 : Nat, n33 < n8 ∧ V7 n33 (x9 + 1) I32 J29 LP30 P31)))))))))))))))))))
def wp_X5_doNow (I : St) (J : Rf) (LP : List Nat) (P : St) (a0 : Nat) (post : St → Rf → List Nat → St → Prop) : Prop := (wp_X6_apply I J LP P 20 a0 (fun I2 J3 LP4 P5 => (∀ I6 : St, I6 = st I2 19 0 ((I2 19 0) + 1) → (post I6 J3 LP4 P5))))
def wp_X5_doHeldThatFollow (I : St) (J : Rf) (LP : List Nat) (P : St) (p1 : Int32) (post : St → Rf → List Nat → St → Prop) : Prop := (∃ V1 : Nat → Int32 → St → Rf → List Nat → St → Prop, (∃ n2 : Nat, V1 n2 0 I J LP P) ∧ ∀ (n2 : Nat) (x3 : Int32) (I4 : St) (J5 : Rf) (LP6 : List Nat) (P7 : St), V1 n2 x3 I4 J5 LP6 P7 → ((8 ≤ x3 → (post I4 J5 LP6 P7)) ∧ (¬ 8 ≤ x3 → (vp_in p1 6 ∧ (wp_X3_find I4 J5 LP6 P7 14 p1 ((I4 24 p1.toNatClampNeg) + 1) (fun r8 I9 J10 LP11 P12 => (wp_X3_at I9 J10 LP11 P12 14 r8 (fun r13 I14 J15 LP16 P17 => ((r13 = none → (post I14 J15 LP16 P17)) ∧ (∀ a18 : Nat, r13 = some a18 → (wp_X3_remove I14 J15 LP16 P17 14 r8 (fun I20 J21 LP22 P23 => (wp_X5_doNow I20 J21 LP22 P23 a18 (fun I25 J26 LP27 P28 => (∃ n29 : Nat, n29 < n2 ∧ V1 n29 (x3 + 1) I25 J26 LP27 P28)))))))))))))))
def wp_X5_take (I : St) (J : Rf) (LP : List Nat) (P : St) (a0 : Nat) (post : Int32 → St → Rf → List Nat → St → Prop) : Prop := (wp_X6_has I J LP P 20 (some a0) (fun r1 I2 J3 LP4 P5 => ((¬ r1 = 0 → (∀ I6 : St, I6 = st I2 19 1 ((I2 19 1) + 1) → (post 2 I6 J3 LP4 P5))) ∧ (r1 = 0 → (a0 ∈ LP4 ∧ (a0 ∈ LP4 ∧ (wp_X3_find I2 J3 LP4 P5 14 (P5 a0 1) (P5 a0 3) (fun r9 I10 J11 LP12 P13 => ((r9 = (-9) → (a0 ∈ LP12 ∧ (a0 ∈ LP12 ∧ (vp_in (P13 a0 1) 6 ∧ ((¬ (P13 a0 3) = ((I10 24 (P13 a0 1).toNatClampNeg) + 1) → (wp_X3_isFull I10 J11 LP12 P13 14 (fun r16 I17 J18 LP19 P20 => ((r16 = 0 → (wp_X3_add I17 J18 LP19 P20 14 a0 (fun I22 J23 LP24 P25 => (post 3 I22 J23 LP24 P25)))) ∧ (¬ r16 = 0 → (∀ I26 : St, I26 = st I17 19 2 ((I17 19 2) + 1) → (post 4 I26 J18 LP19 P20))))))) ∧ ((P13 a0 3) = ((I10 24 (P13 a0 1).toNatClampNeg) + 1) → (wp_X5_doNow I10 J11 LP12 P13 a0 (fun I28 J29 LP30 P31 => (a0 ∈ LP30 ∧ (wp_X5_doHeldThatFollow I28 J29 LP30 P31 (P31 a0 1) (fun I34 J35 LP36 P37 => (post 1 I34 J35 LP36 P37)))))))))))) ∧ (¬ r9 = (-9) → (∀ I38 : St, I38 = st I10 19 1 ((I10 19 1) + 1) → (post 2 I38 J11 LP12 P13))))))))))))
def wp_X6_become (I : St) (J : Rf) (LP : List Nat) (P : St) (j : Nat) (j2 : Nat) (post : Int32 → St → Rf → List Nat → St → Prop) : Prop := (∃ V1 : Nat → Int32 → Int32 → St → Rf → List Nat → St → Prop, (∃ n2 : Nat, V1 n2 0 0 I J LP P) ∧ ∀ (n2 : Nat) (x3 : Int32) (x4 : Int32) (I5 : St) (J6 : Rf) (LP7 : List Nat) (P8 : St), V1 n2 x3 x4 I5 J6 LP7 P8 → ((6 ≤ x4 → (∀ I9 : St, I9 = st I5 j 0 (I5 j2 0) → (post x3 I9 J6 LP7 P8))) ∧ (¬ 6 ≤ x4 → (vp_in x4 6 ∧ (vp_in x4 6 ∧ (vp_in x4 6 ∧ (vp_in x4 6 ∧ ∀ I10 : St, I10 = st I5 (j + 2) x4.toNatClampNeg (I5 (j2 + 2) x4.toNatClampNeg) → (vp_in x4 6 ∧ (vp_in x4 6 ∧ ∀ I11 : St, I11 = st I10 (j + 4) x4.toNatClampNeg (I10 (j2 + 4) x4.toNatClampNeg) → (∃ n12 : Nat, n12 < n2 ∧ V1 n12 (x3 + ((I5 (j2 + 4) x4.toNatClampNeg) - (I5 (j + 4) x4.toNatClampNeg))) (x4 + 1) I11 J6 LP7 P8))))))))))
def wp_X5_saveMemory (I : St) (J : Rf) (LP : List Nat) (P : St)  (post : Int32 → St → Rf → List Nat → St → Prop) : Prop := (wp_X6_become I J LP P 21 20 (fun r1 I2 J3 LP4 P5 => (post r1 I2 J3 LP4 P5)))
def wp_X5_restart (I : St) (J : Rf) (LP : List Nat) (P : St)  (post : Int32 → St → Rf → List Nat → St → Prop) : Prop := (wp_X3_clear I J LP P 14 (fun I2 J3 LP4 P5 => (wp_X6_become I2 J3 LP4 P5 20 21 (fun r6 I7 J8 LP9 P10 => (post (-r6) I7 J8 LP9 P10)))))
def wp_X5_diskIsWhole (I : St) (J : Rf) (LP : List Nat) (P : St)  (post : Int32 → St → Rf → List Nat → St → Prop) : Prop := (∃ V1 : Nat → Int32 → Int32 → Int32 → St → Rf → List Nat → St → Prop, (∃ n2 : Nat, V1 n2 0 0 0 I J LP P) ∧ ∀ (n2 : Nat) (x3 : Int32) (x4 : Int32) (x5 : Int32) (I6 : St) (J7 : Rf) (LP8 : List Nat) (P9 : St), V1 n2 x3 x4 x5 I6 J7 LP8 P9 → ((400 ≤ x5 → (post 1 I6 J7 LP8 P9)) ∧ (¬ 400 ≤ x5 → (wp_X1_flushedAt I6 J7 LP8 P9 x5 (fun r10 I11 J12 LP13 P14 => ((r10 = none → (post 1 I11 J12 LP13 P14)) ∧ (∀ a15 : Nat, r10 = some a15 → (wp_X6_has I11 J12 LP13 P14 21 (some a15) (fun r16 I17 J18 LP19 P20 => ((r16 = 0 → ((x3 = 0 → (a15 ∈ LP19 ∧ (((P20 a15 4) = 0 → (∃ n22 : Nat, n22 < n2 ∧ V1 n22 x3 1 (x5 + 1) I17 J18 LP19 P20)) ∧ (¬ (P20 a15 4) = 0 → (∃ n23 : Nat, n23 < n2 ∧ V1 n23 0 0 (x5 + 1) I17 J18 LP19 P20))))) ∧ (¬ x3 = 0 → (post 0 I17 J18 LP19 P20)))) ∧ (¬ r16 = 0 → ((x4 = 0 → (a15 ∈ LP19 ∧ (((P20 a15 4) = 0 → (∃ n25 : Nat, n25 < n2 ∧ V1 n25 1 x4 (x5 + 1) I17 J18 LP19 P20)) ∧ (¬ (P20 a15 4) = 0 → (∃ n26 : Nat, n26 < n2 ∧ V1 n26 0 0 (x5 + 1) I17 J18 LP19 P20))))) ∧ (¬ x4 = 0 → (post 0 I17 J18 LP19 P20))))))))))))))
def wp_X6_isAsFlushed (I : St) (J : Rf) (LP : List Nat) (P : St) (j : Nat) (post : Int32 → St → Rf → List Nat → St → Prop) : Prop := (∃ V1 : Nat → Int32 → St → Rf → List Nat → St → Prop, (∃ n2 : Nat, V1 n2 0 I J LP P) ∧ ∀ (n2 : Nat) (x3 : Int32) (I4 : St) (J5 : Rf) (LP6 : List Nat) (P7 : St), V1 n2 x3 I4 J5 LP6 P7 → ((400 ≤ x3 → (post 1 I4 J5 LP6 P7)) ∧ (¬ 400 ≤ x3 → (wp_X1_flushedAt I4 J5 LP6 P7 x3 (fun r8 I9 J10 LP11 P12 => ((r8 = none → (post 1 I9 J10 LP11 P12)) ∧ (∀ a13 : Nat, r8 = some a13 → (a13 ∈ LP11 ∧ (a13 ∈ LP11 ∧ (vp_in (P12 a13 1) 6 ∧ ((¬ (P12 a13 3) = (I9 (j + 4) (P12 a13 1).toNatClampNeg) → (∃ n16 : Nat, n16 < n2 ∧ V1 n16 (x3 + 1) I9 J10 LP11 P12)) ∧ ((P12 a13 3) = (I9 (j + 4) (P12 a13 1).toNatClampNeg) → (a13 ∈ LP11 ∧ (a13 ∈ LP11 ∧ (vp_in (P12 a13 1) 6 ∧ (((P12 a13 2) = (I9 (j + 2) (P12 a13 1).toNatClampNeg) → (∃ n19 : Nat, n19 < n2 ∧ V1 n19 (x3 + 1) I9 J10 LP11 P12)) ∧ (¬ (P12 a13 2) = (I9 (j + 2) (P12 a13 1).toNatClampNeg) → (post 0 I9 J10 LP11 P12))))))))))))))))))
def wp_X7_begin (I : St) (J : Rf) (LP : List Nat) (P : St)  (post : Int32 → St → Rf → List Nat → St → Prop) : Prop := (wp_X4_openFirstFree I J LP P  (fun r1 I2 J3 LP4 P5 => (post r1 I2 J3 LP4 P5)))
def wp_X7_isKey (I : St) (J : Rf) (LP : List Nat) (P : St) (p1 : Int32) (post : Int32 → St → Rf → List Nat → St → Prop) : Prop := ((p1 < 0 → (post 0 I J LP P)) ∧ (¬ p1 < 0 → ((6 ≤ p1 → (post 0 I J LP P)) ∧ (¬ 6 ≤ p1 → (post 1 I J LP P)))))
def wp_X7_write (I : St) (J : Rf) (LP : List Nat) (P : St) (p1 : Int32) (p2 : Int32) (p3 : Int32) (post : Int32 → St → Rf → List Nat → St → Prop) : Prop := (wp_X4_isOpen I J LP P p1 (fun r1 I2 J3 LP4 P5 => ((r1 = 0 → (post (-1) I2 J3 LP4 P5)) ∧ (¬ r1 = 0 → (wp_X7_isKey I2 J3 LP4 P5 p2 (fun r6 I7 J8 LP9 P10 => ((¬ r6 = 0 → (wp_X4_draft I7 J8 LP9 P10 p1 p2 p3 (fun r11 I12 J13 LP14 P15 => ((r11 = 0 → (post (-2) I12 J13 LP14 P15)) ∧ (¬ r11 = 0 → (post 1 I12 J13 LP14 P15)))))) ∧ (r6 = 0 → (post (-1) I7 J8 LP9 P10)))))))))
def wp_X7_read (I : St) (J : Rf) (LP : List Nat) (P : St) (p1 : Int32) (p2 : Int32) (post : Int32 → St → Rf → List Nat → St → Prop) : Prop := (wp_X4_isOpen I J LP P p1 (fun r1 I2 J3 LP4 P5 => ((r1 = 0 → (post 0 I2 J3 LP4 P5)) ∧ (¬ r1 = 0 → (wp_X7_isKey I2 J3 LP4 P5 p2 (fun r6 I7 J8 LP9 P10 => ((¬ r6 = 0 → (wp_X4_seenBy I7 J8 LP9 P10 p1 p2 (fun r11 I12 J13 LP14 P15 => (post r11 I12 J13 LP14 P15)))) ∧ (r6 = 0 → (post 0 I7 J8 LP9 P10)))))))))
def wp_X7_commit (I : St) (J : Rf) (LP : List Nat) (P : St) (p1 : Int32) (post : Int32 → St → Rf → List Nat → St → Prop) : Prop := (wp_X4_isOpen I J LP P p1 (fun r1 I2 J3 LP4 P5 => ((¬ r1 = 0 → (wp_X4_lockedKeys I2 J3 LP4 P5 p1 (fun r6 I7 J8 LP9 P10 => (wp_X1_hasRoomFor I7 J8 LP9 P10 r6 (fun r11 I12 J13 LP14 P15 => ((¬ r11 = 0 → (wp_X4_putIntoLog I12 J13 LP14 P15 p1 r6 (fun I17 J18 LP19 P20 => (post r6 I17 J18 LP19 P20)))) ∧ (r11 = 0 → (post (-3) I12 J13 LP14 P15)))))))) ∧ (r1 = 0 → (post (-1) I2 J3 LP4 P5)))))
def wp_X7_abort (I : St) (J : Rf) (LP : List Nat) (P : St) (p1 : Int32) (post : Int32 → St → Rf → List Nat → St → Prop) : Prop := (wp_X4_isOpen I J LP P p1 (fun r1 I2 J3 LP4 P5 => ((¬ r1 = 0 → (wp_X4_lockedKeys I2 J3 LP4 P5 p1 (fun r6 I7 J8 LP9 P10 => (wp_X4_giveUp I7 J8 LP9 P10 p1 (fun I12 J13 LP14 P15 => (post r6 I12 J13 LP14 P15)))))) ∧ (r1 = 0 → (post (-1) I2 J3 LP4 P5)))))
def wp_X7_flush (I : St) (J : Rf) (LP : List Nat) (P : St)  (post : Int32 → St → Rf → List Nat → St → Prop) : Prop := (wp_X4_flushChanges I J LP P  (fun r1 I2 J3 LP4 P5 => (post r1 I2 J3 LP4 P5)))
def wp_X7_crash (I : St) (J : Rf) (LP : List Nat) (P : St) (p1 : Int32) (post : Int32 → St → Rf → List Nat → St → Prop) : Prop := ((p1 < 0 → (post (-1) I J LP P)) ∧ (¬ p1 < 0 → ((p1 ≤ 2 → (∀ I1 : St, I1 = st I 0 0 ((I 0 0) + 1) → ((p1 = 0 → (wp_X4_restart I1 J LP P  (fun r2 I3 J4 LP5 P6 => (post r2 I3 J4 LP5 P6)))) ∧ ((p1 = 1 → (wp_X2_restart I1 J LP P  (fun r7 I8 J9 LP10 P11 => (post r7 I8 J9 LP10 P11)))) ∧ ((¬ p1 = 0 ∧ ¬ p1 = 1) → (wp_X5_restart I1 J LP P  (fun r12 I13 J14 LP15 P16 => (post r12 I13 J14 LP15 P16)))))))) ∧ (¬ p1 ≤ 2 → (post (-1) I J LP P)))))
def wp_X7_key (I : St) (J : Rf) (LP : List Nat) (P : St) (p1 : Int32) (p2 : Int32) (post : Int32 → St → Rf → List Nat → St → Prop) : Prop := (wp_X7_isKey I J LP P p1 (fun r1 I2 J3 LP4 P5 => ((¬ r1 = 0 → ((p2 = 0 → (vp_in p1 6 ∧ (post (I2 4 p1.toNatClampNeg) I2 J3 LP4 P5))) ∧ ((p2 = 1 → (vp_in p1 6 ∧ (post (I2 5 p1.toNatClampNeg) I2 J3 LP4 P5))) ∧ ((p2 = 2 → (wp_X4_lockOf I2 J3 LP4 P5 p1 (fun r6 I7 J8 LP9 P10 => (post r6 I7 J8 LP9 P10)))) ∧ ((p2 = 3 → (vp_in p1 6 ∧ (post (I2 22 p1.toNatClampNeg) I2 J3 LP4 P5))) ∧ ((p2 = 4 → (vp_in p1 6 ∧ (post (I2 24 p1.toNatClampNeg) I2 J3 LP4 P5))) ∧ ((p2 = 5 → (vp_in p1 6 ∧ (post (I2 23 p1.toNatClampNeg) I2 J3 LP4 P5))) ∧ ((p2 = 6 → (vp_in p1 6 ∧ (post (I2 25 p1.toNatClampNeg) I2 J3 LP4 P5))) ∧ ((¬ p2 = 0 ∧ ¬ p2 = 1 ∧ ¬ p2 = 2 ∧ ¬ p2 = 3 ∧ ¬ p2 = 4 ∧ ¬ p2 = 5 ∧ ¬ p2 = 6) → (post 0 I2 J3 LP4 P5)))))))))) ∧ (r1 = 0 → (post 0 I2 J3 LP4 P5)))))
def wp_X7_log (I : St) (J : Rf) (LP : List Nat) (P : St) (p1 : Int32) (p2 : Int32) (post : Int32 → St → Rf → List Nat → St → Prop) : Prop := ((p2 < 0 → (post (-1) I J LP P)) ∧ (¬ p2 < 0 → ((p2 ≤ 4 → (wp_X1_at I J LP P p1 (fun r1 I2 J3 LP4 P5 => ((r1 = none → (post (-9) I2 J3 LP4 P5)) ∧ (∀ a6 : Nat, r1 = some a6 → (wp_X1_isCut I2 J3 LP4 P5 p1 (fun r7 I8 J9 LP10 P11 => ((r7 = 0 → ((p2 = 0 → (a6 ∈ LP10 ∧ (post (P11 a6 1) I8 J9 LP10 P11))) ∧ ((p2 = 1 → (a6 ∈ LP10 ∧ (post (P11 a6 2) I8 J9 LP10 P11))) ∧ ((p2 = 2 → (a6 ∈ LP10 ∧ (post (P11 a6 3) I8 J9 LP10 P11))) ∧ ((p2 = 3 → (wp_X1_isFlushed I8 J9 LP10 P11 p1 (fun r15 I16 J17 LP18 P19 => ((r15 = 0 → (post 0 I16 J17 LP18 P19)) ∧ (¬ r15 = 0 → (post 1 I16 J17 LP18 P19)))))) ∧ ((¬ p2 = 0 ∧ ¬ p2 = 1 ∧ ¬ p2 = 2 ∧ ¬ p2 = 3) → (a6 ∈ LP10 ∧ (((P11 a6 4) = 0 → (post 0 I8 J9 LP10 P11)) ∧ (¬ (P11 a6 4) = 0 → (post 1 I8 J9 LP10 P11)))))))))) ∧ (¬ r7 = 0 → (post (-9) I8 J9 LP10 P11)))))))))) ∧ (¬ p2 ≤ 4 → (post (-1) I J LP P)))))
def wp_X7_relay (I : St) (J : Rf) (LP : List Nat) (P : St) (p1 : Int32) (post : Int32 → St → Rf → List Nat → St → Prop) : Prop := ((p1 < 1 → (post (-1) I J LP P)) ∧ (¬ p1 < 1 → ((p1 ≤ 20 → (wp_X2_readOn I J LP P p1 (fun r1 I2 J3 LP4 P5 => (post r1 I2 J3 LP4 P5)))) ∧ (¬ p1 ≤ 20 → (post (-1) I J LP P)))))
def wp_X7_cut (I : St) (J : Rf) (LP : List Nat) (P : St)  (post : Int32 → St → Rf → List Nat → St → Prop) : Prop := (wp_X1_cutUpTo I J LP P (I 9 1) (fun r1 I2 J3 LP4 P5 => (post r1 I2 J3 LP4 P5)))
def wp_X7_deliver (I : St) (J : Rf) (LP : List Nat) (P : St) (p1 : Int32) (p2 : Int32) (p3 : Int32) (post : Int32 → St → Rf → List Nat → St → Prop) : Prop := (wp_X2_letterAt I J LP P p1 p2 (fun r1 I2 J3 LP4 P5 => ((r1 = none → (post (-1) I2 J3 LP4 P5)) ∧ (∀ a6 : Nat, r1 = some a6 → ((¬ p3 = 0 → (wp_X5_take I2 J3 LP4 P5 a6 (fun r7 I8 J9 LP10 P11 => (post r7 I8 J9 LP10 P11)))) ∧ (p3 = 0 → (wp_X2_dropLetter I2 J3 LP4 P5 p1 p2 (fun I13 J14 LP15 P16 => (wp_X5_take I13 J14 LP15 P16 a6 (fun r17 I18 J19 LP20 P21 => (post r17 I18 J19 LP20 P21)))))))))))
def wp_X7_lose (I : St) (J : Rf) (LP : List Nat) (P : St) (p1 : Int32) (p2 : Int32) (post : Int32 → St → Rf → List Nat → St → Prop) : Prop := (wp_X2_letterAt I J LP P p1 p2 (fun r1 I2 J3 LP4 P5 => ((r1 = none → (post (-1) I2 J3 LP4 P5)) ∧ (∀ a6 : Nat, r1 = some a6 → (wp_X2_dropLetter I2 J3 LP4 P5 p1 p2 (fun I8 J9 LP10 P11 => (∀ I12 : St, I12 = st I8 9 3 ((I8 9 3) + 1) → (a6 ∈ LP10 ∧ (post (P11 a6 0) I12 J9 LP10 P11)))))))))
def wp_X7_letter (I : St) (J : Rf) (LP : List Nat) (P : St) (p1 : Int32) (p2 : Int32) (p3 : Int32) (post : Int32 → St → Rf → List Nat → St → Prop) : Prop := (wp_X7_isLane I J LP P p1 (fun r1 I2 J3 LP4 P5 => ((r1 = 0 → (post (-1) I2 J3 LP4 P5)) ∧ (¬ r1 = 0 → ((p3 < 0 → (post (-1) I2 J3 LP4 P5)) ∧ (¬ p3 < 0 → ((p3 ≤ 3 → (wp_X2_letterAt I2 J3 LP4 P5 p1 p2 (fun r6 I7 J8 LP9 P10 => ((r6 = none → (post (-9) I7 J8 LP9 P10)) ∧ (∀ a11 : Nat, r6 = some a11 → ((p3 = 0 → (a11 ∈ LP9 ∧ (post (P10 a11 0) I7 J8 LP9 P10))) ∧ ((p3 = 1 → (a11 ∈ LP9 ∧ (post (P10 a11 1) I7 J8 LP9 P10))) ∧ ((p3 = 2 → (a11 ∈ LP9 ∧ (post (P10 a11 3) I7 J8 LP9 P10))) ∧ ((¬ p3 = 0 ∧ ¬ p3 = 1 ∧ ¬ p3 = 2) → (a11 ∈ LP9 ∧ (post (P10 a11 2) I7 J8 LP9 P10))))))))))) ∧ (¬ p3 ≤ 3 → (post (-1) I2 J3 LP4 P5)))))))))
def wp_X7_save (I : St) (J : Rf) (LP : List Nat) (P : St)  (post : Int32 → St → Rf → List Nat → St → Prop) : Prop := (wp_X5_saveMemory I J LP P  (fun r1 I2 J3 LP4 P5 => (post r1 I2 J3 LP4 P5)))
def wp_X7_ack (I : St) (J : Rf) (LP : List Nat) (P : St) (p1 : Int32) (post : Int32 → St → Rf → List Nat → St → Prop) : Prop := ((p1 = 0 → (post (I 21 0) I J LP P)) ∧ (¬ p1 = 0 → (wp_X2_hear I J LP P (I 21 0) (fun I2 J3 LP4 P5 => (post (I2 21 0) I2 J3 LP4 P5)))))
def wp_X7_deliverAll (I : St) (J : Rf) (LP : List Nat) (P : St)  (post : St → Rf → List Nat → St → Prop) : Prop := (∃ V1 : Nat → Int32 → St → Rf → List Nat → St → Prop, (∃ n2 : Nat, V1 n2 0 I J LP P) ∧ ∀ (n2 : Nat) (x3 : Int32) (I4 : St) (J5 : Rf) (LP6 : List Nat) (P7 : St), V1 n2 x3 I4 J5 LP6 P7 → ((3 ≤ x3 → (post I4 J5 LP6 P7)) ∧ (¬ 3 ≤ x3 → (vp_in x3 3 ∧ ∀ j8 : Nat, j8 = 11 + x3.toNatClampNeg → (∃ V9 : Nat → Int32 → St → Rf → List Nat → St → Prop, (∃ n10 : Nat, V9 n10 0 I4 J5 LP6 P7) ∧ ∀ (n10 : Nat) (x11 : Int32) (I12 : St) (J13 : Rf) (LP14 : List Nat) (P15 : St), V9 n10 x11 I12 J13 LP14 P15 → ((40 ≤ x11 → (wp_X3_clear I12 J13 LP14 P15 j8 (fun I17 J18 LP19 P20 => (∃ n21 : Nat, n21 < n2 ∧ V1 n21 (x3 + 1) I17 J18 LP19 P20)))) ∧ (¬ 40 ≤ x11 → (wp_X3_at I12 J13 LP14 P15 j8 x11 (fun r22 I23 J24 LP25 P26 => ((r22 = none → (wp_X3_clear I23 J24 LP25 P26 j8 (fun I29 J30 LP31 P32 => (∃ n33 : Nat, n33 < n2 ∧ V1 n33 (x3 + 1) I29 J30 LP31 P32)))) ∧ (∀ a27 : Nat, r22 = some a27 → (wp_X5_take I23 J24 LP25 P26 a27 (fun r34 I35 J36 LP37 P38 => (∃ n39 : Nat, n39 < n10 ∧ V9 n39 (x11 + 1) I35 J36 LP37 P38))))))))))))))
def wp_X7_flow (I : St) (J : Rf) (LP : List Nat) (P : St) (p1 : Int32) (post : Int32 → St → Rf → List Nat → St → Prop) : Prop := ((p1 < 1 → (post (-1) I J LP P)) ∧ (¬ p1 < 1 → ((p1 ≤ 10 → (∃ V1 : Nat → Int32 → St → Rf → List Nat → St → Prop, (∃ n2 : Nat, V1 n2 0 I J LP P) ∧ ∀ (n2 : Nat) (x3 : Int32) (I4 : St) (J5 : Rf) (LP6 : List Nat) (P7 : St), V1 n2 x3 I4 J5 LP6 P7 → ((p1 ≤ x3 → (post ((I4 19 0) - (I 19 0)) I4 J5 LP6 P7)) ∧ (¬ p1 ≤ x3 → (wp_X7_deliverAll I4 J5 LP6 P7  (fun I9 J10 LP11 P12 => (wp_X5_saveMemory I9 J10 LP11 P12  (fun r13 I14 J15 LP16 P17 => (wp_X2_hear I14 J15 LP16 P17 (I14 21 0) (fun I19 J20 LP21 P22 => (wp_X2_readOn I19 J20 LP21 P22 400 (fun r23 I24 J25 LP26 P27 => (∃ n28 : Nat, n28 < n2 ∧ V1 n28 (x3 + 1) I24 J25 LP26 P27))))))))))))) ∧ (¬ p1 ≤ 10 → (post (-1) I J LP P)))))
def wp_X7_whole (I : St) (J : Rf) (LP : List Nat) (P : St)  (post : Int32 → St → Rf → List Nat → St → Prop) : Prop := (wp_X5_diskIsWhole I J LP P  (fun r1 I2 J3 LP4 P5 => ((r1 = 0 → (post 0 I2 J3 LP4 P5)) ∧ (¬ r1 = 0 → (post 1 I2 J3 LP4 P5)))))
def wp_X7_prefix (I : St) (J : Rf) (LP : List Nat) (P : St) (p1 : Int32) (post : Int32 → St → Rf → List Nat → St → Prop) : Prop := ((p1 < 0 → (post (-1) I J LP P)) ∧ (¬ p1 < 0 → ((p1 ≤ 1 → ((¬ p1 = 0 → (wp_X6_isAsFlushed I J LP P 21 (fun r1 I2 J3 LP4 P5 => ((r1 = 0 → (post 0 I2 J3 LP4 P5)) ∧ (¬ r1 = 0 → (post 1 I2 J3 LP4 P5)))))) ∧ (p1 = 0 → (wp_X6_isAsFlushed I J LP P 20 (fun r6 I7 J8 LP9 P10 => ((r6 = 0 → (post 0 I7 J8 LP9 P10)) ∧ (¬ r6 = 0 → (post 1 I7 J8 LP9 P10)))))))) ∧ (¬ p1 ≤ 1 → (post (-1) I J LP P)))))
def wp_X7_count (I : St) (J : Rf) (LP : List Nat) (P : St) (p1 : Int32) (post : Int32 → St → Rf → List Nat → St → Prop) : Prop := ((p1 = 0 → (wp_X4_openTransactions I J LP P  (fun r1 I2 J3 LP4 P5 => (post r1 I2 J3 LP4 P5)))) ∧ ((p1 = 1 → (post (I 1 2) I J LP P)) ∧ ((p1 = 2 → (post (I 1 1) I J LP P)) ∧ ((p1 = 3 → (post (I 9 0) I J LP P)) ∧ ((p1 = 4 → (post (I 9 1) I J LP P)) ∧ ((p1 = 5 → (post (I 1 0) I J LP P)) ∧ ((p1 = 6 → (wp_X2_lettersUnderWay I J LP P  (fun r6 I7 J8 LP9 P10 => (post r6 I7 J8 LP9 P10)))) ∧ ((p1 = 7 → (post (I 9 2) I J LP P)) ∧ ((p1 = 8 → (post (I 19 0) I J LP P)) ∧ ((p1 = 9 → (post (I 19 1) I J LP P)) ∧ ((p1 = 10 → (post (I 14 0) I J LP P)) ∧ ((p1 = 11 → (post ((I 9 3) + (I 19 2)) I J LP P)) ∧ ((p1 = 12 → (post (I 0 0) I J LP P)) ∧ ((p1 = 13 → (post (I 21 0) I J LP P)) ∧ ((¬ p1 = 0 ∧ ¬ p1 = 1 ∧ ¬ p1 = 2 ∧ ¬ p1 = 3 ∧ ¬ p1 = 4 ∧ ¬ p1 = 5 ∧ ¬ p1 = 6 ∧ ¬ p1 = 7 ∧ ¬ p1 = 8 ∧ ¬ p1 = 9 ∧ ¬ p1 = 10 ∧ ¬ p1 = 11 ∧ ¬ p1 = 12 ∧ ¬ p1 = 13) → (post (-1) I J LP P))))))))))))))))
def wp_X8_in (I : St) (p1 : Int32) (p2 : Int32) (p3 : Int32) (post : Int32 → St → Prop) : Prop := ((p1 < p2 → (post 0 I)) ∧ (¬ p1 < p2 → ((p3 < p1 → (post 0 I)) ∧ (¬ p3 < p1 → (post 1 I)))))
def wp_X8_isTransaction (I : St) (p1 : Int32) (post : Int32 → St → Prop) : Prop := (wp_X8_in I p1 0 3 (fun r1 I2 => ((r1 = 0 → (post 0 I2)) ∧ (¬ r1 = 0 → (vp_in p1 4 ∧ (((I2 0 p1.toNatClampNeg) = 0 → (post 0 I2)) ∧ (¬ (I2 0 p1.toNatClampNeg) = 0 → (post 1 I2))))))))
def wp_X8_isKey (I : St) (p1 : Int32) (post : Int32 → St → Prop) : Prop := (wp_X8_in I p1 0 5 (fun r1 I2 => (narrow .boolean (.int r1) = .int r1 ∧ post r1 I2)))
def wp_X8_clears (I : St) (p1 : Int32) (post : St → Prop) : Prop := (∃ V1 : Nat → Int32 → St → Prop, (∃ n2 : Nat, V1 n2 0 I) ∧ ∀ (n2 : Nat) (x3 : Int32) (I4 : St), V1 n2 x3 I4 → ((6 ≤ x3 → (post I4)) ∧ (¬ 6 ≤ x3 → (vp_in ((6 * p1) + x3) 24 ∧ ∀ I5 : St, I5 = st I4 1 ((6 * p1) + x3).toNatClampNeg (vp_nar .boolean 0) → (∃ n6 : Nat, n6 < n2 ∧ V1 n6 (x3 + 1) I5)))))
def wp_X8_begin (I : St)  (post : Int32 → St → Prop) : Prop := (∃ V1 : Nat → Int32 → St → Prop, (∃ n2 : Nat, V1 n2 0 I) ∧ ∀ (n2 : Nat) (x3 : Int32) (I4 : St), V1 n2 x3 I4 → ((4 ≤ x3 → (post (-3) I4)) ∧ (¬ 4 ≤ x3 → (vp_in x3 4 ∧ ((¬ (I4 0 x3.toNatClampNeg) = 0 → (∃ n5 : Nat, n5 < n2 ∧ V1 n5 (x3 + 1) I4)) ∧ ((I4 0 x3.toNatClampNeg) = 0 → (vp_in x3 4 ∧ ∀ I6 : St, I6 = st I4 0 x3.toNatClampNeg (vp_nar .boolean 1) → (wp_X8_clears I6 x3 (fun I8 => (post x3 I8))))))))))
def wp_X8_isUnderWay (I : St) (p1 : Int32) (post : Int32 → St → Prop) : Prop := (∃ V1 : Nat → Int32 → Int32 → St → Prop, (∃ n2 : Nat, V1 n2 0 (I 6 0) I) ∧ ∀ (n2 : Nat) (x3 : Int32) (x4 : Int32) (I5 : St), V1 n2 x3 x4 I5 → (((I5 5 0) ≤ x4 → (narrow .boolean (.int x3) = .int x3 ∧ post x3 I5)) ∧ (¬ (I5 5 0) ≤ x4 → ((¬ x3 = 0 → (∃ n6 : Nat, n6 < n2 ∧ V1 n6 1 (x4 + 1) I5)) ∧ (x3 = 0 → (vp_in x4 400 ∧ ((¬ (I5 8 x4.toNatClampNeg) = p1 → (∃ n7 : Nat, n7 < n2 ∧ V1 n7 0 (x4 + 1) I5)) ∧ ((I5 8 x4.toNatClampNeg) = p1 → (∃ n8 : Nat, n8 < n2 ∧ V1 n8 1 (x4 + 1) I5)))))))))
def wp_X8_writer (I : St) (p1 : Int32) (post : Int32 → St → Prop) : Prop := (∃ V1 : Nat → Int32 → St → Prop, (∃ n2 : Nat, V1 n2 0 I) ∧ ∀ (n2 : Nat) (x3 : Int32) (I4 : St), V1 n2 x3 I4 → ((4 ≤ x3 → (post (-1) I4)) ∧ (¬ 4 ≤ x3 → (vp_in x3 4 ∧ (((I4 0 x3.toNatClampNeg) = 0 → (∃ n5 : Nat, n5 < n2 ∧ V1 n5 (x3 + 1) I4)) ∧ (¬ (I4 0 x3.toNatClampNeg) = 0 → (vp_in ((6 * x3) + p1) 24 ∧ (((I4 1 ((6 * x3) + p1).toNatClampNeg) = 0 → (∃ n6 : Nat, n6 < n2 ∧ V1 n6 (x3 + 1) I4)) ∧ (¬ (I4 1 ((6 * x3) + p1).toNatClampNeg) = 0 → (post x3 I4))))))))))
def wp_X8_write (I : St) (p1 : Int32) (p2 : Int32) (p3 : Int32) (post : Int32 → St → Prop) : Prop := (wp_X8_isTransaction I p1 (fun r1 I2 => ((r1 = 0 → (post (-1) I2)) ∧ (¬ r1 = 0 → (wp_X8_isKey I2 p2 (fun r3 I4 => ((¬ r3 = 0 → (wp_X8_writer I4 p2 (fun r5 I6 => (wp_X8_isUnderWay I6 p2 (fun r7 I8 => ((¬ r7 = 0 → (post (-2) I8)) ∧ (r7 = 0 → ((r5 < 0 → (vp_in ((6 * p1) + p2) 24 ∧ ∀ I9 : St, I9 = st I8 1 ((6 * p1) + p2).toNatClampNeg (vp_nar .boolean 1) → (vp_in ((6 * p1) + p2) 24 ∧ ∀ I10 : St, I10 = st I9 2 ((6 * p1) + p2).toNatClampNeg p3 → (post 1 I10)))) ∧ (¬ r5 < 0 → ((r5 = p1 → (vp_in ((6 * p1) + p2) 24 ∧ ∀ I11 : St, I11 = st I8 1 ((6 * p1) + p2).toNatClampNeg (vp_nar .boolean 1) → (vp_in ((6 * p1) + p2) 24 ∧ ∀ I12 : St, I12 = st I11 2 ((6 * p1) + p2).toNatClampNeg p3 → (post 1 I12)))) ∧ (¬ r5 = p1 → (post (-2) I8)))))))))))) ∧ (r3 = 0 → (post (-1) I4)))))))))
def wp_X8_read (I : St) (p1 : Int32) (p2 : Int32) (post : Int32 → St → Prop) : Prop := (wp_X8_isTransaction I p1 (fun r1 I2 => ((r1 = 0 → (post 0 I2)) ∧ (¬ r1 = 0 → (wp_X8_isKey I2 p2 (fun r3 I4 => ((¬ r3 = 0 → (vp_in ((6 * p1) + p2) 24 ∧ (((I4 1 ((6 * p1) + p2).toNatClampNeg) = 0 → (vp_in p2 6 ∧ (post (I4 3 p2.toNatClampNeg) I4))) ∧ (¬ (I4 1 ((6 * p1) + p2).toNatClampNeg) = 0 → (vp_in ((6 * p1) + p2) 24 ∧ (post (I4 2 ((6 * p1) + p2).toNatClampNeg) I4)))))) ∧ (r3 = 0 → (post 0 I4)))))))))
def wp_X8_writtenBy (I : St) (p1 : Int32) (post : Int32 → St → Prop) : Prop := (∃ V1 : Nat → Int32 → Int32 → St → Prop, (∃ n2 : Nat, V1 n2 0 0 I) ∧ ∀ (n2 : Nat) (x3 : Int32) (x4 : Int32) (I5 : St), V1 n2 x3 x4 I5 → ((6 ≤ x4 → (post x3 I5)) ∧ (¬ 6 ≤ x4 → (vp_in ((6 * p1) + x4) 24 ∧ (((I5 1 ((6 * p1) + x4).toNatClampNeg) = 0 → (∃ n6 : Nat, n6 < n2 ∧ V1 n6 (x3 + 0) (x4 + 1) I5)) ∧ (¬ (I5 1 ((6 * p1) + x4).toNatClampNeg) = 0 → (∃ n7 : Nat, n7 < n2 ∧ V1 n7 (x3 + 1) (x4 + 1) I5)))))))
def wp_X8_commit (I : St) (p1 : Int32) (post : Int32 → St → Prop) : Prop := (wp_X8_isTransaction I p1 (fun r1 I2 => ((¬ r1 = 0 → (wp_X8_writtenBy I2 p1 (fun r3 I4 => ((((I4 5 0) + r3) ≤ 400 → (∃ V5 : Nat → Int32 → Int32 → St → Prop, (∃ n6 : Nat, V5 n6 r3 0 I4) ∧ ∀ (n6 : Nat) (x7 : Int32) (x8 : Int32) (I9 : St), V5 n6 x7 x8 I9 → ((6 ≤ x8 → (vp_in p1 4 ∧ ∀ I10 : St, I10 = st I9 0 p1.toNatClampNeg (vp_nar .boolean 0) → (wp_X8_clears I10 p1 (fun I12 => (post r3 I12))))) ∧ (¬ 6 ≤ x8 → (vp_in ((6 * p1) + x8) 24 ∧ (((I9 1 ((6 * p1) + x8).toNatClampNeg) = 0 → (∃ n13 : Nat, n13 < n6 ∧ V5 n13 x7 (x8 + 1) I9)) ∧ (¬ (I9 1 ((6 * p1) + x8).toNatClampNeg) = 0 → (vp_in (I9 5 0) 400 ∧ ∀ I14 : St, I14 = st I9 8 (I9 5 0).toNatClampNeg x8 → (vp_in ((6 * p1) + x8) 24 ∧ (vp_in (I14 5 0) 400 ∧ ∀ I15 : St, I15 = st I14 9 (I14 5 0).toNatClampNeg (I14 2 ((6 * p1) + x8).toNatClampNeg) → (vp_in x8 6 ∧ (vp_in (I15 5 0) 400 ∧ ∀ I16 : St, I16 = st I15 10 (I15 5 0).toNatClampNeg ((I15 4 x8.toNatClampNeg) + 1) → ((¬ (x7 + (-1)) = 0 → (vp_in (I16 5 0) 400 ∧ ∀ I17 : St, I17 = st I16 11 (I16 5 0).toNatClampNeg (vp_nar .boolean 0) → (vp_in (I17 5 0) 400 ∧ ∀ I18 : St, I18 = st I17 21 (I17 5 0).toNatClampNeg (vp_nar .boolean 0) → (vp_in (I18 5 0) 400 ∧ ∀ I19 : St, I19 = st I18 24 (I18 5 0).toNatClampNeg (vp_nar .boolean 0) → (∀ I20 : St, I20 = st I19 5 0 ((I19 5 0) + 1) → (∃ n21 : Nat, n21 < n6 ∧ V5 n21 (x7 + (-1)) (x8 + 1) I20)))))) ∧ ((x7 + (-1)) = 0 → (vp_in (I16 5 0) 400 ∧ ∀ I22 : St, I22 = st I16 11 (I16 5 0).toNatClampNeg (vp_nar .boolean 1) → (vp_in (I22 5 0) 400 ∧ ∀ I23 : St, I23 = st I22 21 (I22 5 0).toNatClampNeg (vp_nar .boolean 0) → (vp_in (I23 5 0) 400 ∧ ∀ I24 : St, I24 = st I23 24 (I23 5 0).toNatClampNeg (vp_nar .boolean 0) → (∀ I25 : St, I25 = st I24 5 0 ((I24 5 0) + 1) → (∃ n26 : Nat, n26 < n6 ∧ V5 n26 (x7 + (-1)) (x8 + 1) I25))))))))))))))))))) ∧ (¬ ((I4 5 0) + r3) ≤ 400 → (post (-3) I4)))))) ∧ (r1 = 0 → (post (-1) I2)))))
def wp_X8_abort (I : St) (p1 : Int32) (post : Int32 → St → Prop) : Prop := (wp_X8_isTransaction I p1 (fun r1 I2 => ((¬ r1 = 0 → (wp_X8_writtenBy I2 p1 (fun r3 I4 => (vp_in p1 4 ∧ ∀ I5 : St, I5 = st I4 0 p1.toNatClampNeg (vp_nar .boolean 0) → (wp_X8_clears I5 p1 (fun I7 => (post r3 I7))))))) ∧ (r1 = 0 → (post (-1) I2)))))
def wp_X8_flush (I : St)  (post : Int32 → St → Prop) : Prop := (∃ V1 : Nat → St → Prop, (∃ n2 : Nat, V1 n2 I) ∧ ∀ (n2 : Nat) (I3 : St), V1 n2 I3 → (((I3 5 0) ≤ (I3 6 0) → (post ((I 5 0) - (I 6 0)) I3)) ∧ (¬ (I3 5 0) ≤ (I3 6 0) → (vp_in (I3 6 0) 400 ∧ (vp_in (I3 6 0) 400 ∧ (vp_in (I3 8 (I3 6 0).toNatClampNeg) 6 ∧ ∀ I4 : St, I4 = st I3 3 (I3 8 (I3 6 0).toNatClampNeg).toNatClampNeg (I3 9 (I3 6 0).toNatClampNeg) → (vp_in (I4 6 0) 400 ∧ (vp_in (I4 8 (I4 6 0).toNatClampNeg) 6 ∧ (vp_in (I4 8 (I4 6 0).toNatClampNeg) 6 ∧ ∀ I5 : St, I5 = st I4 4 (I4 8 (I4 6 0).toNatClampNeg).toNatClampNeg ((I4 4 (I4 8 (I4 6 0).toNatClampNeg).toNatClampNeg) + 1) → (∀ I6 : St, I6 = st I5 6 0 ((I5 6 0) + 1) → (∃ n7 : Nat, n7 < n2 ∧ V1 n7 I6)))))))))))
def wp_X8_crashSource (I : St)  (post : Int32 → St → Prop) : Prop := (∀ I1 : St, I1 = st I 5 0 (I 6 0) → (∃ V2 : Nat → Int32 → St → Prop, (∃ n3 : Nat, V2 n3 0 I1) ∧ ∀ (n3 : Nat) (x4 : Int32) (I5 : St), V2 n3 x4 I5 → ((4 ≤ x4 → (post ((I 5 0) - (I 6 0)) I5)) ∧ (¬ 4 ≤ x4 → (vp_in x4 4 ∧ ∀ I6 : St, I6 = st I5 0 x4.toNatClampNeg (vp_nar .boolean 0) → (wp_X8_clears I6 x4 (fun I8 => (∃ n9 : Nat, n9 < n3 ∧ V2 n9 (x4 + 1) I8))))))))
def wp_X8_crashTarget (I : St)  (post : Int32 → St → Prop) : Prop := (∃ V1 : Nat → Int32 → Int32 → St → Prop, (∃ n2 : Nat, V1 n2 0 0 I) ∧ ∀ (n2 : Nat) (x3 : Int32) (x4 : Int32) (I5 : St), V1 n2 x3 x4 I5 → ((6 ≤ x4 → (∃ V6 : Nat → Int32 → St → Prop, (∃ n7 : Nat, V6 n7 0 I5) ∧ ∀ (n7 : Nat) (x8 : Int32) (I9 : St), V6 n7 x8 I9 → ((400 ≤ x8 → (∀ I10 : St, I10 = st I9 25 0 0 → (post x3 I10))) ∧ (¬ 400 ≤ x8 → (vp_in x8 400 ∧ (vp_in x8 400 ∧ ∀ I11 : St, I11 = st I9 21 x8.toNatClampNeg (vp_nar .boolean (I9 24 x8.toNatClampNeg)) → (∃ n12 : Nat, n12 < n7 ∧ V6 n12 (x8 + 1) I11))))))) ∧ (¬ 6 ≤ x4 → (vp_in x4 6 ∧ (vp_in x4 6 ∧ (vp_in x4 6 ∧ (vp_in x4 6 ∧ ∀ I13 : St, I13 = st I5 19 x4.toNatClampNeg (I5 22 x4.toNatClampNeg) → (vp_in x4 6 ∧ (vp_in x4 6 ∧ ∀ I14 : St, I14 = st I13 20 x4.toNatClampNeg (I13 23 x4.toNatClampNeg) → (∃ n15 : Nat, n15 < n2 ∧ V1 n15 (x3 + ((I5 20 x4.toNatClampNeg) - (I5 23 x4.toNatClampNeg))) (x4 + 1) I14))))))))))
def wp_X8_crash (I : St) (p1 : Int32) (post : Int32 → St → Prop) : Prop := (wp_X8_in I p1 0 2 (fun r1 I2 => ((¬ r1 = 0 → (∀ I3 : St, I3 = st I2 34 0 ((I2 34 0) + 1) → ((¬ p1 = 0 → ((¬ p1 = 1 → (wp_X8_crashTarget I3  (fun r4 I5 => (post r4 I5)))) ∧ (p1 = 1 → (∀ I6 : St, I6 = st I3 12 0 (I3 13 0) → (post ((I3 12 0) - (I3 13 0)) I6))))) ∧ (p1 = 0 → (wp_X8_crashSource I3  (fun r7 I8 => (post r7 I8))))))) ∧ (r1 = 0 → (post (-1) I2)))))
def wp_X8_key (I : St) (p1 : Int32) (p2 : Int32) (post : Int32 → St → Prop) : Prop := (wp_X8_isKey I p1 (fun r1 I2 => ((¬ r1 = 0 → ((p2 = 0 → (vp_in p1 6 ∧ (post (I2 3 p1.toNatClampNeg) I2))) ∧ ((p2 = 1 → (vp_in p1 6 ∧ (post (I2 4 p1.toNatClampNeg) I2))) ∧ ((p2 = 2 → (wp_X8_isUnderWay I2 p1 (fun r3 I4 => ((r3 = 0 → (wp_X8_writer I4 p1 (fun r5 I6 => ((r5 < 0 → (post 0 I6)) ∧ (¬ r5 < 0 → (post 1 I6)))))) ∧ (¬ r3 = 0 → (post 2 I4)))))) ∧ ((p2 = 3 → (vp_in p1 6 ∧ (post (I2 19 p1.toNatClampNeg) I2))) ∧ ((p2 = 4 → (vp_in p1 6 ∧ (post (I2 20 p1.toNatClampNeg) I2))) ∧ ((p2 = 5 → (vp_in p1 6 ∧ (post (I2 22 p1.toNatClampNeg) I2))) ∧ ((p2 = 6 → (vp_in p1 6 ∧ (post (I2 23 p1.toNatClampNeg) I2))) ∧ ((¬ p2 = 0 ∧ ¬ p2 = 1 ∧ ¬ p2 = 2 ∧ ¬ p2 = 3 ∧ ¬ p2 = 4 ∧ ¬ p2 = 5 ∧ ¬ p2 = 6) → (post 0 I2)))))))))) ∧ (r1 = 0 → (post 0 I2)))))
def wp_X8_log (I : St) (p1 : Int32) (p2 : Int32) (post : Int32 → St → Prop) : Prop := (wp_X8_in I p2 0 4 (fun r1 I2 => ((¬ r1 = 0 → (wp_X8_in I2 p1 (I2 7 0) ((I2 5 0) - 1) (fun r3 I4 => ((¬ r3 = 0 → ((p2 = 0 → (vp_in p1 400 ∧ (post (I4 8 p1.toNatClampNeg) I4))) ∧ ((p2 = 1 → (vp_in p1 400 ∧ (post (I4 9 p1.toNatClampNeg) I4))) ∧ ((p2 = 2 → (vp_in p1 400 ∧ (post (I4 10 p1.toNatClampNeg) I4))) ∧ ((p2 = 3 → (((I4 6 0) ≤ p1 → (post 0 I4)) ∧ (¬ (I4 6 0) ≤ p1 → (post 1 I4)))) ∧ ((¬ p2 = 0 ∧ ¬ p2 = 1 ∧ ¬ p2 = 2 ∧ ¬ p2 = 3) → (vp_in p1 400 ∧ (((I4 11 p1.toNatClampNeg) = 0 → (post 0 I4)) ∧ (¬ (I4 11 p1.toNatClampNeg) = 0 → (post 1 I4)))))))))) ∧ (r3 = 0 → (post (-9) I4)))))) ∧ (r1 = 0 → (post (-1) I2)))))
def wp_X8_relays (I : St) (p1 : Int32) (post : Int32 → St → Prop) : Prop := (∃ V1 : Nat → Int32 → St → Prop, (∃ n2 : Nat, V1 n2 0 I) ∧ ∀ (n2 : Nat) (x3 : Int32) (I4 : St), V1 n2 x3 I4 → ((p1 ≤ x3 → (post x3 I4)) ∧ (¬ p1 ≤ x3 → (((I4 6 0) ≤ (I4 12 0) → (post x3 I4)) ∧ (¬ (I4 6 0) ≤ (I4 12 0) → (vp_in (I4 12 0) 400 ∧ (vp_in ((I4 8 (I4 12 0).toNatClampNeg) - (I4 8 (I4 12 0).toNatClampNeg) / 3 * 3) 3 ∧ ((40 ≤ (I4 14 ((I4 8 (I4 12 0).toNatClampNeg) - (I4 8 (I4 12 0).toNatClampNeg) / 3 * 3).toNatClampNeg) → (post x3 I4)) ∧ (¬ 40 ≤ (I4 14 ((I4 8 (I4 12 0).toNatClampNeg) - (I4 8 (I4 12 0).toNatClampNeg) / 3 * 3).toNatClampNeg) → (vp_in (I4 12 0) 400 ∧ (vp_in ((I4 8 (I4 12 0).toNatClampNeg) - (I4 8 (I4 12 0).toNatClampNeg) / 3 * 3) 3 ∧ (vp_in ((40 * ((I4 8 (I4 12 0).toNatClampNeg) - (I4 8 (I4 12 0).toNatClampNeg) / 3 * 3)) + (I4 14 ((I4 8 (I4 12 0).toNatClampNeg) - (I4 8 (I4 12 0).toNatClampNeg) / 3 * 3).toNatClampNeg)) 120 ∧ ∀ I5 : St, I5 = st I4 15 ((40 * ((I4 8 (I4 12 0).toNatClampNeg) - (I4 8 (I4 12 0).toNatClampNeg) / 3 * 3)) + (I4 14 ((I4 8 (I4 12 0).toNatClampNeg) - (I4 8 (I4 12 0).toNatClampNeg) / 3 * 3).toNatClampNeg)).toNatClampNeg (I4 12 0) → (vp_in (I5 12 0) 400 ∧ (vp_in ((40 * ((I4 8 (I4 12 0).toNatClampNeg) - (I4 8 (I4 12 0).toNatClampNeg) / 3 * 3)) + (I4 14 ((I4 8 (I4 12 0).toNatClampNeg) - (I4 8 (I4 12 0).toNatClampNeg) / 3 * 3).toNatClampNeg)) 120 ∧ ∀ I6 : St, I6 = st I5 16 ((40 * ((I4 8 (I4 12 0).toNatClampNeg) - (I4 8 (I4 12 0).toNatClampNeg) / 3 * 3)) + (I4 14 ((I4 8 (I4 12 0).toNatClampNeg) - (I4 8 (I4 12 0).toNatClampNeg) / 3 * 3).toNatClampNeg)).toNatClampNeg (I5 8 (I5 12 0).toNatClampNeg) → (vp_in (I6 12 0) 400 ∧ (vp_in ((40 * ((I4 8 (I4 12 0).toNatClampNeg) - (I4 8 (I4 12 0).toNatClampNeg) / 3 * 3)) + (I4 14 ((I4 8 (I4 12 0).toNatClampNeg) - (I4 8 (I4 12 0).toNatClampNeg) / 3 * 3).toNatClampNeg)) 120 ∧ ∀ I7 : St, I7 = st I6 17 ((40 * ((I4 8 (I4 12 0).toNatClampNeg) - (I4 8 (I4 12 0).toNatClampNeg) / 3 * 3)) + (I4 14 ((I4 8 (I4 12 0).toNatClampNeg) - (I4 8 (I4 12 0).toNatClampNeg) / 3 * 3).toNatClampNeg)).toNatClampNeg (I6 10 (I6 12 0).toNatClampNeg) → (vp_in (I7 12 0) 400 ∧ (vp_in ((40 * ((I4 8 (I4 12 0).toNatClampNeg) - (I4 8 (I4 12 0).toNatClampNeg) / 3 * 3)) + (I4 14 ((I4 8 (I4 12 0).toNatClampNeg) - (I4 8 (I4 12 0).toNatClampNeg) / 3 * 3).toNatClampNeg)) 120 ∧ ∀ I8 : St, I8 = st I7 18 ((40 * ((I4 8 (I4 12 0).toNatClampNeg) - (I4 8 (I4 12 0).toNatClampNeg) / 3 * 3)) + (I4 14 ((I4 8 (I4 12 0).toNatClampNeg) - (I4 8 (I4 12 0).toNatClampNeg) / 3 * 3).toNatClampNeg)).toNatClampNeg (I7 9 (I7 12 0).toNatClampNeg) → (vp_in ((I4 8 (I4 12 0).toNatClampNeg) - (I4 8 (I4 12 0).toNatClampNeg) / 3 * 3) 3 ∧ (vp_in ((I4 8 (I4 12 0).toNatClampNeg) - (I4 8 (I4 12 0).toNatClampNeg) / 3 * 3) 3 ∧ ∀ I9 : St, I9 = st I8 14 ((I4 8 (I4 12 0).toNatClampNeg) - (I4 8 (I4 12 0).toNatClampNeg) / 3 * 3).toNatClampNeg ((I8 14 ((I4 8 (I4 12 0).toNatClampNeg) - (I4 8 (I4 12 0).toNatClampNeg) / 3 * 3).toNatClampNeg) + 1) → (∀ I10 : St, I10 = st I9 30 0 ((I9 30 0) + 1) → (∀ I11 : St, I11 = st I10 12 0 ((I10 12 0) + 1) → (∃ n12 : Nat, n12 < n2 ∧ V1 n12 (x3 + 1) I11)))))))))))))))))))))))
def wp_X8_relay (I : St) (p1 : Int32) (post : Int32 → St → Prop) : Prop := (wp_X8_in I p1 1 20 (fun r1 I2 => ((r1 = 0 → (post (-1) I2)) ∧ (¬ r1 = 0 → (wp_X8_relays I2 p1 (fun r3 I4 => (post r3 I4)))))))
def wp_X8_cut (I : St)  (post : Int32 → St → Prop) : Prop := (∀ I1 : St, I1 = st I 7 0 (I 13 0) → (post ((I 13 0) - (I 7 0)) I1))
def wp_X8_isLane (I : St) (p1 : Int32) (post : Int32 → St → Prop) : Prop := (wp_X8_in I p1 0 2 (fun r1 I2 => (narrow .boolean (.int r1) = .int r1 ∧ post r1 I2)))
def wp_X8_takesOut (I : St) (p1 : Int32) (p2 : Int32) (post : St → Prop) : Prop := (vp_in p1 3 ∧ (vp_in p1 3 ∧ ∀ I1 : St, I1 = st I 14 p1.toNatClampNeg ((I 14 p1.toNatClampNeg) - 1) → (∃ V2 : Nat → Int32 → St → Prop, (∃ n3 : Nat, V2 n3 ((40 * p1) + p2) I1) ∧ ∀ (n3 : Nat) (x4 : Int32) (I5 : St), V2 n3 x4 I5 → (vp_in p1 3 ∧ ((((40 * p1) + (I5 14 p1.toNatClampNeg)) ≤ x4 → (post I5)) ∧ (¬ ((40 * p1) + (I5 14 p1.toNatClampNeg)) ≤ x4 → (vp_in (x4 + 1) 120 ∧ (vp_in x4 120 ∧ ∀ I6 : St, I6 = st I5 15 x4.toNatClampNeg (I5 15 (x4 + 1).toNatClampNeg) → (vp_in (x4 + 1) 120 ∧ (vp_in x4 120 ∧ ∀ I7 : St, I7 = st I6 16 x4.toNatClampNeg (I6 16 (x4 + 1).toNatClampNeg) → (vp_in (x4 + 1) 120 ∧ (vp_in x4 120 ∧ ∀ I8 : St, I8 = st I7 17 x4.toNatClampNeg (I7 17 (x4 + 1).toNatClampNeg) → (vp_in (x4 + 1) 120 ∧ (vp_in x4 120 ∧ ∀ I9 : St, I9 = st I8 18 x4.toNatClampNeg (I8 18 (x4 + 1).toNatClampNeg) → (∃ n10 : Nat, n10 < n3 ∧ V2 n10 (x4 + 1) I9)))))))))))))))
def wp_X8_does (I : St) (p1 : Int32) (p2 : Int32) (p3 : Int32) (post : St → Prop) : Prop := (vp_in p1 6 ∧ ∀ I1 : St, I1 = st I 19 p1.toNatClampNeg p2 → (vp_in p1 6 ∧ (vp_in p1 6 ∧ ∀ I2 : St, I2 = st I1 20 p1.toNatClampNeg ((I1 20 p1.toNatClampNeg) + 1) → (vp_in p3 400 ∧ ∀ I3 : St, I3 = st I2 21 p3.toNatClampNeg (vp_nar .boolean 1) → (∀ I4 : St, I4 = st I3 31 0 ((I3 31 0) + 1) → (post I4))))))
def wp_X8_findHeld (I : St) (p1 : Int32) (p2 : Int32) (post : Int32 → St → Prop) : Prop := (∃ V1 : Nat → Int32 → St → Prop, (∃ n2 : Nat, V1 n2 0 I) ∧ ∀ (n2 : Nat) (x3 : Int32) (I4 : St), V1 n2 x3 I4 → (((I4 25 0) ≤ x3 → (post (-1) I4)) ∧ (¬ (I4 25 0) ≤ x3 → (vp_in x3 8 ∧ ((¬ (I4 26 x3.toNatClampNeg) = p1 → (∃ n5 : Nat, n5 < n2 ∧ V1 n5 (x3 + 1) I4)) ∧ ((I4 26 x3.toNatClampNeg) = p1 → (vp_in x3 8 ∧ ((¬ (I4 27 x3.toNatClampNeg) = p2 → (∃ n6 : Nat, n6 < n2 ∧ V1 n6 (x3 + 1) I4)) ∧ ((I4 27 x3.toNatClampNeg) = p2 → (post x3 I4))))))))))
def wp_X8_letsGo (I : St) (p1 : Int32) (post : St → Prop) : Prop := (∀ I1 : St, I1 = st I 25 0 ((I 25 0) - 1) → (∃ V2 : Nat → Int32 → St → Prop, (∃ n3 : Nat, V2 n3 p1 I1) ∧ ∀ (n3 : Nat) (x4 : Int32) (I5 : St), V2 n3 x4 I5 → (((I5 25 0) ≤ x4 → (post I5)) ∧ (¬ (I5 25 0) ≤ x4 → (vp_in (x4 + 1) 8 ∧ (vp_in x4 8 ∧ ∀ I6 : St, I6 = st I5 26 x4.toNatClampNeg (I5 26 (x4 + 1).toNatClampNeg) → (vp_in (x4 + 1) 8 ∧ (vp_in x4 8 ∧ ∀ I7 : St, I7 = st I6 27 x4.toNatClampNeg (I6 27 (x4 + 1).toNatClampNeg) → (vp_in (x4 + 1) 8 ∧ (vp_in x4 8 ∧ ∀ I8 : St, I8 = st I7 28 x4.toNatClampNeg (I7 28 (x4 + 1).toNatClampNeg) → (vp_in (x4 + 1) 8 ∧ (vp_in x4 8 ∧ ∀ I9 : St, I9 = st I8 29 x4.toNatClampNeg (I8 29 (x4 + 1).toNatClampNeg) → (∃ n10 : Nat, n10 < n3 ∧ V2 n10 (x4 + 1) I9)))))))))))))
def wp_X8_hears (I : St) (p1 : Int32) (p2 : Int32) (p3 : Int32) (p4 : Int32) (post : Int32 → St → Prop) : Prop := (vp_in p1 6 ∧ (((I 20 p1.toNatClampNeg) < p2 → (vp_in p1 6 ∧ ((p2 ≤ ((I 20 p1.toNatClampNeg) + 1) → (wp_X8_does I p1 p3 p4 (fun I2 => (vp_in p1 6 ∧ (wp_X8_findHeld I2 p1 ((I2 20 p1.toNatClampNeg) + 1) (fun r3 I4 => (∃ V5 : Nat → Int32 → St → Prop, (∃ n6 : Nat, V5 n6 r3 I4) ∧ ∀ (n6 : Nat) (x7 : Int32) (I8 : St), V5 n6 x7 I8 → ((x7 < 0 → (post 1 I8)) ∧ (¬ x7 < 0 → (vp_in x7 8 ∧ (vp_in x7 8 ∧ (wp_X8_does I8 p1 (I8 28 x7.toNatClampNeg) (I8 29 x7.toNatClampNeg) (fun I10 => (wp_X8_letsGo I10 x7 (fun I12 => (vp_in p1 6 ∧ (wp_X8_findHeld I12 p1 ((I12 20 p1.toNatClampNeg) + 1) (fun r13 I14 => (∃ n15 : Nat, n15 < n6 ∧ V5 n15 r13 I14))))))))))))))))))) ∧ (¬ p2 ≤ ((I 20 p1.toNatClampNeg) + 1) → (wp_X8_findHeld I p1 p2 (fun r16 I17 => ((r16 < 0 → ((¬ (I17 25 0) = 8 → (vp_in (I17 25 0) 8 ∧ ∀ I18 : St, I18 = st I17 26 (I17 25 0).toNatClampNeg p1 → (vp_in (I18 25 0) 8 ∧ ∀ I19 : St, I19 = st I18 27 (I18 25 0).toNatClampNeg p2 → (vp_in (I19 25 0) 8 ∧ ∀ I20 : St, I20 = st I19 28 (I19 25 0).toNatClampNeg p3 → (vp_in (I20 25 0) 8 ∧ ∀ I21 : St, I21 = st I20 29 (I20 25 0).toNatClampNeg p4 → (∀ I22 : St, I22 = st I21 25 0 ((I21 25 0) + 1) → (post 3 I22))))))) ∧ ((I17 25 0) = 8 → (∀ I23 : St, I23 = st I17 33 0 ((I17 33 0) + 1) → (post 4 I23))))) ∧ (¬ r16 < 0 → (∀ I24 : St, I24 = st I17 32 0 ((I17 32 0) + 1) → (post 2 I24)))))))))) ∧ (¬ (I 20 p1.toNatClampNeg) < p2 → (∀ I25 : St, I25 = st I 32 0 ((I 32 0) + 1) → (post 2 I25)))))
def wp_X8_delivers (I : St) (p1 : Int32) (p2 : Int32) (p3 : Int32) (post : Int32 → St → Prop) : Prop := (vp_in ((40 * p1) + p2) 120 ∧ (vp_in ((40 * p1) + p2) 120 ∧ (vp_in ((40 * p1) + p2) 120 ∧ (vp_in ((40 * p1) + p2) 120 ∧ ((¬ p3 = 0 → (wp_X8_hears I (I 16 ((40 * p1) + p2).toNatClampNeg) (I 17 ((40 * p1) + p2).toNatClampNeg) (I 18 ((40 * p1) + p2).toNatClampNeg) (I 15 ((40 * p1) + p2).toNatClampNeg) (fun r1 I2 => (post r1 I2)))) ∧ (p3 = 0 → (wp_X8_takesOut I p1 p2 (fun I4 => (wp_X8_hears I4 (I 16 ((40 * p1) + p2).toNatClampNeg) (I 17 ((40 * p1) + p2).toNatClampNeg) (I 18 ((40 * p1) + p2).toNatClampNeg) (I 15 ((40 * p1) + p2).toNatClampNeg) (fun r5 I6 => (post r5 I6)))))))))))
def wp_X8_isLetter (I : St) (p1 : Int32) (p2 : Int32) (post : Int32 → St → Prop) : Prop := (wp_X8_isLane I p1 (fun r1 I2 => ((r1 = 0 → (post 0 I2)) ∧ (¬ r1 = 0 → (vp_in p1 3 ∧ (wp_X8_in I2 p2 0 ((I2 14 p1.toNatClampNeg) - 1) (fun r3 I4 => ((r3 = 0 → (post 0 I4)) ∧ (¬ r3 = 0 → (post 1 I4))))))))))
def wp_X8_deliver (I : St) (p1 : Int32) (p2 : Int32) (p3 : Int32) (post : Int32 → St → Prop) : Prop := (wp_X8_isLetter I p1 p2 (fun r1 I2 => ((r1 = 0 → (post (-1) I2)) ∧ (¬ r1 = 0 → (wp_X8_delivers I2 p1 p2 p3 (fun r3 I4 => (post r3 I4)))))))
def wp_X8_lose (I : St) (p1 : Int32) (p2 : Int32) (post : Int32 → St → Prop) : Prop := (wp_X8_isLetter I p1 p2 (fun r1 I2 => ((¬ r1 = 0 → (vp_in ((40 * p1) + p2) 120 ∧ (wp_X8_takesOut I2 p1 p2 (fun I4 => (∀ I5 : St, I5 = st I4 33 0 ((I4 33 0) + 1) → (post (I2 15 ((40 * p1) + p2).toNatClampNeg) I5)))))) ∧ (r1 = 0 → (post (-1) I2)))))
def wp_X8_letter (I : St) (p1 : Int32) (p2 : Int32) (p3 : Int32) (post : Int32 → St → Prop) : Prop := (wp_X8_isLane I p1 (fun r1 I2 => ((r1 = 0 → (post (-1) I2)) ∧ (¬ r1 = 0 → (wp_X8_in I2 p3 0 3 (fun r3 I4 => ((¬ r3 = 0 → (wp_X8_isLetter I4 p1 p2 (fun r5 I6 => ((¬ r5 = 0 → ((¬ p3 = 0 → ((¬ p3 = 1 → ((¬ p3 = 2 → (vp_in ((40 * p1) + p2) 120 ∧ (post (I6 18 ((40 * p1) + p2).toNatClampNeg) I6))) ∧ (p3 = 2 → (vp_in ((40 * p1) + p2) 120 ∧ (post (I6 17 ((40 * p1) + p2).toNatClampNeg) I6))))) ∧ (p3 = 1 → (vp_in ((40 * p1) + p2) 120 ∧ (post (I6 16 ((40 * p1) + p2).toNatClampNeg) I6))))) ∧ (p3 = 0 → (vp_in ((40 * p1) + p2) 120 ∧ (post (I6 15 ((40 * p1) + p2).toNatClampNeg) I6))))) ∧ (r5 = 0 → (post (-9) I6)))))) ∧ (r3 = 0 → (post (-1) I4)))))))))
def wp_X8_saves (I : St)  (post : Int32 → St → Prop) : Prop := (∃ V1 : Nat → Int32 → Int32 → St → Prop, (∃ n2 : Nat, V1 n2 0 0 I) ∧ ∀ (n2 : Nat) (x3 : Int32) (x4 : Int32) (I5 : St), V1 n2 x3 x4 I5 → ((6 ≤ x4 → (∃ V6 : Nat → Int32 → St → Prop, (∃ n7 : Nat, V6 n7 0 I5) ∧ ∀ (n7 : Nat) (x8 : Int32) (I9 : St), V6 n7 x8 I9 → ((400 ≤ x8 → (post x3 I9)) ∧ (¬ 400 ≤ x8 → (vp_in x8 400 ∧ (vp_in x8 400 ∧ ∀ I10 : St, I10 = st I9 24 x8.toNatClampNeg (vp_nar .boolean (I9 21 x8.toNatClampNeg)) → (∃ n11 : Nat, n11 < n7 ∧ V6 n11 (x8 + 1) I10))))))) ∧ (¬ 6 ≤ x4 → (vp_in x4 6 ∧ (vp_in x4 6 ∧ (vp_in x4 6 ∧ (vp_in x4 6 ∧ ∀ I12 : St, I12 = st I5 22 x4.toNatClampNeg (I5 19 x4.toNatClampNeg) → (vp_in x4 6 ∧ (vp_in x4 6 ∧ ∀ I13 : St, I13 = st I12 23 x4.toNatClampNeg (I12 20 x4.toNatClampNeg) → (∃ n14 : Nat, n14 < n2 ∧ V1 n14 (x3 + ((I5 20 x4.toNatClampNeg) - (I5 23 x4.toNatClampNeg))) (x4 + 1) I13))))))))))
def wp_X8_save (I : St)  (post : Int32 → St → Prop) : Prop := (wp_X8_saves I  (fun r1 I2 => (post r1 I2)))
def wp_X8_toAck (I : St)  (post : Int32 → St → Prop) : Prop := (∃ V1 : Nat → Int32 → St → Prop, (∃ n2 : Nat, V1 n2 0 I) ∧ ∀ (n2 : Nat) (x3 : Int32) (I4 : St), V1 n2 x3 I4 → ((400 ≤ x3 → (post x3 I4)) ∧ (¬ 400 ≤ x3 → (vp_in x3 400 ∧ (((I4 24 x3.toNatClampNeg) = 0 → (post x3 I4)) ∧ (¬ (I4 24 x3.toNatClampNeg) = 0 → (∃ n5 : Nat, n5 < n2 ∧ V1 n5 (x3 + 1) I4)))))))
def wp_X8_acks (I : St) (p1 : Int32) (post : Int32 → St → Prop) : Prop := (wp_X8_toAck I  (fun r1 I2 => ((p1 = 0 → (post r1 I2)) ∧ (¬ p1 = 0 → ((r1 ≤ (I2 13 0) → (post r1 I2)) ∧ (¬ r1 ≤ (I2 13 0) → (∀ I3 : St, I3 = st I2 13 0 r1 → (((I3 13 0) ≤ (I3 12 0) → (∀ I4 : St, I4 = st I3 12 0 (I3 12 0) → (post r1 I4))) ∧ (¬ (I3 13 0) ≤ (I3 12 0) → (∀ I5 : St, I5 = st I3 12 0 (I3 13 0) → (post r1 I5)))))))))))
def wp_X8_ack (I : St) (p1 : Int32) (post : Int32 → St → Prop) : Prop := (wp_X8_acks I p1 (fun r1 I2 => (post r1 I2)))
def wp_X8_flow (I : St) (p1 : Int32) (post : Int32 → St → Prop) : Prop := (wp_X8_in I p1 1 10 (fun r1 I2 => ((¬ r1 = 0 → (∃ V3 : Nat → Int32 → St → Prop, (∃ n4 : Nat, V3 n4 0 I2) ∧ ∀ (n4 : Nat) (x5 : Int32) (I6 : St), V3 n4 x5 I6 → ((p1 ≤ x5 → (post ((I6 31 0) - (I2 31 0)) I6)) ∧ (¬ p1 ≤ x5 → (∃ V7 : Nat → Int32 → St → Prop, (∃ n8 : Nat, V7 n8 0 I6) ∧ ∀ (n8 : Nat) (x9 : Int32) (I10 : St), V7 n8 x9 I10 → ((3 ≤ x9 → (wp_X8_saves I10  (fun r11 I12 => (wp_X8_acks I12 1 (fun r13 I14 => (wp_X8_relays I14 400 (fun r15 I16 => (∃ n17 : Nat, n17 < n4 ∧ V3 n17 (x5 + 1) I16)))))))) ∧ (¬ 3 ≤ x9 → (∃ V18 : Nat → St → Prop, (∃ n19 : Nat, V18 n19 I10) ∧ ∀ (n19 : Nat) (I20 : St), V18 n19 I20 → (vp_in x9 3 ∧ (((I20 14 x9.toNatClampNeg) ≤ 0 → (∃ n21 : Nat, n21 < n8 ∧ V7 n21 (x9 + 1) I20)) ∧ (¬ (I20 14 x9.toNatClampNeg) ≤ 0 → (wp_X8_delivers I20 x9 0 0 (fun r22 I23 => (∃ n24 : Nat, n24 < n19 ∧ V18 n24 I23)))))))))))))) ∧ (r1 = 0 → (post (-1) I2)))))
def wp_X8_whole (I : St)  (post : Int32 → St → Prop) : Prop := (∃ V1 : Nat → Int32 → Int32 → Int32 → St → Prop, (∃ n2 : Nat, V1 n2 1 0 0 I) ∧ ∀ (n2 : Nat) (x3 : Int32) (x4 : Int32) (x5 : Int32) (I6 : St), V1 n2 x3 x4 x5 I6 → (((I6 6 0) ≤ x5 → ((x3 = 0 → (post 0 I6)) ∧ (¬ x3 = 0 → (post 1 I6)))) ∧ (¬ (I6 6 0) ≤ x5 → (vp_in x5 400 ∧ (((I6 11 x5.toNatClampNeg) = 0 → (∃ n7 : Nat, n7 < n2 ∧ V1 n7 x3 x4 (x5 + 1) I6)) ∧ (¬ (I6 11 x5.toNatClampNeg) = 0 → (∃ V8 : Nat → Int32 → Int32 → St → Prop, (∃ n9 : Nat, V8 n9 x3 x4 I6) ∧ ∀ (n9 : Nat) (x10 : Int32) (x11 : Int32) (I12 : St), V8 n9 x10 x11 I12 → ((x5 < x11 → (∃ n13 : Nat, n13 < n2 ∧ V1 n13 x10 (x5 + 1) (x5 + 1) I12)) ∧ (¬ x5 < x11 → ((x10 = 0 → (∃ n14 : Nat, n14 < n9 ∧ V8 n14 0 (x11 + 1) I12)) ∧ (¬ x10 = 0 → (vp_in x11 400 ∧ (vp_in x5 400 ∧ ((¬ (I12 24 x11.toNatClampNeg) = (I12 24 x5.toNatClampNeg) → (∃ n15 : Nat, n15 < n9 ∧ V8 n15 0 (x11 + 1) I12)) ∧ ((I12 24 x11.toNatClampNeg) = (I12 24 x5.toNatClampNeg) → (∃ n16 : Nat, n16 < n9 ∧ V8 n16 1 (x11 + 1) I12))))))))))))))))
def wp_X8_hasPrefix (I : St) (p1 : Int32) (p2 : Int32) (p3 : Int32) (post : Int32 → St → Prop) : Prop := (∃ V1 : Nat → Int32 → Int32 → St → Prop, (∃ n2 : Nat, V1 n2 0 0 I) ∧ ∀ (n2 : Nat) (x3 : Int32) (x4 : Int32) (I5 : St), V1 n2 x3 x4 I5 → (((I5 6 0) ≤ x4 → ((¬ x3 = p3 → (post 0 I5)) ∧ (x3 = p3 → (post 1 I5)))) ∧ (¬ (I5 6 0) ≤ x4 → (vp_in x4 400 ∧ ((¬ (I5 8 x4.toNatClampNeg) = p1 → (∃ n6 : Nat, n6 < n2 ∧ V1 n6 x3 (x4 + 1) I5)) ∧ ((I5 8 x4.toNatClampNeg) = p1 → (vp_in x4 400 ∧ ((¬ (I5 10 x4.toNatClampNeg) = p2 → (∃ n7 : Nat, n7 < n2 ∧ V1 n7 x3 (x4 + 1) I5)) ∧ ((I5 10 x4.toNatClampNeg) = p2 → (vp_in x4 400 ∧ (∃ n8 : Nat, n8 < n2 ∧ V1 n8 (I5 9 x4.toNatClampNeg) (x4 + 1) I5)))))))))))
def wp_X8_prefix (I : St) (p1 : Int32) (post : Int32 → St → Prop) : Prop := (wp_X8_in I p1 0 1 (fun r1 I2 => ((¬ r1 = 0 → (∃ V3 : Nat → Int32 → Int32 → St → Prop, (∃ n4 : Nat, V3 n4 1 0 I2) ∧ ∀ (n4 : Nat) (x5 : Int32) (x6 : Int32) (I7 : St), V3 n4 x5 x6 I7 → ((6 ≤ x6 → ((x5 = 0 → (post 0 I7)) ∧ (¬ x5 = 0 → (post 1 I7)))) ∧ (¬ 6 ≤ x6 → ((x5 = 0 → (∃ n8 : Nat, n8 < n4 ∧ V3 n8 0 (x6 + 1) I7)) ∧ (¬ x5 = 0 → ((¬ p1 = 0 → (vp_in x6 6 ∧ (vp_in x6 6 ∧ (wp_X8_hasPrefix I7 x6 (I7 23 x6.toNatClampNeg) (I7 22 x6.toNatClampNeg) (fun r9 I10 => ((r9 = 0 → (∃ n11 : Nat, n11 < n4 ∧ V3 n11 0 (x6 + 1) I10)) ∧ (¬ r9 = 0 → (∃ n12 : Nat, n12 < n4 ∧ V3 n12 1 (x6 + 1) I10)))))))) ∧ (p1 = 0 → (vp_in x6 6 ∧ (vp_in x6 6 ∧ (wp_X8_hasPrefix I7 x6 (I7 20 x6.toNatClampNeg) (I7 19 x6.toNatClampNeg) (fun r13 I14 => ((r13 = 0 → (∃ n15 : Nat, n15 < n4 ∧ V3 n15 0 (x6 + 1) I14)) ∧ (¬ r13 = 0 → (∃ n16 : Nat, n16 < n4 ∧ V3 n16 1 (x6 + 1) I14))))))))))))))) ∧ (r1 = 0 → (post (-1) I2)))))
def wp_X8_count (I : St) (p1 : Int32) (post : Int32 → St → Prop) : Prop := ((p1 = 0 → (∃ V1 : Nat → Int32 → Int32 → St → Prop, (∃ n2 : Nat, V1 n2 0 0 I) ∧ ∀ (n2 : Nat) (x3 : Int32) (x4 : Int32) (I5 : St), V1 n2 x3 x4 I5 → ((4 ≤ x4 → (post x3 I5)) ∧ (¬ 4 ≤ x4 → (vp_in x4 4 ∧ (((I5 0 x4.toNatClampNeg) = 0 → (∃ n6 : Nat, n6 < n2 ∧ V1 n6 (x3 + 0) (x4 + 1) I5)) ∧ (¬ (I5 0 x4.toNatClampNeg) = 0 → (∃ n7 : Nat, n7 < n2 ∧ V1 n7 (x3 + 1) (x4 + 1) I5)))))))) ∧ ((p1 = 1 → (post (I 5 0) I)) ∧ ((p1 = 2 → (post (I 6 0) I)) ∧ ((p1 = 3 → (post (I 12 0) I)) ∧ ((p1 = 4 → (post (I 13 0) I)) ∧ ((p1 = 5 → (post (I 7 0) I)) ∧ ((p1 = 6 → (vp_in 0 3 ∧ (vp_in 1 3 ∧ (vp_in 2 3 ∧ (post (((I 14 (0 : Int32).toNatClampNeg) + (I 14 (1 : Int32).toNatClampNeg)) + (I 14 (2 : Int32).toNatClampNeg)) I))))) ∧ ((p1 = 7 → (post (I 30 0) I)) ∧ ((p1 = 8 → (post (I 31 0) I)) ∧ ((p1 = 9 → (post (I 32 0) I)) ∧ ((p1 = 10 → (post (I 25 0) I)) ∧ ((p1 = 11 → (post (I 33 0) I)) ∧ ((p1 = 12 → (post (I 34 0) I)) ∧ ((p1 = 13 → (wp_X8_toAck I  (fun r8 I9 => (post r8 I9)))) ∧ ((¬ p1 = 0 ∧ ¬ p1 = 1 ∧ ¬ p1 = 2 ∧ ¬ p1 = 3 ∧ ¬ p1 = 4 ∧ ¬ p1 = 5 ∧ ¬ p1 = 6 ∧ ¬ p1 = 7 ∧ ¬ p1 = 8 ∧ ¬ p1 = 9 ∧ ¬ p1 = 10 ∧ ¬ p1 = 11 ∧ ¬ p1 = 12 ∧ ¬ p1 = 13) → (post (-1) I))))))))))))))))
end
section
abbrev rmX8_in : Room := { frames := 0, cells := 0, slots := 0, locals := 0 }
set_option maxHeartbeats 4000000 in
set_option maxRecDepth 100000 in
theorem g_X8_in (l : Launch) (dC : Nat → ClassId) (dI : Nat → Nat → Nat) (cy : Nat → ClassId) (ad : Nat → Nat) (A : Nat → Prop) (I : St) (p1 : Int32) (p2 : Int32) (p3 : Int32) {post : Int32 → St → Prop} (hD : va_D A (rW ad cy I)) (h : wp_X8_in I p1 p2 p3 post) {Qc : Array Value → State → Outcome → State → Prop} (hQ : ∀ (a : Array Value) (s0 t : State) (r : Int32) (I' : St), post r I' → wPost (dC, dI) A (rW ad cy I') t → va_F A s0 t → Qc a s0 (.returned (some (.int r))) t) : Met l yX8_in wsX8_in rmX8_in (va_Pc [.int p1, .int p2, .int p3] (wPre (dC, dI) cy A (rW ad cy I))) Qc 0 0 A := by
  refine Met.ofW (cc := cX8_in) (maxL := 3) (ret := (some .boolean)) (by decide) rfl ?_
  intro p e s m args below meth c s₁ B hml hv
  obtain ⟨rfl, hP, hK, hN, hA⟩ := hv
  have hx := B.exec
  have hb := B.bytes
  have hr := B.returns
  have hts := atoms_spec (ws := wsX8_in) B.pre
  have hown : s.vm.findClass RX8 = some m.cls := findClass_of_methodNamed B.named
  have hlocks := B.notSynchronized
  have hS : va_S A s.heap s.heap [] := va_S.rf
  unfold wp_X8_in at h
  have hl := lv_entry ([.int p1, .int p2, .int p3]) (n := 3) (Nat.le_of_ble_eq_true rfl)
  rw [lg_entry_eq]
  generalize (lg_sl ([.int p1, .int p2, .int p3]) ++ List.replicate (3 - (lg_sl ([.int p1, .int p2, .int p3])).length) Slot.unset).toArray = ls at hl ⊢
  have hl : lv_has ls 3 [(0, .int p1), (1, .int p2), (2, .int p3)] := hl
  refine lv_iload_n hx hb dX8_in_0 rfl (lv_at hl 0 rfl) ?_
  refine lv_iload_n hx hb dX8_in_1 rfl (lv_at hl 1 rfl) ?_
  refine lv_icmp_lt (tgt := 14) hx hb dX8_in_2 (by decide) (fun c => ?_) (fun c => ?_)
  · have h := h.1 c
    refine lv_iconst (v := 0) hx hb dX8_in_14 (by decide) ?_
    exact W.zret (v := 0) (ty := .boolean) hx hb hr rfl (fun t ht hW => hQ _ _ t 0 I h ⟨by rw [ht]; exact hP, hD⟩ (hS.F ht)) hS.2.2 dX8_in_15
  · have h := h.2 c
    refine lv_iload_n hx hb dX8_in_5 rfl (lv_at hl 0 rfl) ?_
    refine lv_iload_n hx hb dX8_in_6 rfl (lv_at hl 2 rfl) ?_
    refine lv_icmp_gt (tgt := 14) hx hb dX8_in_7 (by decide) (fun c => ?_) (fun c => ?_)
    · have h := h.1 c
      refine lv_iconst (v := 0) hx hb dX8_in_14 (by decide) ?_
      exact W.zret (v := 0) (ty := .boolean) hx hb hr rfl (fun t ht hW => hQ _ _ t 0 I h ⟨by rw [ht]; exact hP, hD⟩ (hS.F ht)) hS.2.2 dX8_in_15
    · have h := h.2 c
      refine lv_iconst (v := 1) hx hb dX8_in_10 (by decide) ?_
      refine lv_goto (tgt := 15) hx hb dX8_in_11 (by decide) ?_
      exact W.zret (v := 1) (ty := .boolean) hx hb hr rfl (fun t ht hW => hQ _ _ t 1 I h ⟨by rw [ht]; exact hP, hD⟩ (hS.F ht)) hS.2.2 dX8_in_15
theorem m_X8_in (l : Launch) (dC : Nat → ClassId) (dI : Nat → Nat → Nat) (cy : Nat → ClassId) (ad : Nat → Nat) (A : Nat → Prop) (I : St) (p1 : Int32) (p2 : Int32) (p3 : Int32) {post : Int32 → St → Prop} (hD : va_D A (rW ad cy I)) (h : wp_X8_in I p1 p2 p3 post) : Met l yX8_in wsX8_in rmX8_in (va_Pc [.int p1, .int p2, .int p3] (wPre (dC, dI) cy A (rW ad cy I))) (va_Qi (fun r (u : St) => post r u) (fun (u : St) t => wPost (dC, dI) A (rW ad cy u) t) A) 0 0 A := g_X8_in l dC dI cy ad A I p1 p2 p3 hD h (fun a s0 t r I' h1 h2 h3 => ⟨⟨r, I', rfl, h1, h2⟩, h3⟩)
abbrev rmX8_isTransaction : Room := { frames := 1, cells := 0, slots := 0, locals := 22 }
set_option maxHeartbeats 4000000 in
set_option maxRecDepth 100000 in
theorem g_X8_isTransaction (l : Launch) (dC : Nat → ClassId) (dI : Nat → Nat → Nat) (cy : Nat → ClassId) (ad : Nat → Nat) (A : Nat → Prop) (I : St) (p1 : Int32) {post : Int32 → St → Prop} (hD : va_D A (rW ad cy I)) (h : wp_X8_isTransaction I p1 post) {Qc : Array Value → State → Outcome → State → Prop} (hQ : ∀ (a : Array Value) (s0 t : State) (r : Int32) (I' : St), post r I' → wPost (dC, dI) A (rW ad cy I') t → va_F A s0 t → Qc a s0 (.returned (some (.int r))) t) : Met l yX8_isTransaction wsX8_isTransaction rmX8_isTransaction (va_Pc [.ref (ad 40), .int p1] (wPre (dC, dI) cy A (rW ad cy I))) Qc 0 0 A := by
  refine Met.ofW (cc := cX8_isTransaction) (maxL := 2) (ret := (some .boolean)) (by decide) rfl ?_
  intro p e s m args below meth c s₁ B hml hv
  obtain ⟨rfl, hP, hK, hN, hA⟩ := hv
  have hx := B.exec
  have hb := B.bytes
  have hr := B.returns
  have hts := atoms_spec (ws := wsX8_isTransaction) B.pre
  have hown : s.vm.findClass RX8 = some m.cls := findClass_of_methodNamed B.named
  have hlocks := B.notSynchronized
  have hinX8 : ∀ w ∈ wsX80, w ∈ wsX8_isTransaction := fun _ h9 => List.mem_cons_of_mem _ (List.mem_append_right _ h9)
  have hS : va_S A s.heap s.heap [] := va_S.rf
  unfold wp_X8_isTransaction at h
  have hl := lv_entry ([.ref (ad 40), .int p1]) (n := 2) (Nat.le_of_ble_eq_true rfl)
  rw [lg_entry_eq]
  generalize (lg_sl ([.ref (ad 40), .int p1]) ++ List.replicate (2 - (lg_sl ([.ref (ad 40), .int p1])).length) Slot.unset).toArray = ls at hl ⊢
  have hl : lv_has ls 2 [(0, .ref (ad 40)), (1, .int p1)] := hl
  refine lv_iload_n hx hb dX8_isTransaction_0 rfl (lv_at hl 1 rfl) ?_
  refine lv_iconst (v := 0) hx hb dX8_isTransaction_1 (by decide) ?_
  refine lv_iconst (v := 3) hx hb dX8_isTransaction_2 (by decide) ?_
  refine va_calli (va_runS (As := [.int p1, .int 0, .int 3]) (rest := []) ⟨hx, hb, hml, hown, hts⟩ (m_X8_in l dC dI cy ad A I p1 0 3 hD h) (va_cwS 3 hts gX8_isTransaction_X8_in rfl rfl rfl (by decide +kernel) ⟨Nat.le_of_ble_eq_true rfl, Nat.le_of_ble_eq_true rfl⟩) ⟨wPre.blind, wPre.at hP hK hN hS hA⟩ rfl rfl hl.1 rfl (lv_room (Nat.le_of_ble_eq_true rfl)) dX8_isTransaction_3 ⟨by first | exact Nat.le_of_ble_eq_true rfl | omega, by first | exact Nat.le_of_ble_eq_true rfl | omega⟩) hS (fun q _ h => h) (fun q h => h) (fun r1 u t H locs ht hvm hw hB hz1 hk1 hS => ?_)
  obtain ⟨I2, rfl⟩ : ∃ z : St, z = u := ⟨_, rfl⟩
  obtain ⟨hP, hD⟩ := hB; rw [ht] at hP; replace h := hw; try dsimp only at h hP hD
  refine lv_if_eq (tgt := 22) hx hb dX8_isTransaction_6 (by decide) (fun c => ?_) (fun c => ?_)
  · have h := h.1 c
    refine lv_iconst (v := 0) hx hb dX8_isTransaction_22 (by decide) ?_
    exact W.zret (v := 0) (ty := .boolean) hx hb hr rfl (fun t ht hW => hQ _ _ t 0 I2 h ⟨by rw [ht]; exact hP, hD⟩ (hS.F ht)) hS.2.2 dX8_isTransaction_23
  · have h := h.2 c
    refine lv_aload_n hx hb dX8_isTransaction_9 rfl (lv_at hl 0 rfl) ?_
    refine va_get (D := (dC, dI)) (ci := 8) (v := .ref (ad 0)) (C := RX8) (T := TX8) (N := 35) hx hb hts hinX8 hown hK hP 0 rG_o rfl 0 (by decide) (hts (.fieldLink RX8 7 "OutboxHouseModel" "isOpen" "[Z") (by decide +kernel)) (fun _ h9 => h9) rfl dX8_isTransaction_10 ?_
    refine lv_iload_n hx hb dX8_isTransaction_13 rfl (lv_at hl 1 rfl) ?_
    have hv := h.1; replace h := h.2
    refine va_zald hx hb hK hP 1 1 rG_0 rfl hv dX8_isTransaction_14 ?_
    refine lv_if_eq (tgt := 22) hx hb dX8_isTransaction_15 (by decide) (fun c => ?_) (fun c => ?_)
    · have h := h.1 c
      refine lv_iconst (v := 0) hx hb dX8_isTransaction_22 (by decide) ?_
      exact W.zret (v := 0) (ty := .boolean) hx hb hr rfl (fun t ht hW => hQ _ _ t 0 I2 h ⟨by rw [ht]; exact hP, hD⟩ (hS.F ht)) hS.2.2 dX8_isTransaction_23
    · have h := h.2 c
      refine lv_iconst (v := 1) hx hb dX8_isTransaction_18 (by decide) ?_
      refine lv_goto (tgt := 23) hx hb dX8_isTransaction_19 (by decide) ?_
      exact W.zret (v := 1) (ty := .boolean) hx hb hr rfl (fun t ht hW => hQ _ _ t 1 I2 h ⟨by rw [ht]; exact hP, hD⟩ (hS.F ht)) hS.2.2 dX8_isTransaction_23
theorem m_X8_isTransaction (l : Launch) (dC : Nat → ClassId) (dI : Nat → Nat → Nat) (cy : Nat → ClassId) (ad : Nat → Nat) (A : Nat → Prop) (I : St) (p1 : Int32) {post : Int32 → St → Prop} (hD : va_D A (rW ad cy I)) (h : wp_X8_isTransaction I p1 post) : Met l yX8_isTransaction wsX8_isTransaction rmX8_isTransaction (va_Pc [.ref (ad 40), .int p1] (wPre (dC, dI) cy A (rW ad cy I))) (va_Qi (fun r (u : St) => post r u) (fun (u : St) t => wPost (dC, dI) A (rW ad cy u) t) A) 0 0 A := g_X8_isTransaction l dC dI cy ad A I p1 hD h (fun a s0 t r I' h1 h2 h3 => ⟨⟨r, I', rfl, h1, h2⟩, h3⟩)
abbrev rmX8_isKey : Room := { frames := 1, cells := 0, slots := 0, locals := 22 }
set_option maxHeartbeats 4000000 in
set_option maxRecDepth 100000 in
theorem g_X8_isKey (l : Launch) (dC : Nat → ClassId) (dI : Nat → Nat → Nat) (cy : Nat → ClassId) (ad : Nat → Nat) (A : Nat → Prop) (I : St) (p1 : Int32) {post : Int32 → St → Prop} (hD : va_D A (rW ad cy I)) (h : wp_X8_isKey I p1 post) {Qc : Array Value → State → Outcome → State → Prop} (hQ : ∀ (a : Array Value) (s0 t : State) (r : Int32) (I' : St), post r I' → wPost (dC, dI) A (rW ad cy I') t → va_F A s0 t → Qc a s0 (.returned (some (.int r))) t) : Met l yX8_isKey wsX8_isKey rmX8_isKey (va_Pc [.int p1] (wPre (dC, dI) cy A (rW ad cy I))) Qc 0 0 A := by
  refine Met.ofW (cc := cX8_isKey) (maxL := 1) (ret := (some .boolean)) (by decide) rfl ?_
  intro p e s m args below meth c s₁ B hml hv
  obtain ⟨rfl, hP, hK, hN, hA⟩ := hv
  have hx := B.exec
  have hb := B.bytes
  have hr := B.returns
  have hts := atoms_spec (ws := wsX8_isKey) B.pre
  have hown : s.vm.findClass RX8 = some m.cls := findClass_of_methodNamed B.named
  have hlocks := B.notSynchronized
  have hS : va_S A s.heap s.heap [] := va_S.rf
  unfold wp_X8_isKey at h
  have hl := lv_entry ([.int p1]) (n := 1) (Nat.le_of_ble_eq_true rfl)
  rw [lg_entry_eq]
  generalize (lg_sl ([.int p1]) ++ List.replicate (1 - (lg_sl ([.int p1])).length) Slot.unset).toArray = ls at hl ⊢
  have hl : lv_has ls 1 [(0, .int p1)] := hl
  refine lv_iload_n hx hb dX8_isKey_0 rfl (lv_at hl 0 rfl) ?_
  refine lv_iconst (v := 0) hx hb dX8_isKey_1 (by decide) ?_
  refine lv_iconst (v := 5) hx hb dX8_isKey_2 (by decide) ?_
  refine va_calli (va_runS (As := [.int p1, .int 0, .int 5]) (rest := []) ⟨hx, hb, hml, hown, hts⟩ (m_X8_in l dC dI cy ad A I p1 0 5 hD h) (va_cwS 3 hts gX8_isKey_X8_in rfl rfl rfl (by decide +kernel) ⟨Nat.le_of_ble_eq_true rfl, Nat.le_of_ble_eq_true rfl⟩) ⟨wPre.blind, wPre.at hP hK hN hS hA⟩ rfl rfl hl.1 rfl (lv_room (Nat.le_of_ble_eq_true rfl)) dX8_isKey_3 ⟨by first | exact Nat.le_of_ble_eq_true rfl | omega, by first | exact Nat.le_of_ble_eq_true rfl | omega⟩) hS (fun q _ h => h) (fun q h => h) (fun r1 u t H locs ht hvm hw hB hz1 hk1 hS => ?_)
  obtain ⟨I2, rfl⟩ : ∃ z : St, z = u := ⟨_, rfl⟩
  obtain ⟨hP, hD⟩ := hB; rw [ht] at hP; replace h := hw; try dsimp only at h hP hD
  exact W.zret (v := r1) (ty := .boolean) hx hb hr h.1 (fun t ht hW => hQ _ _ t r1 I2 h.2 ⟨by rw [ht]; exact hP, hD⟩ (hS.F ht)) hS.2.2 dX8_isKey_6
theorem m_X8_isKey (l : Launch) (dC : Nat → ClassId) (dI : Nat → Nat → Nat) (cy : Nat → ClassId) (ad : Nat → Nat) (A : Nat → Prop) (I : St) (p1 : Int32) {post : Int32 → St → Prop} (hD : va_D A (rW ad cy I)) (h : wp_X8_isKey I p1 post) : Met l yX8_isKey wsX8_isKey rmX8_isKey (va_Pc [.int p1] (wPre (dC, dI) cy A (rW ad cy I))) (va_Qi (fun r (u : St) => post r u) (fun (u : St) t => wPost (dC, dI) A (rW ad cy u) t) A) 0 0 A := g_X8_isKey l dC dI cy ad A I p1 hD h (fun a s0 t r I' h1 h2 h3 => ⟨⟨r, I', rfl, h1, h2⟩, h3⟩)
abbrev rmX8_clears : Room := { frames := 0, cells := 0, slots := 0, locals := 0 }
set_option maxHeartbeats 4000000 in
set_option maxRecDepth 100000 in
theorem g_X8_clears (l : Launch) (dC : Nat → ClassId) (dI : Nat → Nat → Nat) (cy : Nat → ClassId) (ad : Nat → Nat) (A : Nat → Prop) (I : St) (p1 : Int32) {post : St → Prop} (hD : va_D A (rW ad cy I)) (h : wp_X8_clears I p1 post) {Qc : Array Value → State → Outcome → State → Prop} (hQ : ∀ (a : Array Value) (s0 t : State) (I' : St), post I' → wPost (dC, dI) A (rW ad cy I') t → va_F A s0 t → Qc a s0 (.returned (none)) t) : Met l yX8_clears wsX8_clears rmX8_clears (va_Pc [.ref (ad 40), .int p1] (wPre (dC, dI) cy A (rW ad cy I))) Qc 0 0 A := by
  refine Met.ofW (cc := cX8_clears) (maxL := 3) (ret := none) (by decide) rfl ?_
  intro p e s m args below meth c s₁ B hml hv
  obtain ⟨rfl, hP, hK, hN, hA⟩ := hv
  have hx := B.exec
  have hb := B.bytes
  have hr := B.returns
  have hts := atoms_spec (ws := wsX8_clears) B.pre
  have hown : s.vm.findClass RX8 = some m.cls := findClass_of_methodNamed B.named
  have hlocks := B.notSynchronized
  have hinX8 : ∀ w ∈ wsX80, w ∈ wsX8_clears := fun _ h9 => List.mem_cons_of_mem _ (List.mem_append_right _ h9)
  have hS : va_S A s.heap s.heap [] := va_S.rf
  unfold wp_X8_clears at h
  have hl := lv_entry ([.ref (ad 40), .int p1]) (n := 3) (Nat.le_of_ble_eq_true rfl)
  rw [lg_entry_eq]
  generalize (lg_sl ([.ref (ad 40), .int p1]) ++ List.replicate (3 - (lg_sl ([.ref (ad 40), .int p1])).length) Slot.unset).toArray = ls at hl ⊢
  have hl : lv_has ls 3 [(0, .ref (ad 40)), (1, .int p1)] := hl
  refine lv_iconst (v := 0) hx hb dX8_clears_0 (by decide) ?_
  refine lv_istore_n (lv' := [(2, .int 0), (0, .ref (ad 40)), (1, .int p1)]) hx hb dX8_clears_1 rfl hl (by decide) rfl (fun ls hl => ?_)
  obtain ⟨V1, ⟨n20, hV0⟩, hstepn2⟩ := h
  have hlpn2 : ∀ (n2 : Nat) (x3 : Int32) (I4 : St) (H : Heap) (locs : List Loc), va_P (dC, dI) vwCl (rW ad cy I4) H → va_D A (rW ad cy I4) → va_S A s.heap H locs → ∀ ls : Array Slot, lv_has ls 3 [(0, .ref (ad 40)), (1, .int p1), (2, .int x3)] → V1 n2 x3 I4 → W p l e (headSpec wsX8_clears rmX8_clears).room s m ([.ref (ad 40), .int p1] : List Value).toArray below meth c H locs 0 0 (MQ below Qc ([.ref (ad 40), .int p1] : List Value).toArray s 0 0 A) (F0 m 2 ls []) := by
    intro n2
    induction n2 using Nat.strongRecOn with
    | _ n2 ihn2 =>
      intro x3 I4 H locs hP hD hS ls hl hV
      have h := hstepn2 n2 x3 I4 hV
      refine lv_iload_n hx hb dX8_clears_2 rfl (lv_at hl 2 rfl) ?_
      refine lv_bipush (v := 6) hx hb dX8_clears_3 (by decide) ?_
      refine lv_icmp_ge (tgt := 26) hx hb dX8_clears_5 (by decide) (fun c => ?_) (fun c => ?_)
      · have h := h.1 c
        exact W.vret hx hb hr (fun t ht hW => hQ _ _ t I4 h ⟨by rw [ht]; exact hP, hD⟩ (hS.F ht)) hS.2.2 dX8_clears_26
      · have h := h.2 c
        refine lv_aload_n hx hb dX8_clears_8 rfl (lv_at hl 0 rfl) ?_
        refine va_get (D := (dC, dI)) (ci := 8) (v := .ref (ad 1)) (C := RX8) (T := TX8) (N := 35) hx hb hts hinX8 hown hK hP 0 rG_o rfl 1 (by decide) (hts (.fieldLink RX8 13 "OutboxHouseModel" "wrote" "[Z") (by decide +kernel)) (fun _ h9 => h9) rfl dX8_clears_9 ?_
        refine lv_bipush (v := 6) hx hb dX8_clears_12 (by decide) ?_
        refine lv_iload_n hx hb dX8_clears_14 rfl (lv_at hl 1 rfl) ?_
        refine lv_imul hx hb dX8_clears_15 ?_
        refine lv_iload_n hx hb dX8_clears_16 rfl (lv_at hl 2 rfl) ?_
        refine lv_iadd hx hb dX8_clears_17 ?_
        refine lv_iconst (v := 0) hx hb dX8_clears_18 (by decide) ?_
        have hv := h.1; replace h := h.2
        refine va_zast hx hb hK hP hD hS 2 1 rG_1 rfl hv dX8_clears_19 (fun H locs hP hD hS => ?_)
        obtain ⟨I5, hI5⟩ : ∃ z : St, z = st I4 1 ((6 * p1) + x3).toNatClampNeg (vp_nar .boolean 0) := ⟨_, rfl⟩
        replace hP := wP (rE_1 hI5) hP; replace hD := wD (rE_1 hI5) hD; replace h := h _ hI5
        refine lv_iinc (v := x3 + 1) (lv' := [(2, .int (x3 + 1)), (0, .ref (ad 40)), (1, .int p1)]) hx hb dX8_clears_20 hl (k := 2) rfl rfl (by decide) rfl (fun ls hl => ?_)
        refine lv_goto (tgt := 2) hx hb dX8_clears_23 (by decide) ?_
        obtain ⟨n6, hlt, hV⟩ := h
        exact ihn2 n6 hlt _ _ _ _ hP hD hS ls (lv_sub hl [1, 2, 0] rfl) hV
  exact hlpn2 n20 _ _ _ _ hP hD hS ls (lv_sub hl [1, 2, 0] rfl) hV0
theorem m_X8_clears (l : Launch) (dC : Nat → ClassId) (dI : Nat → Nat → Nat) (cy : Nat → ClassId) (ad : Nat → Nat) (A : Nat → Prop) (I : St) (p1 : Int32) {post : St → Prop} (hD : va_D A (rW ad cy I)) (h : wp_X8_clears I p1 post) : Met l yX8_clears wsX8_clears rmX8_clears (va_Pc [.ref (ad 40), .int p1] (wPre (dC, dI) cy A (rW ad cy I))) (va_Qv (fun (u : St) => post u) (fun (u : St) t => wPost (dC, dI) A (rW ad cy u) t) A) 0 0 A := g_X8_clears l dC dI cy ad A I p1 hD h (fun a s0 t I' h1 h2 h3 => ⟨⟨I', rfl, h1, h2⟩, h3⟩)
abbrev rmX8_begin : Room := { frames := 1, cells := 0, slots := 0, locals := 22 }
set_option maxHeartbeats 4000000 in
set_option maxRecDepth 100000 in
theorem g_X8_begin (l : Launch) (dC : Nat → ClassId) (dI : Nat → Nat → Nat) (cy : Nat → ClassId) (ad : Nat → Nat) (A : Nat → Prop) (I : St)  {post : Int32 → St → Prop} (hD : va_D A (rW ad cy I)) (h : wp_X8_begin I  post) {Qc : Array Value → State → Outcome → State → Prop} (hQ : ∀ (a : Array Value) (s0 t : State) (r : Int32) (I' : St), post r I' → wPost (dC, dI) A (rW ad cy I') t → va_F A s0 t → Qc a s0 (.returned (some (.int r))) t) : Met l yX8_begin wsX8_begin rmX8_begin (va_Pc [.ref (ad 40)] (wPre (dC, dI) cy A (rW ad cy I))) Qc 0 0 A := by
  refine Met.ofW (cc := cX8_begin) (maxL := 2) (ret := (some .int)) (by decide) rfl ?_
  intro p e s m args below meth c s₁ B hml hv
  obtain ⟨rfl, hP, hK, hN, hA⟩ := hv
  have hx := B.exec
  have hb := B.bytes
  have hr := B.returns
  have hts := atoms_spec (ws := wsX8_begin) B.pre
  have hown : s.vm.findClass RX8 = some m.cls := findClass_of_methodNamed B.named
  have hlocks := B.notSynchronized
  have hinX8 : ∀ w ∈ wsX80, w ∈ wsX8_begin := fun _ h9 => List.mem_cons_of_mem _ (List.mem_append_right _ h9)
  have hS : va_S A s.heap s.heap [] := va_S.rf
  unfold wp_X8_begin at h
  have hl := lv_entry ([.ref (ad 40)]) (n := 2) (Nat.le_of_ble_eq_true rfl)
  rw [lg_entry_eq]
  generalize (lg_sl ([.ref (ad 40)]) ++ List.replicate (2 - (lg_sl ([.ref (ad 40)])).length) Slot.unset).toArray = ls at hl ⊢
  have hl : lv_has ls 2 [(0, .ref (ad 40))] := hl
  refine lv_iconst (v := 0) hx hb dX8_begin_0 (by decide) ?_
  refine lv_istore_n (lv' := [(1, .int 0), (0, .ref (ad 40))]) hx hb dX8_begin_1 rfl hl (by decide) rfl (fun ls hl => ?_)
  obtain ⟨V1, ⟨n20, hV0⟩, hstepn2⟩ := h
  have hlpn2 : ∀ (n2 : Nat) (x3 : Int32) (I4 : St) (H : Heap) (locs : List Loc), va_P (dC, dI) vwCl (rW ad cy I4) H → va_D A (rW ad cy I4) → va_S A s.heap H locs → ∀ ls : Array Slot, lv_has ls 2 [(0, .ref (ad 40)), (1, .int x3)] → V1 n2 x3 I4 → W p l e (headSpec wsX8_begin rmX8_begin).room s m ([.ref (ad 40)] : List Value).toArray below meth c H locs 0 0 (MQ below Qc ([.ref (ad 40)] : List Value).toArray s 0 0 A) (F0 m 2 ls []) := by
    intro n2
    induction n2 using Nat.strongRecOn with
    | _ n2 ihn2 =>
      intro x3 I4 H locs hP hD hS ls hl hV
      have h := hstepn2 n2 x3 I4 hV
      refine lv_iload_n hx hb dX8_begin_2 rfl (lv_at hl 1 rfl) ?_
      refine lv_iconst (v := 4) hx hb dX8_begin_3 (by decide) ?_
      refine lv_icmp_ge (tgt := 36) hx hb dX8_begin_4 (by decide) (fun c => ?_) (fun c => ?_)
      · have h := h.1 c
        refine lv_bipush (v := (-3)) hx hb dX8_begin_36 (by decide) ?_
        exact W.iret (v := (-3)) hx hb hr (fun t ht hW => hQ _ _ t (-3) I4 h ⟨by rw [ht]; exact hP, hD⟩ (hS.F ht)) hS.2.2 dX8_begin_38
      · have h := h.2 c
        refine lv_aload_n hx hb dX8_begin_7 rfl (lv_at hl 0 rfl) ?_
        refine va_get (D := (dC, dI)) (ci := 8) (v := .ref (ad 0)) (C := RX8) (T := TX8) (N := 35) hx hb hts hinX8 hown hK hP 0 rG_o rfl 0 (by decide) (hts (.fieldLink RX8 7 "OutboxHouseModel" "isOpen" "[Z") (by decide +kernel)) (fun _ h9 => h9) rfl dX8_begin_8 ?_
        refine lv_iload_n hx hb dX8_begin_11 rfl (lv_at hl 1 rfl) ?_
        have hv := h.1; replace h := h.2
        refine va_zald hx hb hK hP 1 1 rG_0 rfl hv dX8_begin_12 ?_
        refine lv_if_ne (tgt := 30) hx hb dX8_begin_13 (by decide) (fun c => ?_) (fun c => ?_)
        · have h := h.1 c
          refine lv_iinc (v := x3 + 1) (lv' := [(1, .int (x3 + 1)), (0, .ref (ad 40))]) hx hb dX8_begin_30 hl (k := 1) rfl rfl (by decide) rfl (fun ls hl => ?_)
          refine lv_goto (tgt := 2) hx hb dX8_begin_33 (by decide) ?_
          obtain ⟨n5, hlt, hV⟩ := h
          exact ihn2 n5 hlt _ _ _ _ hP hD hS ls (lv_sub hl [1, 0] rfl) hV
        · have h := h.2 c
          refine lv_aload_n hx hb dX8_begin_16 rfl (lv_at hl 0 rfl) ?_
          refine va_get (D := (dC, dI)) (ci := 8) (v := .ref (ad 0)) (C := RX8) (T := TX8) (N := 35) hx hb hts hinX8 hown hK hP 0 rG_o rfl 0 (by decide) (hts (.fieldLink RX8 7 "OutboxHouseModel" "isOpen" "[Z") (by decide +kernel)) (fun _ h9 => h9) rfl dX8_begin_17 ?_
          refine lv_iload_n hx hb dX8_begin_20 rfl (lv_at hl 1 rfl) ?_
          refine lv_iconst (v := 1) hx hb dX8_begin_21 (by decide) ?_
          have hv := h.1; replace h := h.2
          refine va_zast hx hb hK hP hD hS 1 1 rG_0 rfl hv dX8_begin_22 (fun H locs hP hD hS => ?_)
          obtain ⟨I6, hI6⟩ : ∃ z : St, z = st I4 0 x3.toNatClampNeg (vp_nar .boolean 1) := ⟨_, rfl⟩
          replace hP := wP (rE_0 hI6) hP; replace hD := wD (rE_0 hI6) hD; replace h := h _ hI6
          refine lv_aload_n hx hb dX8_begin_23 rfl (lv_at hl 0 rfl) ?_
          refine lv_iload_n hx hb dX8_begin_24 rfl (lv_at hl 1 rfl) ?_
          refine va_callv (va_runV (As := [.int x3]) (rest := []) ⟨hx, hb, hml, hown, hts⟩ (m_X8_clears l dC dI cy ad A I6 x3 hD h) (cwV 1 hts gX8_begin_X8_clears rfl rfl rfl (by decide +kernel) ⟨Nat.le_of_ble_eq_true rfl, Nat.le_of_ble_eq_true rfl⟩) ⟨wPre.blind, va_recv hK hP (ci := 8) (q0 := 0) rfl rG_o, wPre.at hP hK hN hS hA⟩ rfl rfl hl.1 rfl (lv_room (Nat.le_of_ble_eq_true rfl)) dX8_begin_25 ⟨by first | exact Nat.le_of_ble_eq_true rfl | omega, by first | exact Nat.le_of_ble_eq_true rfl | omega⟩) hS (fun q _ h => h) (fun q h => h) (fun u t H locs ht hvm hw hB hz1 hk1 hS => ?_)
          obtain ⟨I8, rfl⟩ : ∃ z : St, z = u := ⟨_, rfl⟩
          obtain ⟨hP, hD⟩ := hB; rw [ht] at hP; replace h := hw; try dsimp only at h hP hD
          refine lv_iload_n hx hb dX8_begin_28 rfl (lv_at hl 1 rfl) ?_
          exact W.iret (v := x3) hx hb hr (fun t ht hW => hQ _ _ t x3 I8 h ⟨by rw [ht]; exact hP, hD⟩ (hS.F ht)) hS.2.2 dX8_begin_29
  exact hlpn2 n20 _ _ _ _ hP hD hS ls (lv_sub hl [1, 0] rfl) hV0
theorem m_X8_begin (l : Launch) (dC : Nat → ClassId) (dI : Nat → Nat → Nat) (cy : Nat → ClassId) (ad : Nat → Nat) (A : Nat → Prop) (I : St)  {post : Int32 → St → Prop} (hD : va_D A (rW ad cy I)) (h : wp_X8_begin I  post) : Met l yX8_begin wsX8_begin rmX8_begin (va_Pc [.ref (ad 40)] (wPre (dC, dI) cy A (rW ad cy I))) (va_Qi (fun r (u : St) => post r u) (fun (u : St) t => wPost (dC, dI) A (rW ad cy u) t) A) 0 0 A := g_X8_begin l dC dI cy ad A I  hD h (fun a s0 t r I' h1 h2 h3 => ⟨⟨r, I', rfl, h1, h2⟩, h3⟩)
abbrev rmX8_isUnderWay : Room := { frames := 0, cells := 0, slots := 0, locals := 0 }
set_option maxHeartbeats 4000000 in
set_option maxRecDepth 100000 in
theorem g_X8_isUnderWay (l : Launch) (dC : Nat → ClassId) (dI : Nat → Nat → Nat) (cy : Nat → ClassId) (ad : Nat → Nat) (A : Nat → Prop) (I : St) (p1 : Int32) {post : Int32 → St → Prop} (hD : va_D A (rW ad cy I)) (h : wp_X8_isUnderWay I p1 post) {Qc : Array Value → State → Outcome → State → Prop} (hQ : ∀ (a : Array Value) (s0 t : State) (r : Int32) (I' : St), post r I' → wPost (dC, dI) A (rW ad cy I') t → va_F A s0 t → Qc a s0 (.returned (some (.int r))) t) : Met l yX8_isUnderWay wsX8_isUnderWay rmX8_isUnderWay (va_Pc [.ref (ad 40), .int p1] (wPre (dC, dI) cy A (rW ad cy I))) Qc 0 0 A := by
  refine Met.ofW (cc := cX8_isUnderWay) (maxL := 4) (ret := (some .boolean)) (by decide) rfl ?_
  intro p e s m args below meth c s₁ B hml hv
  obtain ⟨rfl, hP, hK, hN, hA⟩ := hv
  have hx := B.exec
  have hb := B.bytes
  have hr := B.returns
  have hts := atoms_spec (ws := wsX8_isUnderWay) B.pre
  have hown : s.vm.findClass RX8 = some m.cls := findClass_of_methodNamed B.named
  have hlocks := B.notSynchronized
  have hinX8 : ∀ w ∈ wsX80, w ∈ wsX8_isUnderWay := fun _ h9 => List.mem_cons_of_mem _ (List.mem_append_right _ h9)
  have hS : va_S A s.heap s.heap [] := va_S.rf
  unfold wp_X8_isUnderWay at h
  have hl := lv_entry ([.ref (ad 40), .int p1]) (n := 4) (Nat.le_of_ble_eq_true rfl)
  rw [lg_entry_eq]
  generalize (lg_sl ([.ref (ad 40), .int p1]) ++ List.replicate (4 - (lg_sl ([.ref (ad 40), .int p1])).length) Slot.unset).toArray = ls at hl ⊢
  have hl : lv_has ls 4 [(0, .ref (ad 40)), (1, .int p1)] := hl
  refine lv_iconst (v := 0) hx hb dX8_isUnderWay_0 (by decide) ?_
  refine lv_istore_n (lv' := [(2, .int 0), (0, .ref (ad 40)), (1, .int p1)]) hx hb dX8_isUnderWay_1 rfl hl (by decide) rfl (fun ls hl => ?_)
  refine lv_aload_n hx hb dX8_isUnderWay_2 rfl (lv_at hl 1 rfl) ?_
  refine va_get (D := (dC, dI)) (ci := 8) (v := .int (I 6 0)) (C := RX8) (T := TX8) (N := 35) hx hb hts hinX8 hown hK hP 0 rG_o rfl 6 (by decide) (hts (.fieldLink RX8 95 "OutboxHouseModel" "flushed" "I") (by decide +kernel)) (fun _ h9 => h9) rfl dX8_isUnderWay_3 ?_
  refine lv_istore_n (lv' := [(3, .int (I 6 0)), (2, .int 0), (0, .ref (ad 40)), (1, .int p1)]) hx hb dX8_isUnderWay_6 rfl hl (by decide) rfl (fun ls hl => ?_)
  obtain ⟨V1, ⟨n20, hV0⟩, hstepn2⟩ := h
  have hlpn2 : ∀ (n2 : Nat) (x3 : Int32) (x4 : Int32) (I5 : St) (H : Heap) (locs : List Loc), va_P (dC, dI) vwCl (rW ad cy I5) H → va_D A (rW ad cy I5) → va_S A s.heap H locs → ∀ ls : Array Slot, lv_has ls 4 [(0, .ref (ad 40)), (1, .int p1), (2, .int x3), (3, .int x4)] → V1 n2 x3 x4 I5 → W p l e (headSpec wsX8_isUnderWay rmX8_isUnderWay).room s m ([.ref (ad 40), .int p1] : List Value).toArray below meth c H locs 0 0 (MQ below Qc ([.ref (ad 40), .int p1] : List Value).toArray s 0 0 A) (F0 m 7 ls []) := by
    intro n2
    induction n2 using Nat.strongRecOn with
    | _ n2 ihn2 =>
      intro x3 x4 I5 H locs hP hD hS ls hl hV
      have h := hstepn2 n2 x3 x4 I5 hV
      refine lv_iload_n hx hb dX8_isUnderWay_7 rfl (lv_at hl 3 rfl) ?_
      refine lv_aload_n hx hb dX8_isUnderWay_8 rfl (lv_at hl 0 rfl) ?_
      refine va_get (D := (dC, dI)) (ci := 8) (v := .int (I5 5 0)) (C := RX8) (T := TX8) (N := 35) hx hb hts hinX8 hown hK hP 0 rG_o rfl 5 (by decide) (hts (.fieldLink RX8 83 "OutboxHouseModel" "end" "I") (by decide +kernel)) (fun _ h9 => h9) rfl dX8_isUnderWay_9 ?_
      refine lv_icmp_ge (tgt := 41) hx hb dX8_isUnderWay_12 (by decide) (fun c => ?_) (fun c => ?_)
      · have h := h.1 c
        refine lv_iload_n hx hb dX8_isUnderWay_41 rfl (lv_at hl 2 rfl) ?_
        exact W.zret (v := x3) (ty := .boolean) hx hb hr h.1 (fun t ht hW => hQ _ _ t x3 I5 h.2 ⟨by rw [ht]; exact hP, hD⟩ (hS.F ht)) hS.2.2 dX8_isUnderWay_42
      · have h := h.2 c
        refine lv_iload_n hx hb dX8_isUnderWay_15 rfl (lv_at hl 2 rfl) ?_
        refine lv_if_ne (tgt := 29) hx hb dX8_isUnderWay_16 (by decide) (fun c => ?_) (fun c => ?_)
        · have h := h.1 c
          refine lv_iconst (v := 1) hx hb dX8_isUnderWay_29 (by decide) ?_
          refine lv_goto (tgt := 34) hx hb dX8_isUnderWay_30 (by decide) ?_
          refine lv_istore_n (lv' := [(2, .int 1), (0, .ref (ad 40)), (1, .int p1), (3, .int x4)]) hx hb dX8_isUnderWay_34 rfl hl (by decide) rfl (fun ls hl => ?_)
          refine lv_iinc (v := x4 + 1) (lv' := [(3, .int (x4 + 1)), (2, .int 1), (0, .ref (ad 40)), (1, .int p1)]) hx hb dX8_isUnderWay_35 hl (k := 3) rfl rfl (by decide) rfl (fun ls hl => ?_)
          refine lv_goto (tgt := 7) hx hb dX8_isUnderWay_38 (by decide) ?_
          obtain ⟨n6, hlt, hV⟩ := h
          exact ihn2 n6 hlt _ _ _ _ _ hP hD hS ls (lv_sub hl [2, 3, 1, 0] rfl) hV
        · have h := h.2 c
          refine lv_aload_n hx hb dX8_isUnderWay_19 rfl (lv_at hl 0 rfl) ?_
          refine va_get (D := (dC, dI)) (ci := 8) (v := .ref (ad 8)) (C := RX8) (T := TX8) (N := 35) hx hb hts hinX8 hown hK hP 0 rG_o rfl 8 (by decide) (hts (.fieldLink RX8 26 "OutboxHouseModel" "logKey" "[I") (by decide +kernel)) (fun _ h9 => h9) rfl dX8_isUnderWay_20 ?_
          refine lv_iload_n hx hb dX8_isUnderWay_23 rfl (lv_at hl 3 rfl) ?_
          have hv := h.1; replace h := h.2
          refine va_iald hx hb hK hP 6 0 rG_8 rfl hv dX8_isUnderWay_24 ?_
          refine lv_iload_n hx hb dX8_isUnderWay_25 rfl (lv_at hl 1 rfl) ?_
          refine lv_icmp_ne (tgt := 33) hx hb dX8_isUnderWay_26 (by decide) (fun c => ?_) (fun c => ?_)
          · have h := h.1 c
            refine lv_iconst (v := 0) hx hb dX8_isUnderWay_33 (by decide) ?_
            refine lv_istore_n (lv' := [(2, .int 0), (0, .ref (ad 40)), (1, .int p1), (3, .int x4)]) hx hb dX8_isUnderWay_34 rfl hl (by decide) rfl (fun ls hl => ?_)
            refine lv_iinc (v := x4 + 1) (lv' := [(3, .int (x4 + 1)), (2, .int 0), (0, .ref (ad 40)), (1, .int p1)]) hx hb dX8_isUnderWay_35 hl (k := 3) rfl rfl (by decide) rfl (fun ls hl => ?_)
            refine lv_goto (tgt := 7) hx hb dX8_isUnderWay_38 (by decide) ?_
            obtain ⟨n7, hlt, hV⟩ := h
            exact ihn2 n7 hlt _ _ _ _ _ hP hD hS ls (lv_sub hl [2, 3, 1, 0] rfl) hV
          · have h := h.2 c
            refine lv_iconst (v := 1) hx hb dX8_isUnderWay_29 (by decide) ?_
            refine lv_goto (tgt := 34) hx hb dX8_isUnderWay_30 (by decide) ?_
            refine lv_istore_n (lv' := [(2, .int 1), (0, .ref (ad 40)), (1, .int p1), (3, .int x4)]) hx hb dX8_isUnderWay_34 rfl hl (by decide) rfl (fun ls hl => ?_)
            refine lv_iinc (v := x4 + 1) (lv' := [(3, .int (x4 + 1)), (2, .int 1), (0, .ref (ad 40)), (1, .int p1)]) hx hb dX8_isUnderWay_35 hl (k := 3) rfl rfl (by decide) rfl (fun ls hl => ?_)
            refine lv_goto (tgt := 7) hx hb dX8_isUnderWay_38 (by decide) ?_
            obtain ⟨n8, hlt, hV⟩ := h
            exact ihn2 n8 hlt _ _ _ _ _ hP hD hS ls (lv_sub hl [2, 3, 1, 0] rfl) hV
  exact hlpn2 n20 _ _ _ _ _ hP hD hS ls (lv_sub hl [2, 3, 1, 0] rfl) hV0
theorem m_X8_isUnderWay (l : Launch) (dC : Nat → ClassId) (dI : Nat → Nat → Nat) (cy : Nat → ClassId) (ad : Nat → Nat) (A : Nat → Prop) (I : St) (p1 : Int32) {post : Int32 → St → Prop} (hD : va_D A (rW ad cy I)) (h : wp_X8_isUnderWay I p1 post) : Met l yX8_isUnderWay wsX8_isUnderWay rmX8_isUnderWay (va_Pc [.ref (ad 40), .int p1] (wPre (dC, dI) cy A (rW ad cy I))) (va_Qi (fun r (u : St) => post r u) (fun (u : St) t => wPost (dC, dI) A (rW ad cy u) t) A) 0 0 A := g_X8_isUnderWay l dC dI cy ad A I p1 hD h (fun a s0 t r I' h1 h2 h3 => ⟨⟨r, I', rfl, h1, h2⟩, h3⟩)
abbrev rmX8_writer : Room := { frames := 0, cells := 0, slots := 0, locals := 0 }
set_option maxHeartbeats 4000000 in
set_option maxRecDepth 100000 in
theorem g_X8_writer (l : Launch) (dC : Nat → ClassId) (dI : Nat → Nat → Nat) (cy : Nat → ClassId) (ad : Nat → Nat) (A : Nat → Prop) (I : St) (p1 : Int32) {post : Int32 → St → Prop} (hD : va_D A (rW ad cy I)) (h : wp_X8_writer I p1 post) {Qc : Array Value → State → Outcome → State → Prop} (hQ : ∀ (a : Array Value) (s0 t : State) (r : Int32) (I' : St), post r I' → wPost (dC, dI) A (rW ad cy I') t → va_F A s0 t → Qc a s0 (.returned (some (.int r))) t) : Met l yX8_writer wsX8_writer rmX8_writer (va_Pc [.ref (ad 40), .int p1] (wPre (dC, dI) cy A (rW ad cy I))) Qc 0 0 A := by
  refine Met.ofW (cc := cX8_writer) (maxL := 3) (ret := (some .int)) (by decide) rfl ?_
  intro p e s m args below meth c s₁ B hml hv
  obtain ⟨rfl, hP, hK, hN, hA⟩ := hv
  have hx := B.exec
  have hb := B.bytes
  have hr := B.returns
  have hts := atoms_spec (ws := wsX8_writer) B.pre
  have hown : s.vm.findClass RX8 = some m.cls := findClass_of_methodNamed B.named
  have hlocks := B.notSynchronized
  have hinX8 : ∀ w ∈ wsX80, w ∈ wsX8_writer := fun _ h9 => List.mem_cons_of_mem _ (List.mem_append_right _ h9)
  have hS : va_S A s.heap s.heap [] := va_S.rf
  unfold wp_X8_writer at h
  have hl := lv_entry ([.ref (ad 40), .int p1]) (n := 3) (Nat.le_of_ble_eq_true rfl)
  rw [lg_entry_eq]
  generalize (lg_sl ([.ref (ad 40), .int p1]) ++ List.replicate (3 - (lg_sl ([.ref (ad 40), .int p1])).length) Slot.unset).toArray = ls at hl ⊢
  have hl : lv_has ls 3 [(0, .ref (ad 40)), (1, .int p1)] := hl
  refine lv_iconst (v := 0) hx hb dX8_writer_0 (by decide) ?_
  refine lv_istore_n (lv' := [(2, .int 0), (0, .ref (ad 40)), (1, .int p1)]) hx hb dX8_writer_1 rfl hl (by decide) rfl (fun ls hl => ?_)
  obtain ⟨V1, ⟨n20, hV0⟩, hstepn2⟩ := h
  have hlpn2 : ∀ (n2 : Nat) (x3 : Int32) (I4 : St) (H : Heap) (locs : List Loc), va_P (dC, dI) vwCl (rW ad cy I4) H → va_D A (rW ad cy I4) → va_S A s.heap H locs → ∀ ls : Array Slot, lv_has ls 3 [(0, .ref (ad 40)), (1, .int p1), (2, .int x3)] → V1 n2 x3 I4 → W p l e (headSpec wsX8_writer rmX8_writer).room s m ([.ref (ad 40), .int p1] : List Value).toArray below meth c H locs 0 0 (MQ below Qc ([.ref (ad 40), .int p1] : List Value).toArray s 0 0 A) (F0 m 2 ls []) := by
    intro n2
    induction n2 using Nat.strongRecOn with
    | _ n2 ihn2 =>
      intro x3 I4 H locs hP hD hS ls hl hV
      have h := hstepn2 n2 x3 I4 hV
      refine lv_iload_n hx hb dX8_writer_2 rfl (lv_at hl 2 rfl) ?_
      refine lv_iconst (v := 4) hx hb dX8_writer_3 (by decide) ?_
      refine lv_icmp_ge (tgt := 38) hx hb dX8_writer_4 (by decide) (fun c => ?_) (fun c => ?_)
      · have h := h.1 c
        refine lv_iconst (v := (-1)) hx hb dX8_writer_38 (by decide) ?_
        exact W.iret (v := (-1)) hx hb hr (fun t ht hW => hQ _ _ t (-1) I4 h ⟨by rw [ht]; exact hP, hD⟩ (hS.F ht)) hS.2.2 dX8_writer_39
      · have h := h.2 c
        refine lv_aload_n hx hb dX8_writer_7 rfl (lv_at hl 0 rfl) ?_
        refine va_get (D := (dC, dI)) (ci := 8) (v := .ref (ad 0)) (C := RX8) (T := TX8) (N := 35) hx hb hts hinX8 hown hK hP 0 rG_o rfl 0 (by decide) (hts (.fieldLink RX8 7 "OutboxHouseModel" "isOpen" "[Z") (by decide +kernel)) (fun _ h9 => h9) rfl dX8_writer_8 ?_
        refine lv_iload_n hx hb dX8_writer_11 rfl (lv_at hl 2 rfl) ?_
        have hv := h.1; replace h := h.2
        refine va_zald hx hb hK hP 1 1 rG_0 rfl hv dX8_writer_12 ?_
        refine lv_if_eq (tgt := 32) hx hb dX8_writer_13 (by decide) (fun c => ?_) (fun c => ?_)
        · have h := h.1 c
          refine lv_iinc (v := x3 + 1) (lv' := [(2, .int (x3 + 1)), (0, .ref (ad 40)), (1, .int p1)]) hx hb dX8_writer_32 hl (k := 2) rfl rfl (by decide) rfl (fun ls hl => ?_)
          refine lv_goto (tgt := 2) hx hb dX8_writer_35 (by decide) ?_
          obtain ⟨n5, hlt, hV⟩ := h
          exact ihn2 n5 hlt _ _ _ _ hP hD hS ls (lv_sub hl [1, 2, 0] rfl) hV
        · have h := h.2 c
          refine lv_aload_n hx hb dX8_writer_16 rfl (lv_at hl 0 rfl) ?_
          refine va_get (D := (dC, dI)) (ci := 8) (v := .ref (ad 1)) (C := RX8) (T := TX8) (N := 35) hx hb hts hinX8 hown hK hP 0 rG_o rfl 1 (by decide) (hts (.fieldLink RX8 13 "OutboxHouseModel" "wrote" "[Z") (by decide +kernel)) (fun _ h9 => h9) rfl dX8_writer_17 ?_
          refine lv_bipush (v := 6) hx hb dX8_writer_20 (by decide) ?_
          refine lv_iload_n hx hb dX8_writer_22 rfl (lv_at hl 2 rfl) ?_
          refine lv_imul hx hb dX8_writer_23 ?_
          refine lv_iload_n hx hb dX8_writer_24 rfl (lv_at hl 1 rfl) ?_
          refine lv_iadd hx hb dX8_writer_25 ?_
          have hv := h.1; replace h := h.2
          refine va_zald hx hb hK hP 2 1 rG_1 rfl hv dX8_writer_26 ?_
          refine lv_if_eq (tgt := 32) hx hb dX8_writer_27 (by decide) (fun c => ?_) (fun c => ?_)
          · have h := h.1 c
            refine lv_iinc (v := x3 + 1) (lv' := [(2, .int (x3 + 1)), (0, .ref (ad 40)), (1, .int p1)]) hx hb dX8_writer_32 hl (k := 2) rfl rfl (by decide) rfl (fun ls hl => ?_)
            refine lv_goto (tgt := 2) hx hb dX8_writer_35 (by decide) ?_
            obtain ⟨n6, hlt, hV⟩ := h
            exact ihn2 n6 hlt _ _ _ _ hP hD hS ls (lv_sub hl [1, 2, 0] rfl) hV
          · have h := h.2 c
            refine lv_iload_n hx hb dX8_writer_30 rfl (lv_at hl 2 rfl) ?_
            exact W.iret (v := x3) hx hb hr (fun t ht hW => hQ _ _ t x3 I4 h ⟨by rw [ht]; exact hP, hD⟩ (hS.F ht)) hS.2.2 dX8_writer_31
  exact hlpn2 n20 _ _ _ _ hP hD hS ls (lv_sub hl [1, 2, 0] rfl) hV0
theorem m_X8_writer (l : Launch) (dC : Nat → ClassId) (dI : Nat → Nat → Nat) (cy : Nat → ClassId) (ad : Nat → Nat) (A : Nat → Prop) (I : St) (p1 : Int32) {post : Int32 → St → Prop} (hD : va_D A (rW ad cy I)) (h : wp_X8_writer I p1 post) : Met l yX8_writer wsX8_writer rmX8_writer (va_Pc [.ref (ad 40), .int p1] (wPre (dC, dI) cy A (rW ad cy I))) (va_Qi (fun r (u : St) => post r u) (fun (u : St) t => wPost (dC, dI) A (rW ad cy u) t) A) 0 0 A := g_X8_writer l dC dI cy ad A I p1 hD h (fun a s0 t r I' h1 h2 h3 => ⟨⟨r, I', rfl, h1, h2⟩, h3⟩)
abbrev rmX8_write : Room := { frames := 2, cells := 0, slots := 0, locals := 43 }
set_option maxHeartbeats 4000000 in
set_option maxRecDepth 100000 in
theorem g_X8_write (l : Launch) (dC : Nat → ClassId) (dI : Nat → Nat → Nat) (cy : Nat → ClassId) (ad : Nat → Nat) (A : Nat → Prop) (I : St) (p1 : Int32) (p2 : Int32) (p3 : Int32) {post : Int32 → St → Prop} (hD : va_D A (rW ad cy I)) (h : wp_X8_write I p1 p2 p3 post) {Qc : Array Value → State → Outcome → State → Prop} (hQ : ∀ (a : Array Value) (s0 t : State) (r : Int32) (I' : St), post r I' → wPost (dC, dI) A (rW ad cy I') t → va_F A s0 t → Qc a s0 (.returned (some (.int r))) t) : Met l yX8_write wsX8_write rmX8_write (va_Pc [.ref (ad 40), .int p1, .int p2, .int p3] (wPre (dC, dI) cy A (rW ad cy I))) Qc 0 0 A := by
  refine Met.ofW (cc := cX8_write) (maxL := 5) (ret := (some .int)) (by decide) rfl ?_
  intro p e s m args below meth c s₁ B hml hv
  obtain ⟨rfl, hP, hK, hN, hA⟩ := hv
  have hx := B.exec
  have hb := B.bytes
  have hr := B.returns
  have hts := atoms_spec (ws := wsX8_write) B.pre
  have hown : s.vm.findClass RX8 = some m.cls := findClass_of_methodNamed B.named
  have hlocks := B.notSynchronized
  have hinX8 : ∀ w ∈ wsX80, w ∈ wsX8_write := fun _ h9 => List.mem_cons_of_mem _ (List.mem_append_right _ h9)
  have hS : va_S A s.heap s.heap [] := va_S.rf
  unfold wp_X8_write at h
  have hl := lv_entry ([.ref (ad 40), .int p1, .int p2, .int p3]) (n := 5) (Nat.le_of_ble_eq_true rfl)
  rw [lg_entry_eq]
  generalize (lg_sl ([.ref (ad 40), .int p1, .int p2, .int p3]) ++ List.replicate (5 - (lg_sl ([.ref (ad 40), .int p1, .int p2, .int p3])).length) Slot.unset).toArray = ls at hl ⊢
  have hl : lv_has ls 5 [(0, .ref (ad 40)), (1, .int p1), (2, .int p2), (3, .int p3)] := hl
  refine lv_aload_n hx hb dX8_write_0 rfl (lv_at hl 0 rfl) ?_
  refine lv_iload_n hx hb dX8_write_1 rfl (lv_at hl 1 rfl) ?_
  refine va_calli (va_runV (As := [.int p1]) (rest := []) ⟨hx, hb, hml, hown, hts⟩ (m_X8_isTransaction l dC dI cy ad A I p1 hD h) (cwV 1 hts gX8_write_X8_isTransaction rfl rfl rfl (by decide +kernel) ⟨Nat.le_of_ble_eq_true rfl, Nat.le_of_ble_eq_true rfl⟩) ⟨wPre.blind, va_recv hK hP (ci := 8) (q0 := 0) rfl rG_o, wPre.at hP hK hN hS hA⟩ rfl rfl hl.1 rfl (lv_room (Nat.le_of_ble_eq_true rfl)) dX8_write_2 ⟨by first | exact Nat.le_of_ble_eq_true rfl | omega, by first | exact Nat.le_of_ble_eq_true rfl | omega⟩) hS (fun q _ h => h) (fun q h => h) (fun r1 u t H locs ht hvm hw hB hz1 hk1 hS => ?_)
  obtain ⟨I2, rfl⟩ : ∃ z : St, z = u := ⟨_, rfl⟩
  obtain ⟨hP, hD⟩ := hB; rw [ht] at hP; replace h := hw; try dsimp only at h hP hD
  refine lv_if_eq (tgt := 15) hx hb dX8_write_5 (by decide) (fun c => ?_) (fun c => ?_)
  · have h := h.1 c
    refine lv_iconst (v := (-1)) hx hb dX8_write_15 (by decide) ?_
    exact W.iret (v := (-1)) hx hb hr (fun t ht hW => hQ _ _ t (-1) I2 h ⟨by rw [ht]; exact hP, hD⟩ (hS.F ht)) hS.2.2 dX8_write_16
  · have h := h.2 c
    refine lv_iload_n hx hb dX8_write_8 rfl (lv_at hl 2 rfl) ?_
    refine va_calli (va_runS (As := [.int p2]) (rest := []) ⟨hx, hb, hml, hown, hts⟩ (m_X8_isKey l dC dI cy ad A I2 p2 hD h) (va_cwS 1 hts gX8_write_X8_isKey rfl rfl rfl (by decide +kernel) ⟨Nat.le_of_ble_eq_true rfl, Nat.le_of_ble_eq_true rfl⟩) ⟨wPre.blind, wPre.at hP hK hN hS hA⟩ rfl rfl hl.1 rfl (lv_room (Nat.le_of_ble_eq_true rfl)) dX8_write_9 ⟨by first | exact Nat.le_of_ble_eq_true rfl | omega, by first | exact Nat.le_of_ble_eq_true rfl | omega⟩) hS (fun q _ h => h) (fun q h => h) (fun r3 u t H locs ht hvm hw hB hz1 hk1 hS => ?_)
    obtain ⟨I4, rfl⟩ : ∃ z : St, z = u := ⟨_, rfl⟩
    obtain ⟨hP, hD⟩ := hB; rw [ht] at hP; replace h := hw; try dsimp only at h hP hD
    refine lv_if_ne (tgt := 17) hx hb dX8_write_12 (by decide) (fun c => ?_) (fun c => ?_)
    · have h := h.1 c
      refine lv_aload_n hx hb dX8_write_17 rfl (lv_at hl 0 rfl) ?_
      refine lv_iload_n hx hb dX8_write_18 rfl (lv_at hl 2 rfl) ?_
      refine va_calli (va_runV (As := [.int p2]) (rest := []) ⟨hx, hb, hml, hown, hts⟩ (m_X8_writer l dC dI cy ad A I4 p2 hD h) (cwV 1 hts gX8_write_X8_writer rfl rfl rfl (by decide +kernel) ⟨Nat.le_of_ble_eq_true rfl, Nat.le_of_ble_eq_true rfl⟩) ⟨wPre.blind, va_recv hK hP (ci := 8) (q0 := 0) rfl rG_o, wPre.at hP hK hN hS hA⟩ rfl rfl hl.1 rfl (lv_room (Nat.le_of_ble_eq_true rfl)) dX8_write_19 ⟨by first | exact Nat.le_of_ble_eq_true rfl | omega, by first | exact Nat.le_of_ble_eq_true rfl | omega⟩) hS (fun q _ h => h) (fun q h => h) (fun r5 u t H locs ht hvm hw hB hz1 hk1 hS => ?_)
      obtain ⟨I6, rfl⟩ : ∃ z : St, z = u := ⟨_, rfl⟩
      obtain ⟨hP, hD⟩ := hB; rw [ht] at hP; replace h := hw; try dsimp only at h hP hD
      refine lv_istore (lv' := [(4, .int r5), (0, .ref (ad 40)), (1, .int p1), (2, .int p2), (3, .int p3)]) hx hb dX8_write_22 hl (by decide) rfl (fun ls hl => ?_)
      refine lv_aload_n hx hb dX8_write_24 rfl (lv_at hl 1 rfl) ?_
      refine lv_iload_n hx hb dX8_write_25 rfl (lv_at hl 3 rfl) ?_
      refine va_calli (va_runV (As := [.int p2]) (rest := []) ⟨hx, hb, hml, hown, hts⟩ (m_X8_isUnderWay l dC dI cy ad A I6 p2 hD h) (cwV 1 hts gX8_write_X8_isUnderWay rfl rfl rfl (by decide +kernel) ⟨Nat.le_of_ble_eq_true rfl, Nat.le_of_ble_eq_true rfl⟩) ⟨wPre.blind, va_recv hK hP (ci := 8) (q0 := 0) rfl rG_o, wPre.at hP hK hN hS hA⟩ rfl rfl hl.1 rfl (lv_room (Nat.le_of_ble_eq_true rfl)) dX8_write_26 ⟨by first | exact Nat.le_of_ble_eq_true rfl | omega, by first | exact Nat.le_of_ble_eq_true rfl | omega⟩) hS (fun q _ h => h) (fun q h => h) (fun r7 u t H locs ht hvm hw hB hz1 hk1 hS => ?_)
      obtain ⟨I8, rfl⟩ : ∃ z : St, z = u := ⟨_, rfl⟩
      obtain ⟨hP, hD⟩ := hB; rw [ht] at hP; replace h := hw; try dsimp only at h hP hD
      refine lv_if_ne (tgt := 43) hx hb dX8_write_29 (by decide) (fun c => ?_) (fun c => ?_)
      · have h := h.1 c
        refine lv_bipush (v := (-2)) hx hb dX8_write_43 (by decide) ?_
        exact W.iret (v := (-2)) hx hb hr (fun t ht hW => hQ _ _ t (-2) I8 h ⟨by rw [ht]; exact hP, hD⟩ (hS.F ht)) hS.2.2 dX8_write_45
      · have h := h.2 c
        refine lv_iload hx hb dX8_write_32 (lv_at hl 0 rfl) ?_
        refine lv_if_lt (tgt := 46) hx hb dX8_write_34 (by decide) (fun c => ?_) (fun c => ?_)
        · have h := h.1 c
          refine lv_aload_n hx hb dX8_write_46 rfl (lv_at hl 1 rfl) ?_
          refine va_get (D := (dC, dI)) (ci := 8) (v := .ref (ad 1)) (C := RX8) (T := TX8) (N := 35) hx hb hts hinX8 hown hK hP 0 rG_o rfl 1 (by decide) (hts (.fieldLink RX8 13 "OutboxHouseModel" "wrote" "[Z") (by decide +kernel)) (fun _ h9 => h9) rfl dX8_write_47 ?_
          refine lv_bipush (v := 6) hx hb dX8_write_50 (by decide) ?_
          refine lv_iload_n hx hb dX8_write_52 rfl (lv_at hl 2 rfl) ?_
          refine lv_imul hx hb dX8_write_53 ?_
          refine lv_iload_n hx hb dX8_write_54 rfl (lv_at hl 3 rfl) ?_
          refine lv_iadd hx hb dX8_write_55 ?_
          refine lv_iconst (v := 1) hx hb dX8_write_56 (by decide) ?_
          have hv := h.1; replace h := h.2
          refine va_zast hx hb hK hP hD hS 2 1 rG_1 rfl hv dX8_write_57 (fun H locs hP hD hS => ?_)
          obtain ⟨I9, hI9⟩ : ∃ z : St, z = st I8 1 ((6 * p1) + p2).toNatClampNeg (vp_nar .boolean 1) := ⟨_, rfl⟩
          replace hP := wP (rE_1 hI9) hP; replace hD := wD (rE_1 hI9) hD; replace h := h _ hI9
          refine lv_aload_n hx hb dX8_write_58 rfl (lv_at hl 1 rfl) ?_
          refine va_get (D := (dC, dI)) (ci := 8) (v := .ref (ad 2)) (C := RX8) (T := TX8) (N := 35) hx hb hts hinX8 hown hK hP 0 rG_o rfl 2 (by decide) (hts (.fieldLink RX8 16 "OutboxHouseModel" "written" "[I") (by decide +kernel)) (fun _ h9 => h9) rfl dX8_write_59 ?_
          refine lv_bipush (v := 6) hx hb dX8_write_62 (by decide) ?_
          refine lv_iload_n hx hb dX8_write_64 rfl (lv_at hl 2 rfl) ?_
          refine lv_imul hx hb dX8_write_65 ?_
          refine lv_iload_n hx hb dX8_write_66 rfl (lv_at hl 3 rfl) ?_
          refine lv_iadd hx hb dX8_write_67 ?_
          refine lv_iload_n hx hb dX8_write_68 rfl (lv_at hl 4 rfl) ?_
          have hv := h.1; replace h := h.2
          refine va_iast hx hb hK hP hD hS 3 0 rG_2 rfl hv dX8_write_69 (fun H locs hP hD hS => ?_)
          obtain ⟨I10, hI10⟩ : ∃ z : St, z = st I9 2 ((6 * p1) + p2).toNatClampNeg p3 := ⟨_, rfl⟩
          replace hP := wP (rE_2 hI10) hP; replace hD := wD (rE_2 hI10) hD; replace h := h _ hI10
          refine lv_iconst (v := 1) hx hb dX8_write_70 (by decide) ?_
          exact W.iret (v := 1) hx hb hr (fun t ht hW => hQ _ _ t 1 I10 h ⟨by rw [ht]; exact hP, hD⟩ (hS.F ht)) hS.2.2 dX8_write_71
        · have h := h.2 c
          refine lv_iload hx hb dX8_write_37 (lv_at hl 0 rfl) ?_
          refine lv_iload_n hx hb dX8_write_39 rfl (lv_at hl 2 rfl) ?_
          refine lv_icmp_eq (tgt := 46) hx hb dX8_write_40 (by decide) (fun c => ?_) (fun c => ?_)
          · have h := h.1 c
            refine lv_aload_n hx hb dX8_write_46 rfl (lv_at hl 1 rfl) ?_
            refine va_get (D := (dC, dI)) (ci := 8) (v := .ref (ad 1)) (C := RX8) (T := TX8) (N := 35) hx hb hts hinX8 hown hK hP 0 rG_o rfl 1 (by decide) (hts (.fieldLink RX8 13 "OutboxHouseModel" "wrote" "[Z") (by decide +kernel)) (fun _ h9 => h9) rfl dX8_write_47 ?_
            refine lv_bipush (v := 6) hx hb dX8_write_50 (by decide) ?_
            refine lv_iload_n hx hb dX8_write_52 rfl (lv_at hl 2 rfl) ?_
            refine lv_imul hx hb dX8_write_53 ?_
            refine lv_iload_n hx hb dX8_write_54 rfl (lv_at hl 3 rfl) ?_
            refine lv_iadd hx hb dX8_write_55 ?_
            refine lv_iconst (v := 1) hx hb dX8_write_56 (by decide) ?_
            have hv := h.1; replace h := h.2
            refine va_zast hx hb hK hP hD hS 2 1 rG_1 rfl hv dX8_write_57 (fun H locs hP hD hS => ?_)
            obtain ⟨I11, hI11⟩ : ∃ z : St, z = st I8 1 ((6 * p1) + p2).toNatClampNeg (vp_nar .boolean 1) := ⟨_, rfl⟩
            replace hP := wP (rE_1 hI11) hP; replace hD := wD (rE_1 hI11) hD; replace h := h _ hI11
            refine lv_aload_n hx hb dX8_write_58 rfl (lv_at hl 1 rfl) ?_
            refine va_get (D := (dC, dI)) (ci := 8) (v := .ref (ad 2)) (C := RX8) (T := TX8) (N := 35) hx hb hts hinX8 hown hK hP 0 rG_o rfl 2 (by decide) (hts (.fieldLink RX8 16 "OutboxHouseModel" "written" "[I") (by decide +kernel)) (fun _ h9 => h9) rfl dX8_write_59 ?_
            refine lv_bipush (v := 6) hx hb dX8_write_62 (by decide) ?_
            refine lv_iload_n hx hb dX8_write_64 rfl (lv_at hl 2 rfl) ?_
            refine lv_imul hx hb dX8_write_65 ?_
            refine lv_iload_n hx hb dX8_write_66 rfl (lv_at hl 3 rfl) ?_
            refine lv_iadd hx hb dX8_write_67 ?_
            refine lv_iload_n hx hb dX8_write_68 rfl (lv_at hl 4 rfl) ?_
            have hv := h.1; replace h := h.2
            refine va_iast hx hb hK hP hD hS 3 0 rG_2 rfl hv dX8_write_69 (fun H locs hP hD hS => ?_)
            obtain ⟨I12, hI12⟩ : ∃ z : St, z = st I11 2 ((6 * p1) + p2).toNatClampNeg p3 := ⟨_, rfl⟩
            replace hP := wP (rE_2 hI12) hP; replace hD := wD (rE_2 hI12) hD; replace h := h _ hI12
            refine lv_iconst (v := 1) hx hb dX8_write_70 (by decide) ?_
            exact W.iret (v := 1) hx hb hr (fun t ht hW => hQ _ _ t 1 I12 h ⟨by rw [ht]; exact hP, hD⟩ (hS.F ht)) hS.2.2 dX8_write_71
          · have h := h.2 c
            refine lv_bipush (v := (-2)) hx hb dX8_write_43 (by decide) ?_
            exact W.iret (v := (-2)) hx hb hr (fun t ht hW => hQ _ _ t (-2) I8 h ⟨by rw [ht]; exact hP, hD⟩ (hS.F ht)) hS.2.2 dX8_write_45
    · have h := h.2 c
      refine lv_iconst (v := (-1)) hx hb dX8_write_15 (by decide) ?_
      exact W.iret (v := (-1)) hx hb hr (fun t ht hW => hQ _ _ t (-1) I4 h ⟨by rw [ht]; exact hP, hD⟩ (hS.F ht)) hS.2.2 dX8_write_16
theorem m_X8_write (l : Launch) (dC : Nat → ClassId) (dI : Nat → Nat → Nat) (cy : Nat → ClassId) (ad : Nat → Nat) (A : Nat → Prop) (I : St) (p1 : Int32) (p2 : Int32) (p3 : Int32) {post : Int32 → St → Prop} (hD : va_D A (rW ad cy I)) (h : wp_X8_write I p1 p2 p3 post) : Met l yX8_write wsX8_write rmX8_write (va_Pc [.ref (ad 40), .int p1, .int p2, .int p3] (wPre (dC, dI) cy A (rW ad cy I))) (va_Qi (fun r (u : St) => post r u) (fun (u : St) t => wPost (dC, dI) A (rW ad cy u) t) A) 0 0 A := g_X8_write l dC dI cy ad A I p1 p2 p3 hD h (fun a s0 t r I' h1 h2 h3 => ⟨⟨r, I', rfl, h1, h2⟩, h3⟩)
end
section
theorem zz_last : True := trivial
end
