def RX0 : String := "MillstreamPayments$Accounts"
def TX0 : u_T := fun k => match k with
  | 0 => ("MillstreamPayments$Accounts", "book", "LMillstreamPayments$Book;", true)
  | 1 => ("MillstreamPayments$Accounts", "balances", "LMillstreamPayments$Row;", true)
  | 2 => ("MillstreamPayments$Accounts", "lines", "LMillstreamPayments$Row;", true)
  | 3 => ("MillstreamPayments$Accounts", "paidToday", "LMillstreamPayments$Row;", true)
  | _ => ("MillstreamPayments$Accounts", "limits", "LMillstreamPayments$Row;", true)
def tyX0 : Nat → FieldType := fun k => match k with
  | 0 => .object "MillstreamPayments$Book"
  | 1 => .object "MillstreamPayments$Row"
  | 2 => .object "MillstreamPayments$Row"
  | 3 => .object "MillstreamPayments$Row"
  | _ => .object "MillstreamPayments$Row"
abbrev wsX00 : List Cond := u_ws RX0 TX0 5
theorem nmX0 : ∀ a, a < 5 → ∀ b, b < 5 → a ≠ b → (TX0 a).2.1 ≠ (TX0 b).2.1 := by decide +kernel
theorem tyX0_ok : ∀ k, k < 5 → parseFieldDescriptor (TX0 k).2.2.1 = some (tyX0 k) := by decide +kernel
abbrev cX0_init : ByteArray := prog_2_method_1_code
def yX0_init : MethodName := ⟨RX0, "<init>", "()V"⟩
abbrev cX0_balanceOf : ByteArray := prog_2_method_2_code
def yX0_balanceOf : MethodName := ⟨RX0, "balanceOf", "(II)J"⟩
abbrev cX0_paidOf : ByteArray := prog_2_method_3_code
def yX0_paidOf : MethodName := ⟨RX0, "paidOf", "(I)J"⟩
abbrev cX0_changeLine : ByteArray := prog_2_method_4_code
def yX0_changeLine : MethodName := ⟨RX0, "changeLine", "(III)I"⟩
abbrev cX0_changeLimit : ByteArray := prog_2_method_5_code
def yX0_changeLimit : MethodName := ⟨RX0, "changeLimit", "(II)I"⟩
abbrev cX0_move : ByteArray := prog_2_method_6_code
def yX0_move : MethodName := ⟨RX0, "move", "(IIIJI)V"⟩
abbrev cX0_pay : ByteArray := prog_2_method_7_code
def yX0_pay : MethodName := ⟨RX0, "pay", "(LMillstreamPayments$Terms;I)V"⟩
abbrev cX0_isTooLowBy : ByteArray := prog_2_method_8_code
def yX0_isTooLowBy : MethodName := ⟨RX0, "isTooLowBy", "(IJ)Z"⟩
abbrev cX0_isPassedBy : ByteArray := prog_2_method_9_code
def yX0_isPassedBy : MethodName := ⟨RX0, "isPassedBy", "(IJ)Z"⟩
abbrev cX0_beginDay : ByteArray := prog_2_method_10_code
def yX0_beginDay : MethodName := ⟨RX0, "beginDay", "()V"⟩
def RX1 : String := "MillstreamPayments$Advices"
def TX1 : u_T := fun k => match k with
  | 0 => ("MillstreamPayments$Advices", "told", "LMillstreamPayments$Row;", true)
  | 1 => ("MillstreamPayments$Advices", "counts", "LMillstreamPayments$Row;", true)
  | 2 => ("MillstreamPayments$Advices", "taken", "LMillstreamPayments$Row;", true)
  | _ => ("MillstreamPayments$Advices", "most", "LMillstreamPayments$Row;", true)
def tyX1 : Nat → FieldType := fun k => match k with
  | 0 => .object "MillstreamPayments$Row"
  | 1 => .object "MillstreamPayments$Row"
  | 2 => .object "MillstreamPayments$Row"
  | _ => .object "MillstreamPayments$Row"
abbrev wsX10 : List Cond := u_ws RX1 TX1 4
theorem nmX1 : ∀ a, a < 4 → ∀ b, b < 4 → a ≠ b → (TX1 a).2.1 ≠ (TX1 b).2.1 := by decide +kernel
theorem tyX1_ok : ∀ k, k < 4 → parseFieldDescriptor (TX1 k).2.2.1 = some (tyX1 k) := by decide +kernel
abbrev cX1_init : ByteArray := prog_3_method_1_code
def yX1_init : MethodName := ⟨RX1, "<init>", "()V"⟩
abbrev cX1_tell : ByteArray := prog_3_method_2_code
def yX1_tell : MethodName := ⟨RX1, "tell", "(II)V"⟩
abbrev cX1_takeNext : ByteArray := prog_3_method_3_code
def yX1_takeNext : MethodName := ⟨RX1, "takeNext", "(I)I"⟩
abbrev cX1_mostTaken : ByteArray := prog_3_method_4_code
def yX1_mostTaken : MethodName := ⟨RX1, "mostTaken", "(I)I"⟩
abbrev cX1_startFrom : ByteArray := prog_3_method_5_code
def yX1_startFrom : MethodName := ⟨RX1, "startFrom", "(II)I"⟩
def RX2 : String := "MillstreamPayments$Batch"
def TX2 : u_T := fun k => match k with
  | 0 => ("MillstreamPayments$Batch", "members", "LMillstreamPayments$Row;", true)
  | 1 => ("MillstreamPayments$Batch", "changes", "LMillstreamPayments$Row;", true)
  | _ => ("MillstreamPayments$Batch", "flows", "LMillstreamPayments$Row;", true)
def tyX2 : Nat → FieldType := fun k => match k with
  | 0 => .object "MillstreamPayments$Row"
  | 1 => .object "MillstreamPayments$Row"
  | _ => .object "MillstreamPayments$Row"
abbrev wsX20 : List Cond := u_ws RX2 TX2 3
theorem nmX2 : ∀ a, a < 3 → ∀ b, b < 3 → a ≠ b → (TX2 a).2.1 ≠ (TX2 b).2.1 := by decide +kernel
theorem tyX2_ok : ∀ k, k < 3 → parseFieldDescriptor (TX2 k).2.2.1 = some (tyX2 k) := by decide +kernel
abbrev cX2_init : ByteArray := prog_4_method_1_code
def yX2_init : MethodName := ⟨RX2, "<init>", "()V"⟩
abbrev cX2_clear : ByteArray := prog_4_method_2_code
def yX2_clear : MethodName := ⟨RX2, "clear", "()V"⟩
abbrev cX2_has : ByteArray := prog_4_method_3_code
def yX2_has : MethodName := ⟨RX2, "has", "(LMillstreamPayments$Payment;)Z"⟩
abbrev cX2_put : ByteArray := prog_4_method_4_code
def yX2_put : MethodName := ⟨RX2, "put", "(LMillstreamPayments$Payment;)V"⟩
abbrev cX2_drop : ByteArray := prog_4_method_5_code
def yX2_drop : MethodName := ⟨RX2, "drop", "(LMillstreamPayments$Payment;)V"⟩
abbrev cX2_count : ByteArray := prog_4_method_6_code
def yX2_count : MethodName := ⟨RX2, "count", "(LMillstreamPayments$Terms;J)V"⟩
abbrev cX2_lowestTooLow : ByteArray := prog_4_method_7_code
def yX2_lowestTooLow : MethodName := ⟨RX2, "lowestTooLow", "(LMillstreamPayments$Accounts;I)I"⟩
abbrev cX2_passesLimit : ByteArray := prog_4_method_8_code
def yX2_passesLimit : MethodName := ⟨RX2, "passesLimit", "(LMillstreamPayments$Accounts;III)Z"⟩
abbrev cX2_isWithinBounds : ByteArray := prog_4_method_9_code
def yX2_isWithinBounds : MethodName := ⟨RX2, "isWithinBounds", "(LMillstreamPayments$Accounts;I)Z"⟩
def RX3 : String := "MillstreamPayments$Book"
def TX3 : u_T := fun k => match k with
  | _ => ("MillstreamPayments$Book", "kept", "Ljava/util/ArrayList;", true)
def tyX3 : Nat → FieldType := fun k => match k with
  | _ => .object "java/util/ArrayList"
abbrev wsX30 : List Cond := u_ws RX3 TX3 1
theorem nmX3 : ∀ a, a < 1 → ∀ b, b < 1 → a ≠ b → (TX3 a).2.1 ≠ (TX3 b).2.1 := by decide +kernel
theorem tyX3_ok : ∀ k, k < 1 → parseFieldDescriptor (TX3 k).2.2.1 = some (tyX3 k) := by decide +kernel
abbrev cX3_init : ByteArray := prog_5_method_1_code
def yX3_init : MethodName := ⟨RX3, "<init>", "()V"⟩
abbrev cX3_count : ByteArray := prog_5_method_2_code
def yX3_count : MethodName := ⟨RX3, "count", "()I"⟩
abbrev cX3_find : ByteArray := prog_5_method_3_code
def yX3_find : MethodName := ⟨RX3, "find", "(I)LMillstreamPayments$Entry;"⟩
abbrev cX3_keep : ByteArray := prog_5_method_4_code
def yX3_keep : MethodName := ⟨RX3, "keep", "(LMillstreamPayments$Entry;)V"⟩
abbrev cX3_sumOf : ByteArray := prog_5_method_5_code
def yX3_sumOf : MethodName := ⟨RX3, "sumOf", "(II)J"⟩
def RX4 : String := "MillstreamPayments$Calendar"
def TX4 : u_T := fun k => match k with
  | 0 => ("MillstreamPayments$Calendar", "day", "I", false)
  | _ => ("MillstreamPayments$Calendar", "holidays", "LMillstreamPayments$Row;", true)
def tyX4 : Nat → FieldType := fun k => match k with
  | 0 => .int
  | _ => .object "MillstreamPayments$Row"
abbrev wsX40 : List Cond := u_ws RX4 TX4 2
theorem nmX4 : ∀ a, a < 2 → ∀ b, b < 2 → a ≠ b → (TX4 a).2.1 ≠ (TX4 b).2.1 := by decide +kernel
theorem tyX4_ok : ∀ k, k < 2 → parseFieldDescriptor (TX4 k).2.2.1 = some (tyX4 k) := by decide +kernel
abbrev cX4_init : ByteArray := prog_6_method_1_code
def yX4_init : MethodName := ⟨RX4, "<init>", "()V"⟩
abbrev cX4_changeHoliday : ByteArray := prog_6_method_2_code
def yX4_changeHoliday : MethodName := ⟨RX4, "changeHoliday", "(IIZ)V"⟩
abbrev cX4_isOpen : ByteArray := prog_6_method_3_code
def yX4_isOpen : MethodName := ⟨RX4, "isOpen", "(II)Z"⟩
abbrev cX4_isOpenToday : ByteArray := prog_6_method_4_code
def yX4_isOpenToday : MethodName := ⟨RX4, "isOpenToday", "(I)Z"⟩
def RX5 : String := "MillstreamPayments$Entry"
def TX5 : u_T := fun k => match k with
  | 0 => ("MillstreamPayments$Entry", "from", "I", true)
  | 1 => ("MillstreamPayments$Entry", "to", "I", true)
  | 2 => ("MillstreamPayments$Entry", "currency", "I", true)
  | 3 => ("MillstreamPayments$Entry", "amount", "J", true)
  | _ => ("MillstreamPayments$Entry", "payment", "I", true)
def tyX5 : Nat → FieldType := fun k => match k with
  | 0 => .int
  | 1 => .int
  | 2 => .int
  | 3 => .long
  | _ => .int
abbrev wsX50 : List Cond := u_ws RX5 TX5 5
theorem nmX5 : ∀ a, a < 5 → ∀ b, b < 5 → a ≠ b → (TX5 a).2.1 ≠ (TX5 b).2.1 := by decide +kernel
theorem tyX5_ok : ∀ k, k < 5 → parseFieldDescriptor (TX5 k).2.2.1 = some (tyX5 k) := by decide +kernel
abbrev cX5_init : ByteArray := prog_7_method_1_code
def yX5_init : MethodName := ⟨RX5, "<init>", "(IIIJI)V"⟩
abbrev cX5_part : ByteArray := prog_7_method_2_code
def yX5_part : MethodName := ⟨RX5, "part", "(I)J"⟩
def RX6 : String := "MillstreamPayments$Exchange"
def TX6 : u_T := fun k => match k with
  | 0 => ("MillstreamPayments$Exchange", "calendar", "LMillstreamPayments$Calendar;", true)
  | 1 => ("MillstreamPayments$Exchange", "accounts", "LMillstreamPayments$Accounts;", true)
  | 2 => ("MillstreamPayments$Exchange", "register", "LMillstreamPayments$Register;", true)
  | 3 => ("MillstreamPayments$Exchange", "advices", "LMillstreamPayments$Advices;", true)
  | 4 => ("MillstreamPayments$Exchange", "outages", "LMillstreamPayments$Row;", true)
  | 5 => ("MillstreamPayments$Exchange", "listed", "LMillstreamPayments$Row;", true)
  | 6 => ("MillstreamPayments$Exchange", "doubles", "I", false)
  | _ => ("MillstreamPayments$Exchange", "batch", "LMillstreamPayments$Batch;", true)
def tyX6 : Nat → FieldType := fun k => match k with
  | 0 => .object "MillstreamPayments$Calendar"
  | 1 => .object "MillstreamPayments$Accounts"
  | 2 => .object "MillstreamPayments$Register"
  | 3 => .object "MillstreamPayments$Advices"
  | 4 => .object "MillstreamPayments$Row"
  | 5 => .object "MillstreamPayments$Row"
  | 6 => .int
  | _ => .object "MillstreamPayments$Batch"
abbrev wsX60 : List Cond := u_ws RX6 TX6 8
theorem nmX6 : ∀ a, a < 8 → ∀ b, b < 8 → a ≠ b → (TX6 a).2.1 ≠ (TX6 b).2.1 := by decide +kernel
theorem tyX6_ok : ∀ k, k < 8 → parseFieldDescriptor (TX6 k).2.2.1 = some (tyX6 k) := by decide +kernel
abbrev cX6_init : ByteArray := prog_8_method_1_code
def yX6_init : MethodName := ⟨RX6, "<init>", "()V"⟩
abbrev cX6_bringIn : ByteArray := prog_8_method_2_code
def yX6_bringIn : MethodName := ⟨RX6, "bringIn", "(LMillstreamPayments$Terms;)I"⟩
abbrev cX6_termsBack : ByteArray := prog_8_method_3_code
def yX6_termsBack : MethodName := ⟨RX6, "termsBack", "(LMillstreamPayments$Terms;)LMillstreamPayments$Terms;"⟩
abbrev cX6_letEnter : ByteArray := prog_8_method_4_code
def yX6_letEnter : MethodName := ⟨RX6, "letEnter", "(LMillstreamPayments$Payment;)V"⟩
abbrev cX6_holdPaymentsFor : ByteArray := prog_8_method_5_code
def yX6_holdPaymentsFor : MethodName := ⟨RX6, "holdPaymentsFor", "(I)I"⟩
abbrev cX6_runQueues : ByteArray := prog_8_method_6_code
def yX6_runQueues : MethodName := ⟨RX6, "runQueues", "()I"⟩
abbrev cX6_settleFirst : ByteArray := prog_8_method_7_code
def yX6_settleFirst : MethodName := ⟨RX6, "settleFirst", "(II)I"⟩
abbrev cX6_mayMove : ByteArray := prog_8_method_8_code
def yX6_mayMove : MethodName := ⟨RX6, "mayMove", "(LMillstreamPayments$Payment;)Z"⟩
abbrev cX6_settleMost : ByteArray := prog_8_method_9_code
def yX6_settleMost : MethodName := ⟨RX6, "settleMost", "(II)I"⟩
abbrev cX6_nextToTakeOut : ByteArray := prog_8_method_10_code
def yX6_nextToTakeOut : MethodName := ⟨RX6, "nextToTakeOut", "(IZ)LMillstreamPayments$Payment;"⟩
abbrev cX6_lastInBatch : ByteArray := prog_8_method_11_code
def yX6_lastInBatch : MethodName := ⟨RX6, "lastInBatch", "(IIZ)LMillstreamPayments$Payment;"⟩
abbrev cX6_settleBatch : ByteArray := prog_8_method_12_code
def yX6_settleBatch : MethodName := ⟨RX6, "settleBatch", "()I"⟩
abbrev cX6_closeDay : ByteArray := prog_8_method_13_code
def yX6_closeDay : MethodName := ⟨RX6, "closeDay", "()I"⟩
abbrev cX6_giveBackWhatMayNotStay : ByteArray := prog_8_method_14_code
def yX6_giveBackWhatMayNotStay : MethodName := ⟨RX6, "giveBackWhatMayNotStay", "()V"⟩
abbrev cX6_chargeBanks : ByteArray := prog_8_method_15_code
def yX6_chargeBanks : MethodName := ⟨RX6, "chargeBanks", "()V"⟩
abbrev cX6_charge : ByteArray := prog_8_method_16_code
def yX6_charge : MethodName := ⟨RX6, "charge", "(IIJ)V"⟩
abbrev cX6_letWaitingEnter : ByteArray := prog_8_method_17_code
def yX6_letWaitingEnter : MethodName := ⟨RX6, "letWaitingEnter", "()V"⟩
def RX7 : String := "MillstreamPayments$Payment"
def TX7 : u_T := fun k => match k with
  | 0 => ("MillstreamPayments$Payment", "number", "I", true)
  | 1 => ("MillstreamPayments$Payment", "terms", "LMillstreamPayments$Terms;", true)
  | 2 => ("MillstreamPayments$Payment", "state", "I", false)
  | 3 => ("MillstreamPayments$Payment", "leg", "LMillstreamPayments$Payment;", false)
  | 4 => ("MillstreamPayments$Payment", "officer", "I", false)
  | 5 => ("MillstreamPayments$Payment", "isReleased", "Z", false)
  | 6 => ("MillstreamPayments$Payment", "finalDay", "I", false)
  | 7 => ("MillstreamPayments$Payment", "lastAnswerDay", "I", false)
  | _ => ("MillstreamPayments$Payment", "isAnswered", "Z", false)
def tyX7 : Nat → FieldType := fun k => match k with
  | 0 => .int
  | 1 => .object "MillstreamPayments$Terms"
  | 2 => .int
  | 3 => .object "MillstreamPayments$Payment"
  | 4 => .int
  | 5 => .boolean
  | 6 => .int
  | 7 => .int
  | _ => .boolean
abbrev wsX70 : List Cond := u_ws RX7 TX7 9
theorem nmX7 : ∀ a, a < 9 → ∀ b, b < 9 → a ≠ b → (TX7 a).2.1 ≠ (TX7 b).2.1 := by decide +kernel
theorem tyX7_ok : ∀ k, k < 9 → parseFieldDescriptor (TX7 k).2.2.1 = some (tyX7 k) := by decide +kernel
abbrev cX7_init : ByteArray := prog_9_method_1_code
def yX7_init : MethodName := ⟨RX7, "<init>", "(ILMillstreamPayments$Terms;)V"⟩
abbrev cX7_hasEnded : ByteArray := prog_9_method_2_code
def yX7_hasEnded : MethodName := ⟨RX7, "hasEnded", "()Z"⟩
abbrev cX7_isIn : ByteArray := prog_9_method_3_code
def yX7_isIn : MethodName := ⟨RX7, "isIn", "(II)Z"⟩
abbrev cX7_isBehind : ByteArray := prog_9_method_4_code
def yX7_isBehind : MethodName := ⟨RX7, "isBehind", "(LMillstreamPayments$Payment;)Z"⟩
abbrev cX7_canBeLegWith : ByteArray := prog_9_method_5_code
def yX7_canBeLegWith : MethodName := ⟨RX7, "canBeLegWith", "(LMillstreamPayments$Payment;)Z"⟩
abbrev cX7_giveBack : ByteArray := prog_9_method_6_code
def yX7_giveBack : MethodName := ⟨RX7, "giveBack", "()I"⟩
def RX8 : String := "MillstreamPayments$Register"
def TX8 : u_T := fun k => match k with
  | 0 => ("MillstreamPayments$Register", "all", "Ljava/util/ArrayList;", true)
  | _ => ("MillstreamPayments$Register", "paymentsOfMessages", "LMillstreamPayments$Row;", true)
def tyX8 : Nat → FieldType := fun k => match k with
  | 0 => .object "java/util/ArrayList"
  | _ => .object "MillstreamPayments$Row"
abbrev wsX80 : List Cond := u_ws RX8 TX8 2
theorem nmX8 : ∀ a, a < 2 → ∀ b, b < 2 → a ≠ b → (TX8 a).2.1 ≠ (TX8 b).2.1 := by decide +kernel
theorem tyX8_ok : ∀ k, k < 2 → parseFieldDescriptor (TX8 k).2.2.1 = some (tyX8 k) := by decide +kernel
abbrev cX8_init : ByteArray := prog_10_method_1_code
def yX8_init : MethodName := ⟨RX8, "<init>", "()V"⟩
abbrev cX8_count : ByteArray := prog_10_method_2_code
def yX8_count : MethodName := ⟨RX8, "count", "()I"⟩
abbrev cX8_isFull : ByteArray := prog_10_method_3_code
def yX8_isFull : MethodName := ⟨RX8, "isFull", "()Z"⟩
abbrev cX8_find : ByteArray := prog_10_method_4_code
def yX8_find : MethodName := ⟨RX8, "find", "(I)LMillstreamPayments$Payment;"⟩
abbrev cX8_open : ByteArray := prog_10_method_5_code
def yX8_open : MethodName := ⟨RX8, "open", "(LMillstreamPayments$Terms;)LMillstreamPayments$Payment;"⟩
abbrev cX8_toldBy : ByteArray := prog_10_method_6_code
def yX8_toldBy : MethodName := ⟨RX8, "toldBy", "(II)LMillstreamPayments$Payment;"⟩
abbrev cX8_keepMessage : ByteArray := prog_10_method_7_code
def yX8_keepMessage : MethodName := ⟨RX8, "keepMessage", "(III)V"⟩
abbrev cX8_nextQueued : ByteArray := prog_10_method_8_code
def yX8_nextQueued : MethodName := ⟨RX8, "nextQueued", "(IILMillstreamPayments$Payment;)LMillstreamPayments$Payment;"⟩
abbrev cX8_queuedAt : ByteArray := prog_10_method_9_code
def yX8_queuedAt : MethodName := ⟨RX8, "queuedAt", "(III)I"⟩
abbrev cX8_feesOf : ByteArray := prog_10_method_10_code
def yX8_feesOf : MethodName := ⟨RX8, "feesOf", "(III)I"⟩
def RX9 : String := "MillstreamPayments$Row"
def TX9 : u_T := fun k => match k with
  | _ => ("MillstreamPayments$Row", "cells", "[J", true)
def tyX9 : Nat → FieldType := fun k => match k with
  | _ => .array .long
abbrev wsX90 : List Cond := u_ws RX9 TX9 1
theorem nmX9 : ∀ a, a < 1 → ∀ b, b < 1 → a ≠ b → (TX9 a).2.1 ≠ (TX9 b).2.1 := by decide +kernel
theorem tyX9_ok : ∀ k, k < 1 → parseFieldDescriptor (TX9 k).2.2.1 = some (tyX9 k) := by decide +kernel
abbrev cX9_init : ByteArray := prog_11_method_1_code
def yX9_init : MethodName := ⟨RX9, "<init>", "(I)V"⟩
abbrev cX9_at : ByteArray := prog_11_method_2_code
def yX9_at : MethodName := ⟨RX9, "at", "(I)J"⟩
abbrev cX9_isSet : ByteArray := prog_11_method_3_code
def yX9_isSet : MethodName := ⟨RX9, "isSet", "(I)Z"⟩
abbrev cX9_put : ByteArray := prog_11_method_4_code
def yX9_put : MethodName := ⟨RX9, "put", "(IJ)V"⟩
abbrev cX9_add : ByteArray := prog_11_method_5_code
def yX9_add : MethodName := ⟨RX9, "add", "(IJ)V"⟩
abbrev cX9_mark : ByteArray := prog_11_method_6_code
def yX9_mark : MethodName := ⟨RX9, "mark", "(IZ)V"⟩
abbrev cX9_fill : ByteArray := prog_11_method_7_code
def yX9_fill : MethodName := ⟨RX9, "fill", "(J)V"⟩
def RX10 : String := "MillstreamPayments$Terms"
def TX10 : u_T := fun k => match k with
  | 0 => ("MillstreamPayments$Terms", "from", "I", true)
  | 1 => ("MillstreamPayments$Terms", "to", "I", true)
  | 2 => ("MillstreamPayments$Terms", "currency", "I", true)
  | 3 => ("MillstreamPayments$Terms", "amount", "I", true)
  | 4 => ("MillstreamPayments$Terms", "payee", "I", false)
  | 5 => ("MillstreamPayments$Terms", "rank", "I", false)
  | 6 => ("MillstreamPayments$Terms", "isReal", "Z", false)
  | 7 => ("MillstreamPayments$Terms", "day", "I", false)
  | _ => ("MillstreamPayments$Terms", "stays", "Z", false)
def tyX10 : Nat → FieldType := fun k => match k with
  | 0 => .int
  | 1 => .int
  | 2 => .int
  | 3 => .int
  | 4 => .int
  | 5 => .int
  | 6 => .boolean
  | 7 => .int
  | _ => .boolean
abbrev wsX100 : List Cond := u_ws RX10 TX10 9
theorem nmX10 : ∀ a, a < 9 → ∀ b, b < 9 → a ≠ b → (TX10 a).2.1 ≠ (TX10 b).2.1 := by decide +kernel
theorem tyX10_ok : ∀ k, k < 9 → parseFieldDescriptor (TX10 k).2.2.1 = some (tyX10 k) := by decide +kernel
abbrev cX10_init : ByteArray := prog_12_method_1_code
def yX10_init : MethodName := ⟨RX10, "<init>", "(IIII)V"⟩
abbrev cX10_arrange : ByteArray := prog_12_method_2_code
def yX10_arrange : MethodName := ⟨RX10, "arrange", "(IIZIZ)V"⟩
abbrev cX10_isLike : ByteArray := prog_12_method_3_code
def yX10_isLike : MethodName := ⟨RX10, "isLike", "(LMillstreamPayments$Terms;)Z"⟩
abbrev cX10_isWayBackOf : ByteArray := prog_12_method_4_code
def yX10_isWayBackOf : MethodName := ⟨RX10, "isWayBackOf", "(LMillstreamPayments$Terms;)Z"⟩
def RX11 : String := "MillstreamPayments"
def TX11 : u_T := fun k => match k with
  | _ => ("MillstreamPayments", "exchange", "LMillstreamPayments$Exchange;", true)
def tyX11 : Nat → FieldType := fun k => match k with
  | _ => .object "MillstreamPayments$Exchange"
abbrev wsX110 : List Cond := u_ws RX11 TX11 1
theorem nmX11 : ∀ a, a < 1 → ∀ b, b < 1 → a ≠ b → (TX11 a).2.1 ≠ (TX11 b).2.1 := by decide +kernel
theorem tyX11_ok : ∀ k, k < 1 → parseFieldDescriptor (TX11 k).2.2.1 = some (tyX11 k) := by decide +kernel
abbrev cX11_init : ByteArray := prog_1_method_1_code
def yX11_init : MethodName := ⟨RX11, "<init>", "()V"⟩
abbrev cX11_fund : ByteArray := prog_1_method_2_code
def yX11_fund : MethodName := ⟨RX11, "fund", "(III)J"⟩
abbrev cX11_line : ByteArray := prog_1_method_3_code
def yX11_line : MethodName := ⟨RX11, "line", "(III)I"⟩
abbrev cX11_limit : ByteArray := prog_1_method_4_code
def yX11_limit : MethodName := ⟨RX11, "limit", "(IIII)I"⟩
abbrev cX11_out : ByteArray := prog_1_method_5_code
def yX11_out : MethodName := ⟨RX11, "out", "(IZ)Z"⟩
abbrev cX11_holiday : ByteArray := prog_1_method_6_code
def yX11_holiday : MethodName := ⟨RX11, "holiday", "(IIZ)Z"⟩
abbrev cX11_list : ByteArray := prog_1_method_7_code
def yX11_list : MethodName := ⟨RX11, "list", "(IZ)I"⟩
abbrev cX11_send : ByteArray := prog_1_method_8_code
def yX11_send : MethodName := ⟨RX11, "send", "(IIIIIIIZIZ)I"⟩
abbrev cX11_doubles : ByteArray := prog_1_method_9_code
def yX11_doubles : MethodName := ⟨RX11, "doubles", "()I"⟩
abbrev cX11_join : ByteArray := prog_1_method_10_code
def yX11_join : MethodName := ⟨RX11, "join", "(II)V"⟩
abbrev cX11_withdraw : ByteArray := prog_1_method_11_code
def yX11_withdraw : MethodName := ⟨RX11, "withdraw", "(I)I"⟩
abbrev cX11_release : ByteArray := prog_1_method_12_code
def yX11_release : MethodName := ⟨RX11, "release", "(II)Z"⟩
abbrev cX11_refuse : ByteArray := prog_1_method_13_code
def yX11_refuse : MethodName := ⟨RX11, "refuse", "(I)I"⟩
abbrev cX11_offset : ByteArray := prog_1_method_14_code
def yX11_offset : MethodName := ⟨RX11, "offset", "(I)I"⟩
abbrev cX11_recall : ByteArray := prog_1_method_15_code
def yX11_recall : MethodName := ⟨RX11, "recall", "(I)I"⟩
abbrev cX11_answer : ByteArray := prog_1_method_16_code
def yX11_answer : MethodName := ⟨RX11, "answer", "(IZ)I"⟩
abbrev cX11_endDay : ByteArray := prog_1_method_17_code
def yX11_endDay : MethodName := ⟨RX11, "endDay", "()I"⟩
abbrev cX11_today : ByteArray := prog_1_method_18_code
def yX11_today : MethodName := ⟨RX11, "today", "()I"⟩
abbrev cX11_account : ByteArray := prog_1_method_19_code
def yX11_account : MethodName := ⟨RX11, "account", "(II)J"⟩
abbrev cX11_accountAnew : ByteArray := prog_1_method_20_code
def yX11_accountAnew : MethodName := ⟨RX11, "accountAnew", "(II)J"⟩
abbrev cX11_paid : ByteArray := prog_1_method_21_code
def yX11_paid : MethodName := ⟨RX11, "paid", "(III)J"⟩
abbrev cX11_payments : ByteArray := prog_1_method_22_code
def yX11_payments : MethodName := ⟨RX11, "payments", "()I"⟩
abbrev cX11_stateOf : ByteArray := prog_1_method_23_code
def yX11_stateOf : MethodName := ⟨RX11, "stateOf", "(I)I"⟩
abbrev cX11_queueAt : ByteArray := prog_1_method_24_code
def yX11_queueAt : MethodName := ⟨RX11, "queueAt", "(III)I"⟩
abbrev cX11_entries : ByteArray := prog_1_method_25_code
def yX11_entries : MethodName := ⟨RX11, "entries", "()I"⟩
abbrev cX11_entryAt : ByteArray := prog_1_method_26_code
def yX11_entryAt : MethodName := ⟨RX11, "entryAt", "(II)J"⟩
abbrev cX11_advice : ByteArray := prog_1_method_27_code
def yX11_advice : MethodName := ⟨RX11, "advice", "(I)I"⟩
abbrev cX11_again : ByteArray := prog_1_method_28_code
def yX11_again : MethodName := ⟨RX11, "again", "(II)I"⟩
abbrev cX11_needPlace : ByteArray := prog_1_method_29_code
def yX11_needPlace : MethodName := ⟨RX11, "needPlace", "(II)V"⟩
abbrev cX11_needRange : ByteArray := prog_1_method_30_code
def yX11_needRange : MethodName := ⟨RX11, "needRange", "(III)V"⟩
abbrev cX11_needTwoBanks : ByteArray := prog_1_method_31_code
def yX11_needTwoBanks : MethodName := ⟨RX11, "needTwoBanks", "(II)V"⟩
abbrev cX11_needState : ByteArray := prog_1_method_32_code
def yX11_needState : MethodName := ⟨RX11, "needState", "(Z)V"⟩
abbrev cX11_needPayment : ByteArray := prog_1_method_33_code
def yX11_needPayment : MethodName := ⟨RX11, "needPayment", "(I)LMillstreamPayments$Payment;"⟩
abbrev cX11_accountSlot : ByteArray := prog_1_method_34_code
def yX11_accountSlot : MethodName := ⟨RX11, "accountSlot", "(II)I"⟩
abbrev cX11_pairSlot : ByteArray := prog_1_method_35_code
def yX11_pairSlot : MethodName := ⟨RX11, "pairSlot", "(III)I"⟩
def RX12 : String := "MillstreamPaymentsModel"
def TX12 : u_T := fun k => match k with
  | _ => ("", "", "", false)
def tyX12 : Nat → FieldType := fun k => match k with
  | _ => .int
abbrev wsX120 : List Cond := u_ws RX12 TX12 0
theorem nmX12 : ∀ a, a < 0 → ∀ b, b < 0 → a ≠ b → (TX12 a).2.1 ≠ (TX12 b).2.1 := by decide +kernel
theorem tyX12_ok : ∀ k, k < 0 → parseFieldDescriptor (TX12 k).2.2.1 = some (tyX12 k) := by decide +kernel
def RJx145de : String := "java/io/Serializable"
def TJx145de : u_T := fun k => match k with
  | _ => ("", "", "", false)
def tyJx145de : Nat → FieldType := fun k => match k with
  | _ => .int
abbrev wsJx145de0 : List Cond := u_ws RJx145de TJx145de 0
theorem nmJx145de : ∀ a, a < 0 → ∀ b, b < 0 → a ≠ b → (TJx145de a).2.1 ≠ (TJx145de b).2.1 := by decide +kernel
theorem tyJx145de_ok : ∀ k, k < 0 → parseFieldDescriptor (TJx145de k).2.2.1 = some (tyJx145de k) := by decide +kernel
def RJx8e188 : String := "java/lang/Cloneable"
def TJx8e188 : u_T := fun k => match k with
  | _ => ("", "", "", false)
def tyJx8e188 : Nat → FieldType := fun k => match k with
  | _ => .int
abbrev wsJx8e1880 : List Cond := u_ws RJx8e188 TJx8e188 0
theorem nmJx8e188 : ∀ a, a < 0 → ∀ b, b < 0 → a ≠ b → (TJx8e188 a).2.1 ≠ (TJx8e188 b).2.1 := by decide +kernel
theorem tyJx8e188_ok : ∀ k, k < 0 → parseFieldDescriptor (TJx8e188 k).2.2.1 = some (tyJx8e188 k) := by decide +kernel
def RJxab1ab : String := "java/lang/Iterable"
def TJxab1ab : u_T := fun k => match k with
  | _ => ("", "", "", false)
def tyJxab1ab : Nat → FieldType := fun k => match k with
  | _ => .int
abbrev wsJxab1ab0 : List Cond := u_ws RJxab1ab TJxab1ab 0
theorem nmJxab1ab : ∀ a, a < 0 → ∀ b, b < 0 → a ≠ b → (TJxab1ab a).2.1 ≠ (TJxab1ab b).2.1 := by decide +kernel
theorem tyJxab1ab_ok : ∀ k, k < 0 → parseFieldDescriptor (TJxab1ab k).2.2.1 = some (tyJxab1ab k) := by decide +kernel
def RJ9 : String := "java/lang/Math"
def TJ9 : u_T := fun k => match k with
  | _ => ("", "", "", false)
def tyJ9 : Nat → FieldType := fun k => match k with
  | _ => .int
abbrev wsJ90 : List Cond := u_ws RJ9 TJ9 0
theorem nmJ9 : ∀ a, a < 0 → ∀ b, b < 0 → a ≠ b → (TJ9 a).2.1 ≠ (TJ9 b).2.1 := by decide +kernel
theorem tyJ9_ok : ∀ k, k < 0 → parseFieldDescriptor (TJ9 k).2.2.1 = some (tyJ9 k) := by decide +kernel
abbrev cJ9_max_7cf53 : ByteArray := prog_22_method_65_code
def yJ9_max_7cf53 : MethodName := ⟨RJ9, "max", "(II)I"⟩
abbrev cJ9_max_f86c9 : ByteArray := prog_22_method_66_code
def yJ9_max_f86c9 : MethodName := ⟨RJ9, "max", "(JJ)J"⟩
abbrev cJ9_min_7cf53 : ByteArray := prog_22_method_69_code
def yJ9_min_7cf53 : MethodName := ⟨RJ9, "min", "(II)I"⟩
def RJ0 : String := "java/lang/String"
def TJ0 : u_T := fun k => match k with
  | _ => ("", "", "", false)
def tyJ0 : Nat → FieldType := fun k => match k with
  | _ => .int
abbrev wsJ00 : List Cond := u_ws RJ0 TJ0 0
theorem nmJ0 : ∀ a, a < 0 → ∀ b, b < 0 → a ≠ b → (TJ0 a).2.1 ≠ (TJ0 b).2.1 := by decide +kernel
theorem tyJ0_ok : ∀ k, k < 0 → parseFieldDescriptor (TJ0 k).2.2.1 = some (tyJ0 k) := by decide +kernel
def RJ10 : String := "java/lang/System"
def TJ10 : u_T := fun k => match k with
  | _ => ("", "", "", false)
def tyJ10 : Nat → FieldType := fun k => match k with
  | _ => .int
abbrev wsJ100 : List Cond := u_ws RJ10 TJ10 0
theorem nmJ10 : ∀ a, a < 0 → ∀ b, b < 0 → a ≠ b → (TJ10 a).2.1 ≠ (TJ10 b).2.1 := by decide +kernel
theorem tyJ10_ok : ∀ k, k < 0 → parseFieldDescriptor (TJ10 k).2.2.1 = some (tyJ10 k) := by decide +kernel
def RJxa1e45 : String := "java/util/AbstractCollection"
def TJxa1e45 : u_T := fun k => match k with
  | _ => ("", "", "", false)
def tyJxa1e45 : Nat → FieldType := fun k => match k with
  | _ => .int
abbrev wsJxa1e450 : List Cond := u_ws RJxa1e45 TJxa1e45 0
theorem nmJxa1e45 : ∀ a, a < 0 → ∀ b, b < 0 → a ≠ b → (TJxa1e45 a).2.1 ≠ (TJxa1e45 b).2.1 := by decide +kernel
theorem tyJxa1e45_ok : ∀ k, k < 0 → parseFieldDescriptor (TJxa1e45 k).2.2.1 = some (tyJxa1e45 k) := by decide +kernel
abbrev cJxa1e45_init_da8c8 : ByteArray := prog_27_method_1_code
def yJxa1e45_init_da8c8 : MethodName := ⟨RJxa1e45, "<init>", "()V"⟩
def RJxc12de : String := "java/util/AbstractList"
def TJxc12de : u_T := fun k => match k with
  | _ => ("", "", "", false)
def tyJxc12de : Nat → FieldType := fun k => match k with
  | _ => .int
abbrev wsJxc12de0 : List Cond := u_ws RJxc12de TJxc12de 0
theorem nmJxc12de : ∀ a, a < 0 → ∀ b, b < 0 → a ≠ b → (TJxc12de a).2.1 ≠ (TJxc12de b).2.1 := by decide +kernel
theorem tyJxc12de_ok : ∀ k, k < 0 → parseFieldDescriptor (TJxc12de k).2.2.1 = some (tyJxc12de k) := by decide +kernel
abbrev cJxc12de_init_da8c8 : ByteArray := prog_28_method_1_code
def yJxc12de_init_da8c8 : MethodName := ⟨RJxc12de, "<init>", "()V"⟩
def RJx4a65c : String := "java/util/ArrayList"
def TJx4a65c : u_T := fun k => match k with
  | 0 => ("java/util/AbstractList", "modCount", "I", false)
  | 1 => ("java/util/ArrayList", "elementData", "[Ljava/lang/Object;", false)
  | _ => ("java/util/ArrayList", "size", "I", false)
def tyJx4a65c : Nat → FieldType := fun k => match k with
  | 0 => .int
  | 1 => .array (.object "java/lang/Object")
  | _ => .int
abbrev wsJx4a65c0 : List Cond := u_ws RJx4a65c TJx4a65c 3
theorem nmJx4a65c : ∀ a, a < 3 → ∀ b, b < 3 → a ≠ b → (TJx4a65c a).2.1 ≠ (TJx4a65c b).2.1 := by decide +kernel
theorem tyJx4a65c_ok : ∀ k, k < 3 → parseFieldDescriptor (TJx4a65c k).2.2.1 = some (tyJx4a65c k) := by decide +kernel
abbrev cJx4a65c_init_da8c8 : ByteArray := prog_29_method_2_code
def yJx4a65c_init_da8c8 : MethodName := ⟨RJx4a65c, "<init>", "()V"⟩
abbrev cJx4a65c_grow_92f84 : ByteArray := prog_29_method_6_code
def yJx4a65c_grow_92f84 : MethodName := ⟨RJx4a65c, "grow", "(I)[Ljava/lang/Object;"⟩
abbrev cJx4a65c_grow_d5877 : ByteArray := prog_29_method_7_code
def yJx4a65c_grow_d5877 : MethodName := ⟨RJx4a65c, "grow", "()[Ljava/lang/Object;"⟩
abbrev cJx4a65c_size_8abf5 : ByteArray := prog_29_method_8_code
def yJx4a65c_size_8abf5 : MethodName := ⟨RJx4a65c, "size", "()I"⟩
abbrev cJx4a65c_elementData_915e3 : ByteArray := prog_29_method_18_code
def yJx4a65c_elementData_915e3 : MethodName := ⟨RJx4a65c, "elementData", "(I)Ljava/lang/Object;"⟩
abbrev cJx4a65c_get_915e3 : ByteArray := prog_29_method_20_code
def yJx4a65c_get_915e3 : MethodName := ⟨RJx4a65c, "get", "(I)Ljava/lang/Object;"⟩
abbrev cJx4a65c_add_72be8 : ByteArray := prog_29_method_24_code
def yJx4a65c_add_72be8 : MethodName := ⟨RJx4a65c, "add", "(Ljava/lang/Object;[Ljava/lang/Object;I)V"⟩
abbrev cJx4a65c_add_9ea2d : ByteArray := prog_29_method_25_code
def yJx4a65c_add_9ea2d : MethodName := ⟨RJx4a65c, "add", "(Ljava/lang/Object;)Z"⟩
def RJ7 : String := "java/util/Arrays"
def TJ7 : u_T := fun k => match k with
  | _ => ("", "", "", false)
def tyJ7 : Nat → FieldType := fun k => match k with
  | _ => .int
abbrev wsJ70 : List Cond := u_ws RJ7 TJ7 0
theorem nmJ7 : ∀ a, a < 0 → ∀ b, b < 0 → a ≠ b → (TJ7 a).2.1 ≠ (TJ7 b).2.1 := by decide +kernel
theorem tyJ7_ok : ∀ k, k < 0 → parseFieldDescriptor (TJ7 k).2.2.1 = some (tyJ7 k) := by decide +kernel
abbrev cJ7_copyOf_1904c : ByteArray := prog_30_method_119_code
def yJ7_copyOf_1904c : MethodName := ⟨RJ7, "copyOf", "([Ljava/lang/Object;I)[Ljava/lang/Object;"⟩
abbrev cJ7_copyOf_6403c : ByteArray := prog_30_method_120_code
def yJ7_copyOf_6403c : MethodName := ⟨RJ7, "copyOf", "([Ljava/lang/Object;ILjava/lang/Class;)[Ljava/lang/Object;"⟩
def RJx5ef63 : String := "java/util/Collection"
def TJx5ef63 : u_T := fun k => match k with
  | _ => ("", "", "", false)
def tyJx5ef63 : Nat → FieldType := fun k => match k with
  | _ => .int
abbrev wsJx5ef630 : List Cond := u_ws RJx5ef63 TJx5ef63 0
theorem nmJx5ef63 : ∀ a, a < 0 → ∀ b, b < 0 → a ≠ b → (TJx5ef63 a).2.1 ≠ (TJx5ef63 b).2.1 := by decide +kernel
theorem tyJx5ef63_ok : ∀ k, k < 0 → parseFieldDescriptor (TJx5ef63 k).2.2.1 = some (tyJx5ef63 k) := by decide +kernel
def RJxbd725 : String := "java/util/List"
def TJxbd725 : u_T := fun k => match k with
  | _ => ("", "", "", false)
def tyJxbd725 : Nat → FieldType := fun k => match k with
  | _ => .int
abbrev wsJxbd7250 : List Cond := u_ws RJxbd725 TJxbd725 0
theorem nmJxbd725 : ∀ a, a < 0 → ∀ b, b < 0 → a ≠ b → (TJxbd725 a).2.1 ≠ (TJxbd725 b).2.1 := by decide +kernel
theorem tyJxbd725_ok : ∀ k, k < 0 → parseFieldDescriptor (TJxbd725 k).2.2.1 = some (tyJxbd725 k) := by decide +kernel
def RJ15 : String := "java/util/Objects"
def TJ15 : u_T := fun k => match k with
  | _ => ("", "", "", false)
def tyJ15 : Nat → FieldType := fun k => match k with
  | _ => .int
abbrev wsJ150 : List Cond := u_ws RJ15 TJ15 0
theorem nmJ15 : ∀ a, a < 0 → ∀ b, b < 0 → a ≠ b → (TJ15 a).2.1 ≠ (TJ15 b).2.1 := by decide +kernel
theorem tyJ15_ok : ∀ k, k < 0 → parseFieldDescriptor (TJ15 k).2.2.1 = some (tyJ15 k) := by decide +kernel
abbrev cJ15_checkIndex_7cf53 : ByteArray := prog_33_method_17_code
def yJ15_checkIndex_7cf53 : MethodName := ⟨RJ15, "checkIndex", "(II)I"⟩
def RJxf0a74 : String := "java/util/RandomAccess"
def TJxf0a74 : u_T := fun k => match k with
  | _ => ("", "", "", false)
def tyJxf0a74 : Nat → FieldType := fun k => match k with
  | _ => .int
abbrev wsJxf0a740 : List Cond := u_ws RJxf0a74 TJxf0a74 0
theorem nmJxf0a74 : ∀ a, a < 0 → ∀ b, b < 0 → a ≠ b → (TJxf0a74 a).2.1 ≠ (TJxf0a74 b).2.1 := by decide +kernel
theorem tyJxf0a74_ok : ∀ k, k < 0 → parseFieldDescriptor (TJxf0a74 k).2.2.1 = some (tyJxf0a74 k) := by decide +kernel
def RJxa66e6 : String := "java/util/SequencedCollection"
def TJxa66e6 : u_T := fun k => match k with
  | _ => ("", "", "", false)
def tyJxa66e6 : Nat → FieldType := fun k => match k with
  | _ => .int
abbrev wsJxa66e60 : List Cond := u_ws RJxa66e6 TJxa66e6 0
theorem nmJxa66e6 : ∀ a, a < 0 → ∀ b, b < 0 → a ≠ b → (TJxa66e6 a).2.1 ≠ (TJxa66e6 b).2.1 := by decide +kernel
theorem tyJxa66e6_ok : ∀ k, k < 0 → parseFieldDescriptor (TJxa66e6 k).2.2.1 = some (tyJxa66e6 k) := by decide +kernel
def RJ8 : String := "jdk/internal/util/ArraysSupport"
def TJ8 : u_T := fun k => match k with
  | _ => ("", "", "", false)
def tyJ8 : Nat → FieldType := fun k => match k with
  | _ => .int
abbrev wsJ80 : List Cond := u_ws RJ8 TJ8 0
theorem nmJ8 : ∀ a, a < 0 → ∀ b, b < 0 → a ≠ b → (TJ8 a).2.1 ≠ (TJ8 b).2.1 := by decide +kernel
theorem tyJ8_ok : ∀ k, k < 0 → parseFieldDescriptor (TJ8 k).2.2.1 = some (tyJ8 k) := by decide +kernel
abbrev cJ8_newLength_cabcc : ByteArray := prog_36_method_27_code
def yJ8_newLength_cabcc : MethodName := ⟨RJ8, "newLength", "(III)I"⟩
abbrev cJ8_hugeLength_7cf53 : ByteArray := prog_36_method_28_code
def yJ8_hugeLength_7cf53 : MethodName := ⟨RJ8, "hugeLength", "(II)I"⟩
def RJ3 : String := "jdk/internal/util/Preconditions"
def TJ3 : u_T := fun k => match k with
  | _ => ("", "", "", false)
def tyJ3 : Nat → FieldType := fun k => match k with
  | _ => .int
abbrev wsJ30 : List Cond := u_ws RJ3 TJ3 0
theorem nmJ3 : ∀ a, a < 0 → ∀ b, b < 0 → a ≠ b → (TJ3 a).2.1 ≠ (TJ3 b).2.1 := by decide +kernel
theorem tyJ3_ok : ∀ k, k < 0 → parseFieldDescriptor (TJ3 k).2.2.1 = some (tyJ3 k) := by decide +kernel
abbrev cJ3_checkIndex_8e157 : ByteArray := prog_37_method_11_code
def yJ3_checkIndex_8e157 : MethodName := ⟨RJ3, "checkIndex", "(IILjava/util/function/BiFunction;)I"⟩
def RL : String := "MillstreamPaymentsLaw"
abbrev cL_at : ByteArray := method_2_code
def yL_at : MethodName := ⟨RL, "at", "([II)I"⟩
abbrev cL_low : ByteArray := method_3_code
def yL_low : MethodName := ⟨RL, "low", "(II)I"⟩
abbrev cL_line : ByteArray := method_4_code
def yL_line : MethodName := ⟨RL, "line", "(LMillstreamPayments;III)I"⟩
abbrev cL_limit : ByteArray := method_5_code
def yL_limit : MethodName := ⟨RL, "limit", "(LMillstreamPayments;IIII)I"⟩
abbrev cL_out : ByteArray := method_6_code
def yL_out : MethodName := ⟨RL, "out", "(LMillstreamPayments;IZ)I"⟩
abbrev cL_holiday : ByteArray := method_7_code
def yL_holiday : MethodName := ⟨RL, "holiday", "(LMillstreamPayments;IIZ)I"⟩
abbrev cL_list : ByteArray := method_8_code
def yL_list : MethodName := ⟨RL, "list", "(LMillstreamPayments;IZ)I"⟩
abbrev cL_send : ByteArray := method_9_code
def yL_send : MethodName := ⟨RL, "send", "(LMillstreamPayments;IIIIIIIZIZ)I"⟩
abbrev cL_join : ByteArray := method_10_code
def yL_join : MethodName := ⟨RL, "join", "(LMillstreamPayments;II)I"⟩
abbrev cL_withdraw : ByteArray := method_11_code
def yL_withdraw : MethodName := ⟨RL, "withdraw", "(LMillstreamPayments;I)I"⟩
abbrev cL_release : ByteArray := method_12_code
def yL_release : MethodName := ⟨RL, "release", "(LMillstreamPayments;II)I"⟩
abbrev cL_refuse : ByteArray := method_13_code
def yL_refuse : MethodName := ⟨RL, "refuse", "(LMillstreamPayments;I)I"⟩
abbrev cL_offset : ByteArray := method_14_code
def yL_offset : MethodName := ⟨RL, "offset", "(LMillstreamPayments;I)I"⟩
abbrev cL_recall : ByteArray := method_15_code
def yL_recall : MethodName := ⟨RL, "recall", "(LMillstreamPayments;I)I"⟩
abbrev cL_answer : ByteArray := method_16_code
def yL_answer : MethodName := ⟨RL, "answer", "(LMillstreamPayments;IZ)I"⟩
abbrev cL_endDay : ByteArray := method_17_code
def yL_endDay : MethodName := ⟨RL, "endDay", "(LMillstreamPayments;)I"⟩
abbrev cL_stateOf : ByteArray := method_18_code
def yL_stateOf : MethodName := ⟨RL, "stateOf", "(LMillstreamPayments;I)I"⟩
abbrev cL_queueAt : ByteArray := method_19_code
def yL_queueAt : MethodName := ⟨RL, "queueAt", "(LMillstreamPayments;III)I"⟩
abbrev cL_advice : ByteArray := method_20_code
def yL_advice : MethodName := ⟨RL, "advice", "(LMillstreamPayments;I)I"⟩
abbrev cL_again : ByteArray := method_21_code
def yL_again : MethodName := ⟨RL, "again", "(LMillstreamPayments;II)I"⟩
abbrev cL_fund : ByteArray := method_22_code
def yL_fund : MethodName := ⟨RL, "fund", "(LMillstreamPayments;III)J"⟩
abbrev cL_account : ByteArray := method_23_code
def yL_account : MethodName := ⟨RL, "account", "(LMillstreamPayments;II)J"⟩
abbrev cL_accountAnew : ByteArray := method_24_code
def yL_accountAnew : MethodName := ⟨RL, "accountAnew", "(LMillstreamPayments;II)J"⟩
abbrev cL_paid : ByteArray := method_25_code
def yL_paid : MethodName := ⟨RL, "paid", "(LMillstreamPayments;III)J"⟩
abbrev cL_entryAt : ByteArray := method_26_code
def yL_entryAt : MethodName := ⟨RL, "entryAt", "(LMillstreamPayments;II)J"⟩
abbrev cL_sends : ByteArray := method_27_code
def yL_sends : MethodName := ⟨RL, "sends", "(LMillstreamPayments;[I[I[I[III)Z"⟩
abbrev cL_changes : ByteArray := method_28_code
def yL_changes : MethodName := ⟨RL, "changes", "(LMillstreamPayments;[I[JII)Z"⟩
abbrev cL_goesOn : ByteArray := method_29_code
def yL_goesOn : MethodName := ⟨RL, "goesOn", "(LMillstreamPayments;[I[I[I[III)Z"⟩
abbrev cL_isBook : ByteArray := method_30_code
def yL_isBook : MethodName := ⟨RL, "isBook", "(LMillstreamPayments;[I[I[I[I[I[J)Z"⟩
abbrev cL_areQueues : ByteArray := method_31_code
def yL_areQueues : MethodName := ⟨RL, "areQueues", "(LMillstreamPayments;[I[I[I[II)Z"⟩
abbrev cL_law : ByteArray := code
def yL_law : MethodName := ⟨RL, "law", "([I)Z"⟩
abbrev vwCl : List vw_C := [(RJx4a65c, TJx4a65c, 3), (RX0, TX0, 5), (RX1, TX1, 4), (RX2, TX2, 3), (RX3, TX3, 1), (RX4, TX4, 2), (RX5, TX5, 5), (RX6, TX6, 8), (RX7, TX7, 9), (RX8, TX8, 2), (RX9, TX9, 1), (RX10, TX10, 9), (RX11, TX11, 1)]
