theorem gd_in {B big ws : List Cond} (hB : ∀ w ∈ B, w ∈ big) (hg : B.all goodWord = true) (h : ∀ w ∈ ws, w ∈ B) : GoodIn big ws := fun w hw => ⟨hB w (h w hw), good_of_word (List.all_eq_true.mp hg w (h w hw))⟩
theorem gd_V {B : List Cond} {l i s n c : Cond} (h1 : l ∈ B) (h2 : i ∈ B) (h3 : s ∈ B) (h4 : n ∈ B) (h5 : c ∈ B) : ∀ w ∈ ([l, i, s, n] ++ (c :: B) : List Cond), w ∈ B := by
  intro w hw
  simp only [List.cons_append, List.nil_append, List.mem_cons] at hw
  rcases hw with rfl | rfl | rfl | rfl | rfl | h <;> assumption
theorem gd_S {B : List Cond} {l s n c : Cond} (h1 : l ∈ B) (h3 : s ∈ B) (h4 : n ∈ B) (h5 : c ∈ B) : ∀ w ∈ ([l, s, n] ++ (c :: B) : List Cond), w ∈ B := by
  intro w hw
  simp only [List.cons_append, List.nil_append, List.mem_cons] at hw
  rcases hw with rfl | rfl | rfl | rfl | h <;> assumption
def wsM_0 : List Cond := [.methodLink RX12 1 objectInit, .instanceMethod objectInit, .code objectInit ⟨#[0xb1]⟩ 1 none, .arrayClass .long, .fieldLink RX12 7 "MillstreamPaymentsModel" "account" "[J", .arrayClass .int, .fieldLink RX12 13 "MillstreamPaymentsModel" "line" "[I", .fieldLink RX12 17 "MillstreamPaymentsModel" "limit" "[I", .fieldLink RX12 20 "MillstreamPaymentsModel" "paid" "[J", .arrayClass .boolean, .fieldLink RX12 23 "MillstreamPaymentsModel" "isOut" "[Z", .fieldLink RX12 27 "MillstreamPaymentsModel" "isHoliday" "[Z", .fieldLink RX12 30 "MillstreamPaymentsModel" "isListed" "[Z", .fieldLink RX12 33 "MillstreamPaymentsModel" "from" "[I", .fieldLink RX12 36 "MillstreamPaymentsModel" "to" "[I", .fieldLink RX12 39 "MillstreamPaymentsModel" "currency" "[I", .fieldLink RX12 42 "MillstreamPaymentsModel" "amount" "[I", .fieldLink RX12 45 "MillstreamPaymentsModel" "payee" "[I", .fieldLink RX12 48 "MillstreamPaymentsModel" "rank" "[I", .fieldLink RX12 51 "MillstreamPaymentsModel" "isReal" "[Z", .fieldLink RX12 54 "MillstreamPaymentsModel" "day" "[I", .fieldLink RX12 57 "MillstreamPaymentsModel" "stays" "[Z", .fieldLink RX12 60 "MillstreamPaymentsModel" "state" "[I", .fieldLink RX12 63 "MillstreamPaymentsModel" "isReleased" "[Z", .fieldLink RX12 66 "MillstreamPaymentsModel" "officer" "[I"]
def wsM_1 : List Cond := [.fieldLink RX12 69 "MillstreamPaymentsModel" "leg" "[I", .fieldLink RX12 72 "MillstreamPaymentsModel" "finalOn" "[I", .fieldLink RX12 75 "MillstreamPaymentsModel" "recalledOn" "[I", .fieldLink RX12 78 "MillstreamPaymentsModel" "isAnswered" "[Z", .fieldLink RX12 81 "MillstreamPaymentsModel" "message" "[I", .fieldLink RX12 84 "MillstreamPaymentsModel" "finished" "[I", .fieldLink RX12 87 "MillstreamPaymentsModel" "taken" "[I", .fieldLink RX12 90 "MillstreamPaymentsModel" "most" "[I", .constant RX12 93 (150000), .fieldLink RX12 94 "MillstreamPaymentsModel" "entry" "[J", .fieldLink RX12 97 "MillstreamPaymentsModel" "isIn" "[Z", .fieldLink RX12 100 "MillstreamPaymentsModel" "more" "[J", .fieldLink RX12 103 "MillstreamPaymentsModel" "morePaid" "[J", .fieldLink RX12 106 "MillstreamPaymentsModel" "thrown" "I", .methodLink RX12 110 yX12_in, .static yX12_in, .initialized RX12, .code yX12_in cX12_in 3 (some .boolean), .fieldLink RX12 114 "MillstreamPaymentsModel" "payments" "I", .fieldLink RX12 117 "MillstreamPaymentsModel" "entries" "I", .methodLink RX12 120 yX12_of, .static yX12_of, .code yX12_of cX12_of 2 (some .int), .methodLink RX12 124 yX12_pair, .static yX12_pair]
def wsM_2 : List Cond := [.code yX12_pair cX12_pair 3 (some .int), .methodLink RX12 128 yX12_isShort, .instanceMethod yX12_isShort, .selects RX12 yX12_isShort yX12_isShort, .code yX12_isShort cX12_isShort 4 (some .boolean), .methodLink RX12 132 yX12_isPassed, .instanceMethod yX12_isPassed, .selects RX12 yX12_isPassed yX12_isPassed, .code yX12_isPassed cX12_isPassed 5 (some .boolean), .fieldLink RX12 135 "MillstreamPaymentsModel" "today" "I", .methodLink RX12 138 yX12_isOpen, .instanceMethod yX12_isOpen, .selects RX12 yX12_isOpen yX12_isOpen, .code yX12_isOpen cX12_isOpen 3 (some .boolean), .fieldLink RX12 145 "MillstreamPaymentsModel" "finals" "I", .methodLink RX12 141 yX12_books, .instanceMethod yX12_books, .selects RX12 yX12_books yX12_books, .code yX12_books cX12_books 7 none, .methodLink RX12 148 yX12_queued, .instanceMethod yX12_queued, .selects RX12 yX12_queued yX12_queued, .code yX12_queued cX12_queued 7 (some .int), .methodLink RX12 151 yX12_clears, .instanceMethod yX12_clears]
def wsM_3 : List Cond := [.selects RX12 yX12_clears yX12_clears, .code yX12_clears cX12_clears 2 none, .methodLink RX12 154 yX12_sums, .instanceMethod yX12_sums, .selects RX12 yX12_sums yX12_sums, .code yX12_sums cX12_sums 2 none, .methodLink RX12 157 yX12_areAtWork, .instanceMethod yX12_areAtWork, .selects RX12 yX12_areAtWork yX12_areAtWork, .code yX12_areAtWork cX12_areAtWork 3 (some .boolean), .methodLink RX12 161 yX12_fits, .instanceMethod yX12_fits, .selects RX12 yX12_fits yX12_fits, .code yX12_fits cX12_fits 5 (some .boolean), .methodLink RX12 165 yX12_settles, .instanceMethod yX12_settles, .selects RX12 yX12_settles yX12_settles, .code yX12_settles cX12_settles 3 (some .int), .methodLink RX12 169 yX12_settlesFirst, .instanceMethod yX12_settlesFirst, .selects RX12 yX12_settlesFirst yX12_settlesFirst, .code yX12_settlesFirst cX12_settlesFirst 4 (some .int), .methodLink RX12 172 yX12_last, .instanceMethod yX12_last, .selects RX12 yX12_last yX12_last]
def wsM_4 : List Cond := [.code yX12_last cX12_last 7 (some .int), .methodLink RX12 176 yX12_isShortAny, .instanceMethod yX12_isShortAny, .selects RX12 yX12_isShortAny yX12_isShortAny, .code yX12_isShortAny cX12_isShortAny 4 (some .boolean), .methodLink RX12 179 yX12_enters, .instanceMethod yX12_enters, .selects RX12 yX12_enters yX12_enters, .code yX12_enters cX12_enters 2 none, .constant RX12 192 (1000000), .fieldLink RX12 201 "MillstreamPaymentsModel" "doubles" "I", .methodLink RX12 183 yX12_isBank, .static yX12_isBank, .code yX12_isBank cX12_isBank 1 (some .boolean), .methodLink RX12 186 yX12_isCurrency, .static yX12_isCurrency, .code yX12_isCurrency cX12_isCurrency 1 (some .boolean), .methodLink RX12 189 yX12_isName, .static yX12_isName, .code yX12_isName cX12_isName 1 (some .boolean), .methodLink RX12 193 yX12_isAlike, .instanceMethod yX12_isAlike, .selects RX12 yX12_isAlike yX12_isAlike, .code yX12_isAlike cX12_isAlike 10 (some .boolean), .methodLink RX12 197 yX12_goes]
def wsM_5 : List Cond := [.instanceMethod yX12_goes, .selects RX12 yX12_goes yX12_goes, .code yX12_goes cX12_goes 4 (some .boolean), .methodLink RX12 204 yX12_comes, .instanceMethod yX12_comes, .selects RX12 yX12_comes yX12_comes, .code yX12_comes cX12_comes 11 (some .int), .methodLink RX12 208 yX12_runs, .instanceMethod yX12_runs, .selects RX12 yX12_runs yX12_runs, .code yX12_runs cX12_runs 5 (some .int), .methodLink RX12 211 yX12_ends, .instanceMethod yX12_ends, .selects RX12 yX12_ends yX12_ends, .code yX12_ends cX12_ends 2 (some .boolean), .methodLink RX12 214 yX12_isPayment, .instanceMethod yX12_isPayment, .selects RX12 yX12_isPayment yX12_isPayment, .code yX12_isPayment cX12_isPayment 2 (some .boolean), .methodLink RX12 217 yX12_canJoin, .instanceMethod yX12_canJoin, .selects RX12 yX12_canJoin yX12_canJoin, .code yX12_canJoin cX12_canJoin 4 (some .boolean), .methodLink RX12 220 yX12_returns, .instanceMethod yX12_returns]
def wsM_6 : List Cond := [.selects RX12 yX12_returns yX12_returns, .code yX12_returns cX12_returns 3 (some .int), .methodLink RX12 224 yX12_reduces, .instanceMethod yX12_reduces, .selects RX12 yX12_reduces yX12_reduces, .code yX12_reduces cX12_reduces 5 (some .int), .constantLong RX12 228 (99), .constantLong RX12 230 (100), .methodLink RX12 232 yX12_cutsOff, .instanceMethod yX12_cutsOff, .selects RX12 yX12_cutsOff yX12_cutsOff, .code yX12_cutsOff cX12_cutsOff 3 (some .int), .methodLink RX12 235 yX12_charges, .instanceMethod yX12_charges, .selects RX12 yX12_charges yX12_charges, .code yX12_charges cX12_charges 8 none, .methodLink RX12 239 yX12_isAccount, .static yX12_isAccount, .code yX12_isAccount cX12_isAccount 1 (some .boolean), .methodLink RX12 242 yX12_adviceAt, .instanceMethod yX12_adviceAt, .selects RX12 yX12_adviceAt yX12_adviceAt, .code yX12_adviceAt cX12_adviceAt 5 (some .int)]
def wsM : List Cond := (wsM_0 ++ (wsM_1 ++ (wsM_2 ++ (wsM_3 ++ (wsM_4 ++ (wsM_5 ++ (wsM_6 ++ wsX120)))))))
theorem wsMw_0 : (.methodLink RX12 1 objectInit : Cond) ∈ wsM := List.mem_append_left _ (List.mem_of_getElem? (l := wsM_0) (i := 0) rfl)
theorem wsMw_1 : (.instanceMethod objectInit : Cond) ∈ wsM := List.mem_append_left _ (List.mem_of_getElem? (l := wsM_0) (i := 1) rfl)
theorem wsMw_2 : (.code objectInit ⟨#[0xb1]⟩ 1 none : Cond) ∈ wsM := List.mem_append_left _ (List.mem_of_getElem? (l := wsM_0) (i := 2) rfl)
theorem wsMw_3 : (.arrayClass .long : Cond) ∈ wsM := List.mem_append_left _ (List.mem_of_getElem? (l := wsM_0) (i := 3) rfl)
theorem wsMw_4 : (.fieldLink RX12 7 "MillstreamPaymentsModel" "account" "[J" : Cond) ∈ wsM := List.mem_append_left _ (List.mem_of_getElem? (l := wsM_0) (i := 4) rfl)
theorem wsMw_5 : (.arrayClass .int : Cond) ∈ wsM := List.mem_append_left _ (List.mem_of_getElem? (l := wsM_0) (i := 5) rfl)
theorem wsMw_6 : (.fieldLink RX12 13 "MillstreamPaymentsModel" "line" "[I" : Cond) ∈ wsM := List.mem_append_left _ (List.mem_of_getElem? (l := wsM_0) (i := 6) rfl)
theorem wsMw_7 : (.fieldLink RX12 17 "MillstreamPaymentsModel" "limit" "[I" : Cond) ∈ wsM := List.mem_append_left _ (List.mem_of_getElem? (l := wsM_0) (i := 7) rfl)
theorem wsMw_8 : (.fieldLink RX12 20 "MillstreamPaymentsModel" "paid" "[J" : Cond) ∈ wsM := List.mem_append_left _ (List.mem_of_getElem? (l := wsM_0) (i := 8) rfl)
theorem wsMw_9 : (.arrayClass .boolean : Cond) ∈ wsM := List.mem_append_left _ (List.mem_of_getElem? (l := wsM_0) (i := 9) rfl)
theorem wsMw_10 : (.fieldLink RX12 23 "MillstreamPaymentsModel" "isOut" "[Z" : Cond) ∈ wsM := List.mem_append_left _ (List.mem_of_getElem? (l := wsM_0) (i := 10) rfl)
theorem wsMw_11 : (.fieldLink RX12 27 "MillstreamPaymentsModel" "isHoliday" "[Z" : Cond) ∈ wsM := List.mem_append_left _ (List.mem_of_getElem? (l := wsM_0) (i := 11) rfl)
theorem wsMw_12 : (.fieldLink RX12 30 "MillstreamPaymentsModel" "isListed" "[Z" : Cond) ∈ wsM := List.mem_append_left _ (List.mem_of_getElem? (l := wsM_0) (i := 12) rfl)
theorem wsMw_13 : (.fieldLink RX12 33 "MillstreamPaymentsModel" "from" "[I" : Cond) ∈ wsM := List.mem_append_left _ (List.mem_of_getElem? (l := wsM_0) (i := 13) rfl)
theorem wsMw_14 : (.fieldLink RX12 36 "MillstreamPaymentsModel" "to" "[I" : Cond) ∈ wsM := List.mem_append_left _ (List.mem_of_getElem? (l := wsM_0) (i := 14) rfl)
theorem wsMw_15 : (.fieldLink RX12 39 "MillstreamPaymentsModel" "currency" "[I" : Cond) ∈ wsM := List.mem_append_left _ (List.mem_of_getElem? (l := wsM_0) (i := 15) rfl)
theorem wsMw_16 : (.fieldLink RX12 42 "MillstreamPaymentsModel" "amount" "[I" : Cond) ∈ wsM := List.mem_append_left _ (List.mem_of_getElem? (l := wsM_0) (i := 16) rfl)
theorem wsMw_17 : (.fieldLink RX12 45 "MillstreamPaymentsModel" "payee" "[I" : Cond) ∈ wsM := List.mem_append_left _ (List.mem_of_getElem? (l := wsM_0) (i := 17) rfl)
theorem wsMw_18 : (.fieldLink RX12 48 "MillstreamPaymentsModel" "rank" "[I" : Cond) ∈ wsM := List.mem_append_left _ (List.mem_of_getElem? (l := wsM_0) (i := 18) rfl)
theorem wsMw_19 : (.fieldLink RX12 51 "MillstreamPaymentsModel" "isReal" "[Z" : Cond) ∈ wsM := List.mem_append_left _ (List.mem_of_getElem? (l := wsM_0) (i := 19) rfl)
theorem wsMw_20 : (.fieldLink RX12 54 "MillstreamPaymentsModel" "day" "[I" : Cond) ∈ wsM := List.mem_append_left _ (List.mem_of_getElem? (l := wsM_0) (i := 20) rfl)
theorem wsMw_21 : (.fieldLink RX12 57 "MillstreamPaymentsModel" "stays" "[Z" : Cond) ∈ wsM := List.mem_append_left _ (List.mem_of_getElem? (l := wsM_0) (i := 21) rfl)
theorem wsMw_22 : (.fieldLink RX12 60 "MillstreamPaymentsModel" "state" "[I" : Cond) ∈ wsM := List.mem_append_left _ (List.mem_of_getElem? (l := wsM_0) (i := 22) rfl)
theorem wsMw_23 : (.fieldLink RX12 63 "MillstreamPaymentsModel" "isReleased" "[Z" : Cond) ∈ wsM := List.mem_append_left _ (List.mem_of_getElem? (l := wsM_0) (i := 23) rfl)
theorem wsMw_24 : (.fieldLink RX12 66 "MillstreamPaymentsModel" "officer" "[I" : Cond) ∈ wsM := List.mem_append_left _ (List.mem_of_getElem? (l := wsM_0) (i := 24) rfl)
theorem wsMw_25 : (.fieldLink RX12 69 "MillstreamPaymentsModel" "leg" "[I" : Cond) ∈ wsM := List.mem_append_right _ (List.mem_append_left _ (List.mem_of_getElem? (l := wsM_1) (i := 0) rfl))
theorem wsMw_26 : (.fieldLink RX12 72 "MillstreamPaymentsModel" "finalOn" "[I" : Cond) ∈ wsM := List.mem_append_right _ (List.mem_append_left _ (List.mem_of_getElem? (l := wsM_1) (i := 1) rfl))
theorem wsMw_27 : (.fieldLink RX12 75 "MillstreamPaymentsModel" "recalledOn" "[I" : Cond) ∈ wsM := List.mem_append_right _ (List.mem_append_left _ (List.mem_of_getElem? (l := wsM_1) (i := 2) rfl))
theorem wsMw_28 : (.fieldLink RX12 78 "MillstreamPaymentsModel" "isAnswered" "[Z" : Cond) ∈ wsM := List.mem_append_right _ (List.mem_append_left _ (List.mem_of_getElem? (l := wsM_1) (i := 3) rfl))
theorem wsMw_29 : (.fieldLink RX12 81 "MillstreamPaymentsModel" "message" "[I" : Cond) ∈ wsM := List.mem_append_right _ (List.mem_append_left _ (List.mem_of_getElem? (l := wsM_1) (i := 4) rfl))
theorem wsMw_30 : (.fieldLink RX12 84 "MillstreamPaymentsModel" "finished" "[I" : Cond) ∈ wsM := List.mem_append_right _ (List.mem_append_left _ (List.mem_of_getElem? (l := wsM_1) (i := 5) rfl))
theorem wsMw_31 : (.fieldLink RX12 87 "MillstreamPaymentsModel" "taken" "[I" : Cond) ∈ wsM := List.mem_append_right _ (List.mem_append_left _ (List.mem_of_getElem? (l := wsM_1) (i := 6) rfl))
theorem wsMw_32 : (.fieldLink RX12 90 "MillstreamPaymentsModel" "most" "[I" : Cond) ∈ wsM := List.mem_append_right _ (List.mem_append_left _ (List.mem_of_getElem? (l := wsM_1) (i := 7) rfl))
theorem wsMw_33 : (.constant RX12 93 (150000) : Cond) ∈ wsM := List.mem_append_right _ (List.mem_append_left _ (List.mem_of_getElem? (l := wsM_1) (i := 8) rfl))
theorem wsMw_34 : (.fieldLink RX12 94 "MillstreamPaymentsModel" "entry" "[J" : Cond) ∈ wsM := List.mem_append_right _ (List.mem_append_left _ (List.mem_of_getElem? (l := wsM_1) (i := 9) rfl))
theorem wsMw_35 : (.fieldLink RX12 97 "MillstreamPaymentsModel" "isIn" "[Z" : Cond) ∈ wsM := List.mem_append_right _ (List.mem_append_left _ (List.mem_of_getElem? (l := wsM_1) (i := 10) rfl))
theorem wsMw_36 : (.fieldLink RX12 100 "MillstreamPaymentsModel" "more" "[J" : Cond) ∈ wsM := List.mem_append_right _ (List.mem_append_left _ (List.mem_of_getElem? (l := wsM_1) (i := 11) rfl))
theorem wsMw_37 : (.fieldLink RX12 103 "MillstreamPaymentsModel" "morePaid" "[J" : Cond) ∈ wsM := List.mem_append_right _ (List.mem_append_left _ (List.mem_of_getElem? (l := wsM_1) (i := 12) rfl))
theorem wsMw_38 : (.fieldLink RX12 106 "MillstreamPaymentsModel" "thrown" "I" : Cond) ∈ wsM := List.mem_append_right _ (List.mem_append_left _ (List.mem_of_getElem? (l := wsM_1) (i := 13) rfl))
theorem wsMw_39 : (.methodLink RX12 110 yX12_in : Cond) ∈ wsM := List.mem_append_right _ (List.mem_append_left _ (List.mem_of_getElem? (l := wsM_1) (i := 14) rfl))
theorem wsMw_40 : (.static yX12_in : Cond) ∈ wsM := List.mem_append_right _ (List.mem_append_left _ (List.mem_of_getElem? (l := wsM_1) (i := 15) rfl))
theorem wsMw_41 : (.initialized RX12 : Cond) ∈ wsM := List.mem_append_right _ (List.mem_append_left _ (List.mem_of_getElem? (l := wsM_1) (i := 16) rfl))
theorem wsMw_42 : (.code yX12_in cX12_in 3 (some .boolean) : Cond) ∈ wsM := List.mem_append_right _ (List.mem_append_left _ (List.mem_of_getElem? (l := wsM_1) (i := 17) rfl))
theorem wsMw_43 : (.fieldLink RX12 114 "MillstreamPaymentsModel" "payments" "I" : Cond) ∈ wsM := List.mem_append_right _ (List.mem_append_left _ (List.mem_of_getElem? (l := wsM_1) (i := 18) rfl))
theorem wsMw_44 : (.fieldLink RX12 117 "MillstreamPaymentsModel" "entries" "I" : Cond) ∈ wsM := List.mem_append_right _ (List.mem_append_left _ (List.mem_of_getElem? (l := wsM_1) (i := 19) rfl))
theorem wsMw_45 : (.methodLink RX12 120 yX12_of : Cond) ∈ wsM := List.mem_append_right _ (List.mem_append_left _ (List.mem_of_getElem? (l := wsM_1) (i := 20) rfl))
theorem wsMw_46 : (.static yX12_of : Cond) ∈ wsM := List.mem_append_right _ (List.mem_append_left _ (List.mem_of_getElem? (l := wsM_1) (i := 21) rfl))
theorem wsMw_47 : (.code yX12_of cX12_of 2 (some .int) : Cond) ∈ wsM := List.mem_append_right _ (List.mem_append_left _ (List.mem_of_getElem? (l := wsM_1) (i := 22) rfl))
theorem wsMw_48 : (.methodLink RX12 124 yX12_pair : Cond) ∈ wsM := List.mem_append_right _ (List.mem_append_left _ (List.mem_of_getElem? (l := wsM_1) (i := 23) rfl))
theorem wsMw_49 : (.static yX12_pair : Cond) ∈ wsM := List.mem_append_right _ (List.mem_append_left _ (List.mem_of_getElem? (l := wsM_1) (i := 24) rfl))
theorem wsMw_50 : (.code yX12_pair cX12_pair 3 (some .int) : Cond) ∈ wsM := List.mem_append_right _ (List.mem_append_right _ (List.mem_append_left _ (List.mem_of_getElem? (l := wsM_2) (i := 0) rfl)))
theorem wsMw_51 : (.methodLink RX12 128 yX12_isShort : Cond) ∈ wsM := List.mem_append_right _ (List.mem_append_right _ (List.mem_append_left _ (List.mem_of_getElem? (l := wsM_2) (i := 1) rfl)))
theorem wsMw_52 : (.instanceMethod yX12_isShort : Cond) ∈ wsM := List.mem_append_right _ (List.mem_append_right _ (List.mem_append_left _ (List.mem_of_getElem? (l := wsM_2) (i := 2) rfl)))
theorem wsMw_53 : (.selects RX12 yX12_isShort yX12_isShort : Cond) ∈ wsM := List.mem_append_right _ (List.mem_append_right _ (List.mem_append_left _ (List.mem_of_getElem? (l := wsM_2) (i := 3) rfl)))
theorem wsMw_54 : (.code yX12_isShort cX12_isShort 4 (some .boolean) : Cond) ∈ wsM := List.mem_append_right _ (List.mem_append_right _ (List.mem_append_left _ (List.mem_of_getElem? (l := wsM_2) (i := 4) rfl)))
theorem wsMw_55 : (.methodLink RX12 132 yX12_isPassed : Cond) ∈ wsM := List.mem_append_right _ (List.mem_append_right _ (List.mem_append_left _ (List.mem_of_getElem? (l := wsM_2) (i := 5) rfl)))
theorem wsMw_56 : (.instanceMethod yX12_isPassed : Cond) ∈ wsM := List.mem_append_right _ (List.mem_append_right _ (List.mem_append_left _ (List.mem_of_getElem? (l := wsM_2) (i := 6) rfl)))
theorem wsMw_57 : (.selects RX12 yX12_isPassed yX12_isPassed : Cond) ∈ wsM := List.mem_append_right _ (List.mem_append_right _ (List.mem_append_left _ (List.mem_of_getElem? (l := wsM_2) (i := 7) rfl)))
theorem wsMw_58 : (.code yX12_isPassed cX12_isPassed 5 (some .boolean) : Cond) ∈ wsM := List.mem_append_right _ (List.mem_append_right _ (List.mem_append_left _ (List.mem_of_getElem? (l := wsM_2) (i := 8) rfl)))
theorem wsMw_59 : (.fieldLink RX12 135 "MillstreamPaymentsModel" "today" "I" : Cond) ∈ wsM := List.mem_append_right _ (List.mem_append_right _ (List.mem_append_left _ (List.mem_of_getElem? (l := wsM_2) (i := 9) rfl)))
theorem wsMw_60 : (.methodLink RX12 138 yX12_isOpen : Cond) ∈ wsM := List.mem_append_right _ (List.mem_append_right _ (List.mem_append_left _ (List.mem_of_getElem? (l := wsM_2) (i := 10) rfl)))
theorem wsMw_61 : (.instanceMethod yX12_isOpen : Cond) ∈ wsM := List.mem_append_right _ (List.mem_append_right _ (List.mem_append_left _ (List.mem_of_getElem? (l := wsM_2) (i := 11) rfl)))
theorem wsMw_62 : (.selects RX12 yX12_isOpen yX12_isOpen : Cond) ∈ wsM := List.mem_append_right _ (List.mem_append_right _ (List.mem_append_left _ (List.mem_of_getElem? (l := wsM_2) (i := 12) rfl)))
theorem wsMw_63 : (.code yX12_isOpen cX12_isOpen 3 (some .boolean) : Cond) ∈ wsM := List.mem_append_right _ (List.mem_append_right _ (List.mem_append_left _ (List.mem_of_getElem? (l := wsM_2) (i := 13) rfl)))
theorem wsMw_64 : (.fieldLink RX12 145 "MillstreamPaymentsModel" "finals" "I" : Cond) ∈ wsM := List.mem_append_right _ (List.mem_append_right _ (List.mem_append_left _ (List.mem_of_getElem? (l := wsM_2) (i := 14) rfl)))
theorem wsMw_65 : (.methodLink RX12 141 yX12_books : Cond) ∈ wsM := List.mem_append_right _ (List.mem_append_right _ (List.mem_append_left _ (List.mem_of_getElem? (l := wsM_2) (i := 15) rfl)))
theorem wsMw_66 : (.instanceMethod yX12_books : Cond) ∈ wsM := List.mem_append_right _ (List.mem_append_right _ (List.mem_append_left _ (List.mem_of_getElem? (l := wsM_2) (i := 16) rfl)))
theorem wsMw_67 : (.selects RX12 yX12_books yX12_books : Cond) ∈ wsM := List.mem_append_right _ (List.mem_append_right _ (List.mem_append_left _ (List.mem_of_getElem? (l := wsM_2) (i := 17) rfl)))
theorem wsMw_68 : (.code yX12_books cX12_books 7 none : Cond) ∈ wsM := List.mem_append_right _ (List.mem_append_right _ (List.mem_append_left _ (List.mem_of_getElem? (l := wsM_2) (i := 18) rfl)))
theorem wsMw_69 : (.methodLink RX12 148 yX12_queued : Cond) ∈ wsM := List.mem_append_right _ (List.mem_append_right _ (List.mem_append_left _ (List.mem_of_getElem? (l := wsM_2) (i := 19) rfl)))
theorem wsMw_70 : (.instanceMethod yX12_queued : Cond) ∈ wsM := List.mem_append_right _ (List.mem_append_right _ (List.mem_append_left _ (List.mem_of_getElem? (l := wsM_2) (i := 20) rfl)))
theorem wsMw_71 : (.selects RX12 yX12_queued yX12_queued : Cond) ∈ wsM := List.mem_append_right _ (List.mem_append_right _ (List.mem_append_left _ (List.mem_of_getElem? (l := wsM_2) (i := 21) rfl)))
theorem wsMw_72 : (.code yX12_queued cX12_queued 7 (some .int) : Cond) ∈ wsM := List.mem_append_right _ (List.mem_append_right _ (List.mem_append_left _ (List.mem_of_getElem? (l := wsM_2) (i := 22) rfl)))
theorem wsMw_73 : (.methodLink RX12 151 yX12_clears : Cond) ∈ wsM := List.mem_append_right _ (List.mem_append_right _ (List.mem_append_left _ (List.mem_of_getElem? (l := wsM_2) (i := 23) rfl)))
theorem wsMw_74 : (.instanceMethod yX12_clears : Cond) ∈ wsM := List.mem_append_right _ (List.mem_append_right _ (List.mem_append_left _ (List.mem_of_getElem? (l := wsM_2) (i := 24) rfl)))
theorem wsMw_75 : (.selects RX12 yX12_clears yX12_clears : Cond) ∈ wsM := List.mem_append_right _ (List.mem_append_right _ (List.mem_append_right _ (List.mem_append_left _ (List.mem_of_getElem? (l := wsM_3) (i := 0) rfl))))
theorem wsMw_76 : (.code yX12_clears cX12_clears 2 none : Cond) ∈ wsM := List.mem_append_right _ (List.mem_append_right _ (List.mem_append_right _ (List.mem_append_left _ (List.mem_of_getElem? (l := wsM_3) (i := 1) rfl))))
theorem wsMw_77 : (.methodLink RX12 154 yX12_sums : Cond) ∈ wsM := List.mem_append_right _ (List.mem_append_right _ (List.mem_append_right _ (List.mem_append_left _ (List.mem_of_getElem? (l := wsM_3) (i := 2) rfl))))
theorem wsMw_78 : (.instanceMethod yX12_sums : Cond) ∈ wsM := List.mem_append_right _ (List.mem_append_right _ (List.mem_append_right _ (List.mem_append_left _ (List.mem_of_getElem? (l := wsM_3) (i := 3) rfl))))
theorem wsMw_79 : (.selects RX12 yX12_sums yX12_sums : Cond) ∈ wsM := List.mem_append_right _ (List.mem_append_right _ (List.mem_append_right _ (List.mem_append_left _ (List.mem_of_getElem? (l := wsM_3) (i := 4) rfl))))
theorem wsMw_80 : (.code yX12_sums cX12_sums 2 none : Cond) ∈ wsM := List.mem_append_right _ (List.mem_append_right _ (List.mem_append_right _ (List.mem_append_left _ (List.mem_of_getElem? (l := wsM_3) (i := 5) rfl))))
theorem wsMw_81 : (.methodLink RX12 157 yX12_areAtWork : Cond) ∈ wsM := List.mem_append_right _ (List.mem_append_right _ (List.mem_append_right _ (List.mem_append_left _ (List.mem_of_getElem? (l := wsM_3) (i := 6) rfl))))
theorem wsMw_82 : (.instanceMethod yX12_areAtWork : Cond) ∈ wsM := List.mem_append_right _ (List.mem_append_right _ (List.mem_append_right _ (List.mem_append_left _ (List.mem_of_getElem? (l := wsM_3) (i := 7) rfl))))
theorem wsMw_83 : (.selects RX12 yX12_areAtWork yX12_areAtWork : Cond) ∈ wsM := List.mem_append_right _ (List.mem_append_right _ (List.mem_append_right _ (List.mem_append_left _ (List.mem_of_getElem? (l := wsM_3) (i := 8) rfl))))
theorem wsMw_84 : (.code yX12_areAtWork cX12_areAtWork 3 (some .boolean) : Cond) ∈ wsM := List.mem_append_right _ (List.mem_append_right _ (List.mem_append_right _ (List.mem_append_left _ (List.mem_of_getElem? (l := wsM_3) (i := 9) rfl))))
theorem wsMw_85 : (.methodLink RX12 161 yX12_fits : Cond) ∈ wsM := List.mem_append_right _ (List.mem_append_right _ (List.mem_append_right _ (List.mem_append_left _ (List.mem_of_getElem? (l := wsM_3) (i := 10) rfl))))
theorem wsMw_86 : (.instanceMethod yX12_fits : Cond) ∈ wsM := List.mem_append_right _ (List.mem_append_right _ (List.mem_append_right _ (List.mem_append_left _ (List.mem_of_getElem? (l := wsM_3) (i := 11) rfl))))
theorem wsMw_87 : (.selects RX12 yX12_fits yX12_fits : Cond) ∈ wsM := List.mem_append_right _ (List.mem_append_right _ (List.mem_append_right _ (List.mem_append_left _ (List.mem_of_getElem? (l := wsM_3) (i := 12) rfl))))
theorem wsMw_88 : (.code yX12_fits cX12_fits 5 (some .boolean) : Cond) ∈ wsM := List.mem_append_right _ (List.mem_append_right _ (List.mem_append_right _ (List.mem_append_left _ (List.mem_of_getElem? (l := wsM_3) (i := 13) rfl))))
theorem wsMw_89 : (.methodLink RX12 165 yX12_settles : Cond) ∈ wsM := List.mem_append_right _ (List.mem_append_right _ (List.mem_append_right _ (List.mem_append_left _ (List.mem_of_getElem? (l := wsM_3) (i := 14) rfl))))
theorem wsMw_90 : (.instanceMethod yX12_settles : Cond) ∈ wsM := List.mem_append_right _ (List.mem_append_right _ (List.mem_append_right _ (List.mem_append_left _ (List.mem_of_getElem? (l := wsM_3) (i := 15) rfl))))
theorem wsMw_91 : (.selects RX12 yX12_settles yX12_settles : Cond) ∈ wsM := List.mem_append_right _ (List.mem_append_right _ (List.mem_append_right _ (List.mem_append_left _ (List.mem_of_getElem? (l := wsM_3) (i := 16) rfl))))
theorem wsMw_92 : (.code yX12_settles cX12_settles 3 (some .int) : Cond) ∈ wsM := List.mem_append_right _ (List.mem_append_right _ (List.mem_append_right _ (List.mem_append_left _ (List.mem_of_getElem? (l := wsM_3) (i := 17) rfl))))
theorem wsMw_93 : (.methodLink RX12 169 yX12_settlesFirst : Cond) ∈ wsM := List.mem_append_right _ (List.mem_append_right _ (List.mem_append_right _ (List.mem_append_left _ (List.mem_of_getElem? (l := wsM_3) (i := 18) rfl))))
theorem wsMw_94 : (.instanceMethod yX12_settlesFirst : Cond) ∈ wsM := List.mem_append_right _ (List.mem_append_right _ (List.mem_append_right _ (List.mem_append_left _ (List.mem_of_getElem? (l := wsM_3) (i := 19) rfl))))
theorem wsMw_95 : (.selects RX12 yX12_settlesFirst yX12_settlesFirst : Cond) ∈ wsM := List.mem_append_right _ (List.mem_append_right _ (List.mem_append_right _ (List.mem_append_left _ (List.mem_of_getElem? (l := wsM_3) (i := 20) rfl))))
theorem wsMw_96 : (.code yX12_settlesFirst cX12_settlesFirst 4 (some .int) : Cond) ∈ wsM := List.mem_append_right _ (List.mem_append_right _ (List.mem_append_right _ (List.mem_append_left _ (List.mem_of_getElem? (l := wsM_3) (i := 21) rfl))))
theorem wsMw_97 : (.methodLink RX12 172 yX12_last : Cond) ∈ wsM := List.mem_append_right _ (List.mem_append_right _ (List.mem_append_right _ (List.mem_append_left _ (List.mem_of_getElem? (l := wsM_3) (i := 22) rfl))))
theorem wsMw_98 : (.instanceMethod yX12_last : Cond) ∈ wsM := List.mem_append_right _ (List.mem_append_right _ (List.mem_append_right _ (List.mem_append_left _ (List.mem_of_getElem? (l := wsM_3) (i := 23) rfl))))
theorem wsMw_99 : (.selects RX12 yX12_last yX12_last : Cond) ∈ wsM := List.mem_append_right _ (List.mem_append_right _ (List.mem_append_right _ (List.mem_append_left _ (List.mem_of_getElem? (l := wsM_3) (i := 24) rfl))))
theorem wsMw_100 : (.code yX12_last cX12_last 7 (some .int) : Cond) ∈ wsM := List.mem_append_right _ (List.mem_append_right _ (List.mem_append_right _ (List.mem_append_right _ (List.mem_append_left _ (List.mem_of_getElem? (l := wsM_4) (i := 0) rfl)))))
theorem wsMw_101 : (.methodLink RX12 176 yX12_isShortAny : Cond) ∈ wsM := List.mem_append_right _ (List.mem_append_right _ (List.mem_append_right _ (List.mem_append_right _ (List.mem_append_left _ (List.mem_of_getElem? (l := wsM_4) (i := 1) rfl)))))
theorem wsMw_102 : (.instanceMethod yX12_isShortAny : Cond) ∈ wsM := List.mem_append_right _ (List.mem_append_right _ (List.mem_append_right _ (List.mem_append_right _ (List.mem_append_left _ (List.mem_of_getElem? (l := wsM_4) (i := 2) rfl)))))
theorem wsMw_103 : (.selects RX12 yX12_isShortAny yX12_isShortAny : Cond) ∈ wsM := List.mem_append_right _ (List.mem_append_right _ (List.mem_append_right _ (List.mem_append_right _ (List.mem_append_left _ (List.mem_of_getElem? (l := wsM_4) (i := 3) rfl)))))
theorem wsMw_104 : (.code yX12_isShortAny cX12_isShortAny 4 (some .boolean) : Cond) ∈ wsM := List.mem_append_right _ (List.mem_append_right _ (List.mem_append_right _ (List.mem_append_right _ (List.mem_append_left _ (List.mem_of_getElem? (l := wsM_4) (i := 4) rfl)))))
theorem wsMw_105 : (.methodLink RX12 179 yX12_enters : Cond) ∈ wsM := List.mem_append_right _ (List.mem_append_right _ (List.mem_append_right _ (List.mem_append_right _ (List.mem_append_left _ (List.mem_of_getElem? (l := wsM_4) (i := 5) rfl)))))
theorem wsMw_106 : (.instanceMethod yX12_enters : Cond) ∈ wsM := List.mem_append_right _ (List.mem_append_right _ (List.mem_append_right _ (List.mem_append_right _ (List.mem_append_left _ (List.mem_of_getElem? (l := wsM_4) (i := 6) rfl)))))
theorem wsMw_107 : (.selects RX12 yX12_enters yX12_enters : Cond) ∈ wsM := List.mem_append_right _ (List.mem_append_right _ (List.mem_append_right _ (List.mem_append_right _ (List.mem_append_left _ (List.mem_of_getElem? (l := wsM_4) (i := 7) rfl)))))
theorem wsMw_108 : (.code yX12_enters cX12_enters 2 none : Cond) ∈ wsM := List.mem_append_right _ (List.mem_append_right _ (List.mem_append_right _ (List.mem_append_right _ (List.mem_append_left _ (List.mem_of_getElem? (l := wsM_4) (i := 8) rfl)))))
theorem wsMw_109 : (.constant RX12 192 (1000000) : Cond) ∈ wsM := List.mem_append_right _ (List.mem_append_right _ (List.mem_append_right _ (List.mem_append_right _ (List.mem_append_left _ (List.mem_of_getElem? (l := wsM_4) (i := 9) rfl)))))
theorem wsMw_110 : (.fieldLink RX12 201 "MillstreamPaymentsModel" "doubles" "I" : Cond) ∈ wsM := List.mem_append_right _ (List.mem_append_right _ (List.mem_append_right _ (List.mem_append_right _ (List.mem_append_left _ (List.mem_of_getElem? (l := wsM_4) (i := 10) rfl)))))
theorem wsMw_111 : (.methodLink RX12 183 yX12_isBank : Cond) ∈ wsM := List.mem_append_right _ (List.mem_append_right _ (List.mem_append_right _ (List.mem_append_right _ (List.mem_append_left _ (List.mem_of_getElem? (l := wsM_4) (i := 11) rfl)))))
theorem wsMw_112 : (.static yX12_isBank : Cond) ∈ wsM := List.mem_append_right _ (List.mem_append_right _ (List.mem_append_right _ (List.mem_append_right _ (List.mem_append_left _ (List.mem_of_getElem? (l := wsM_4) (i := 12) rfl)))))
theorem wsMw_113 : (.code yX12_isBank cX12_isBank 1 (some .boolean) : Cond) ∈ wsM := List.mem_append_right _ (List.mem_append_right _ (List.mem_append_right _ (List.mem_append_right _ (List.mem_append_left _ (List.mem_of_getElem? (l := wsM_4) (i := 13) rfl)))))
theorem wsMw_114 : (.methodLink RX12 186 yX12_isCurrency : Cond) ∈ wsM := List.mem_append_right _ (List.mem_append_right _ (List.mem_append_right _ (List.mem_append_right _ (List.mem_append_left _ (List.mem_of_getElem? (l := wsM_4) (i := 14) rfl)))))
theorem wsMw_115 : (.static yX12_isCurrency : Cond) ∈ wsM := List.mem_append_right _ (List.mem_append_right _ (List.mem_append_right _ (List.mem_append_right _ (List.mem_append_left _ (List.mem_of_getElem? (l := wsM_4) (i := 15) rfl)))))
theorem wsMw_116 : (.code yX12_isCurrency cX12_isCurrency 1 (some .boolean) : Cond) ∈ wsM := List.mem_append_right _ (List.mem_append_right _ (List.mem_append_right _ (List.mem_append_right _ (List.mem_append_left _ (List.mem_of_getElem? (l := wsM_4) (i := 16) rfl)))))
theorem wsMw_117 : (.methodLink RX12 189 yX12_isName : Cond) ∈ wsM := List.mem_append_right _ (List.mem_append_right _ (List.mem_append_right _ (List.mem_append_right _ (List.mem_append_left _ (List.mem_of_getElem? (l := wsM_4) (i := 17) rfl)))))
theorem wsMw_118 : (.static yX12_isName : Cond) ∈ wsM := List.mem_append_right _ (List.mem_append_right _ (List.mem_append_right _ (List.mem_append_right _ (List.mem_append_left _ (List.mem_of_getElem? (l := wsM_4) (i := 18) rfl)))))
theorem wsMw_119 : (.code yX12_isName cX12_isName 1 (some .boolean) : Cond) ∈ wsM := List.mem_append_right _ (List.mem_append_right _ (List.mem_append_right _ (List.mem_append_right _ (List.mem_append_left _ (List.mem_of_getElem? (l := wsM_4) (i := 19) rfl)))))
theorem wsMw_120 : (.methodLink RX12 193 yX12_isAlike : Cond) ∈ wsM := List.mem_append_right _ (List.mem_append_right _ (List.mem_append_right _ (List.mem_append_right _ (List.mem_append_left _ (List.mem_of_getElem? (l := wsM_4) (i := 20) rfl)))))
theorem wsMw_121 : (.instanceMethod yX12_isAlike : Cond) ∈ wsM := List.mem_append_right _ (List.mem_append_right _ (List.mem_append_right _ (List.mem_append_right _ (List.mem_append_left _ (List.mem_of_getElem? (l := wsM_4) (i := 21) rfl)))))
theorem wsMw_122 : (.selects RX12 yX12_isAlike yX12_isAlike : Cond) ∈ wsM := List.mem_append_right _ (List.mem_append_right _ (List.mem_append_right _ (List.mem_append_right _ (List.mem_append_left _ (List.mem_of_getElem? (l := wsM_4) (i := 22) rfl)))))
theorem wsMw_123 : (.code yX12_isAlike cX12_isAlike 10 (some .boolean) : Cond) ∈ wsM := List.mem_append_right _ (List.mem_append_right _ (List.mem_append_right _ (List.mem_append_right _ (List.mem_append_left _ (List.mem_of_getElem? (l := wsM_4) (i := 23) rfl)))))
theorem wsMw_124 : (.methodLink RX12 197 yX12_goes : Cond) ∈ wsM := List.mem_append_right _ (List.mem_append_right _ (List.mem_append_right _ (List.mem_append_right _ (List.mem_append_left _ (List.mem_of_getElem? (l := wsM_4) (i := 24) rfl)))))
theorem wsMw_125 : (.instanceMethod yX12_goes : Cond) ∈ wsM := List.mem_append_right _ (List.mem_append_right _ (List.mem_append_right _ (List.mem_append_right _ (List.mem_append_right _ (List.mem_append_left _ (List.mem_of_getElem? (l := wsM_5) (i := 0) rfl))))))
theorem wsMw_126 : (.selects RX12 yX12_goes yX12_goes : Cond) ∈ wsM := List.mem_append_right _ (List.mem_append_right _ (List.mem_append_right _ (List.mem_append_right _ (List.mem_append_right _ (List.mem_append_left _ (List.mem_of_getElem? (l := wsM_5) (i := 1) rfl))))))
theorem wsMw_127 : (.code yX12_goes cX12_goes 4 (some .boolean) : Cond) ∈ wsM := List.mem_append_right _ (List.mem_append_right _ (List.mem_append_right _ (List.mem_append_right _ (List.mem_append_right _ (List.mem_append_left _ (List.mem_of_getElem? (l := wsM_5) (i := 2) rfl))))))
theorem wsMw_128 : (.methodLink RX12 204 yX12_comes : Cond) ∈ wsM := List.mem_append_right _ (List.mem_append_right _ (List.mem_append_right _ (List.mem_append_right _ (List.mem_append_right _ (List.mem_append_left _ (List.mem_of_getElem? (l := wsM_5) (i := 3) rfl))))))
theorem wsMw_129 : (.instanceMethod yX12_comes : Cond) ∈ wsM := List.mem_append_right _ (List.mem_append_right _ (List.mem_append_right _ (List.mem_append_right _ (List.mem_append_right _ (List.mem_append_left _ (List.mem_of_getElem? (l := wsM_5) (i := 4) rfl))))))
theorem wsMw_130 : (.selects RX12 yX12_comes yX12_comes : Cond) ∈ wsM := List.mem_append_right _ (List.mem_append_right _ (List.mem_append_right _ (List.mem_append_right _ (List.mem_append_right _ (List.mem_append_left _ (List.mem_of_getElem? (l := wsM_5) (i := 5) rfl))))))
theorem wsMw_131 : (.code yX12_comes cX12_comes 11 (some .int) : Cond) ∈ wsM := List.mem_append_right _ (List.mem_append_right _ (List.mem_append_right _ (List.mem_append_right _ (List.mem_append_right _ (List.mem_append_left _ (List.mem_of_getElem? (l := wsM_5) (i := 6) rfl))))))
theorem wsMw_132 : (.methodLink RX12 208 yX12_runs : Cond) ∈ wsM := List.mem_append_right _ (List.mem_append_right _ (List.mem_append_right _ (List.mem_append_right _ (List.mem_append_right _ (List.mem_append_left _ (List.mem_of_getElem? (l := wsM_5) (i := 7) rfl))))))
theorem wsMw_133 : (.instanceMethod yX12_runs : Cond) ∈ wsM := List.mem_append_right _ (List.mem_append_right _ (List.mem_append_right _ (List.mem_append_right _ (List.mem_append_right _ (List.mem_append_left _ (List.mem_of_getElem? (l := wsM_5) (i := 8) rfl))))))
theorem wsMw_134 : (.selects RX12 yX12_runs yX12_runs : Cond) ∈ wsM := List.mem_append_right _ (List.mem_append_right _ (List.mem_append_right _ (List.mem_append_right _ (List.mem_append_right _ (List.mem_append_left _ (List.mem_of_getElem? (l := wsM_5) (i := 9) rfl))))))
theorem wsMw_135 : (.code yX12_runs cX12_runs 5 (some .int) : Cond) ∈ wsM := List.mem_append_right _ (List.mem_append_right _ (List.mem_append_right _ (List.mem_append_right _ (List.mem_append_right _ (List.mem_append_left _ (List.mem_of_getElem? (l := wsM_5) (i := 10) rfl))))))
theorem wsMw_136 : (.methodLink RX12 211 yX12_ends : Cond) ∈ wsM := List.mem_append_right _ (List.mem_append_right _ (List.mem_append_right _ (List.mem_append_right _ (List.mem_append_right _ (List.mem_append_left _ (List.mem_of_getElem? (l := wsM_5) (i := 11) rfl))))))
theorem wsMw_137 : (.instanceMethod yX12_ends : Cond) ∈ wsM := List.mem_append_right _ (List.mem_append_right _ (List.mem_append_right _ (List.mem_append_right _ (List.mem_append_right _ (List.mem_append_left _ (List.mem_of_getElem? (l := wsM_5) (i := 12) rfl))))))
theorem wsMw_138 : (.selects RX12 yX12_ends yX12_ends : Cond) ∈ wsM := List.mem_append_right _ (List.mem_append_right _ (List.mem_append_right _ (List.mem_append_right _ (List.mem_append_right _ (List.mem_append_left _ (List.mem_of_getElem? (l := wsM_5) (i := 13) rfl))))))
theorem wsMw_139 : (.code yX12_ends cX12_ends 2 (some .boolean) : Cond) ∈ wsM := List.mem_append_right _ (List.mem_append_right _ (List.mem_append_right _ (List.mem_append_right _ (List.mem_append_right _ (List.mem_append_left _ (List.mem_of_getElem? (l := wsM_5) (i := 14) rfl))))))
theorem wsMw_140 : (.methodLink RX12 214 yX12_isPayment : Cond) ∈ wsM := List.mem_append_right _ (List.mem_append_right _ (List.mem_append_right _ (List.mem_append_right _ (List.mem_append_right _ (List.mem_append_left _ (List.mem_of_getElem? (l := wsM_5) (i := 15) rfl))))))
theorem wsMw_141 : (.instanceMethod yX12_isPayment : Cond) ∈ wsM := List.mem_append_right _ (List.mem_append_right _ (List.mem_append_right _ (List.mem_append_right _ (List.mem_append_right _ (List.mem_append_left _ (List.mem_of_getElem? (l := wsM_5) (i := 16) rfl))))))
theorem wsMw_142 : (.selects RX12 yX12_isPayment yX12_isPayment : Cond) ∈ wsM := List.mem_append_right _ (List.mem_append_right _ (List.mem_append_right _ (List.mem_append_right _ (List.mem_append_right _ (List.mem_append_left _ (List.mem_of_getElem? (l := wsM_5) (i := 17) rfl))))))
theorem wsMw_143 : (.code yX12_isPayment cX12_isPayment 2 (some .boolean) : Cond) ∈ wsM := List.mem_append_right _ (List.mem_append_right _ (List.mem_append_right _ (List.mem_append_right _ (List.mem_append_right _ (List.mem_append_left _ (List.mem_of_getElem? (l := wsM_5) (i := 18) rfl))))))
theorem wsMw_144 : (.methodLink RX12 217 yX12_canJoin : Cond) ∈ wsM := List.mem_append_right _ (List.mem_append_right _ (List.mem_append_right _ (List.mem_append_right _ (List.mem_append_right _ (List.mem_append_left _ (List.mem_of_getElem? (l := wsM_5) (i := 19) rfl))))))
theorem wsMw_145 : (.instanceMethod yX12_canJoin : Cond) ∈ wsM := List.mem_append_right _ (List.mem_append_right _ (List.mem_append_right _ (List.mem_append_right _ (List.mem_append_right _ (List.mem_append_left _ (List.mem_of_getElem? (l := wsM_5) (i := 20) rfl))))))
theorem wsMw_146 : (.selects RX12 yX12_canJoin yX12_canJoin : Cond) ∈ wsM := List.mem_append_right _ (List.mem_append_right _ (List.mem_append_right _ (List.mem_append_right _ (List.mem_append_right _ (List.mem_append_left _ (List.mem_of_getElem? (l := wsM_5) (i := 21) rfl))))))
theorem wsMw_147 : (.code yX12_canJoin cX12_canJoin 4 (some .boolean) : Cond) ∈ wsM := List.mem_append_right _ (List.mem_append_right _ (List.mem_append_right _ (List.mem_append_right _ (List.mem_append_right _ (List.mem_append_left _ (List.mem_of_getElem? (l := wsM_5) (i := 22) rfl))))))
theorem wsMw_148 : (.methodLink RX12 220 yX12_returns : Cond) ∈ wsM := List.mem_append_right _ (List.mem_append_right _ (List.mem_append_right _ (List.mem_append_right _ (List.mem_append_right _ (List.mem_append_left _ (List.mem_of_getElem? (l := wsM_5) (i := 23) rfl))))))
theorem wsMw_149 : (.instanceMethod yX12_returns : Cond) ∈ wsM := List.mem_append_right _ (List.mem_append_right _ (List.mem_append_right _ (List.mem_append_right _ (List.mem_append_right _ (List.mem_append_left _ (List.mem_of_getElem? (l := wsM_5) (i := 24) rfl))))))
theorem wsMw_150 : (.selects RX12 yX12_returns yX12_returns : Cond) ∈ wsM := List.mem_append_right _ (List.mem_append_right _ (List.mem_append_right _ (List.mem_append_right _ (List.mem_append_right _ (List.mem_append_right _ (List.mem_append_left _ (List.mem_of_getElem? (l := wsM_6) (i := 0) rfl)))))))
theorem wsMw_151 : (.code yX12_returns cX12_returns 3 (some .int) : Cond) ∈ wsM := List.mem_append_right _ (List.mem_append_right _ (List.mem_append_right _ (List.mem_append_right _ (List.mem_append_right _ (List.mem_append_right _ (List.mem_append_left _ (List.mem_of_getElem? (l := wsM_6) (i := 1) rfl)))))))
theorem wsMw_152 : (.methodLink RX12 224 yX12_reduces : Cond) ∈ wsM := List.mem_append_right _ (List.mem_append_right _ (List.mem_append_right _ (List.mem_append_right _ (List.mem_append_right _ (List.mem_append_right _ (List.mem_append_left _ (List.mem_of_getElem? (l := wsM_6) (i := 2) rfl)))))))
theorem wsMw_153 : (.instanceMethod yX12_reduces : Cond) ∈ wsM := List.mem_append_right _ (List.mem_append_right _ (List.mem_append_right _ (List.mem_append_right _ (List.mem_append_right _ (List.mem_append_right _ (List.mem_append_left _ (List.mem_of_getElem? (l := wsM_6) (i := 3) rfl)))))))
theorem wsMw_154 : (.selects RX12 yX12_reduces yX12_reduces : Cond) ∈ wsM := List.mem_append_right _ (List.mem_append_right _ (List.mem_append_right _ (List.mem_append_right _ (List.mem_append_right _ (List.mem_append_right _ (List.mem_append_left _ (List.mem_of_getElem? (l := wsM_6) (i := 4) rfl)))))))
theorem wsMw_155 : (.code yX12_reduces cX12_reduces 5 (some .int) : Cond) ∈ wsM := List.mem_append_right _ (List.mem_append_right _ (List.mem_append_right _ (List.mem_append_right _ (List.mem_append_right _ (List.mem_append_right _ (List.mem_append_left _ (List.mem_of_getElem? (l := wsM_6) (i := 5) rfl)))))))
theorem wsMw_156 : (.constantLong RX12 228 (99) : Cond) ∈ wsM := List.mem_append_right _ (List.mem_append_right _ (List.mem_append_right _ (List.mem_append_right _ (List.mem_append_right _ (List.mem_append_right _ (List.mem_append_left _ (List.mem_of_getElem? (l := wsM_6) (i := 6) rfl)))))))
theorem wsMw_157 : (.constantLong RX12 230 (100) : Cond) ∈ wsM := List.mem_append_right _ (List.mem_append_right _ (List.mem_append_right _ (List.mem_append_right _ (List.mem_append_right _ (List.mem_append_right _ (List.mem_append_left _ (List.mem_of_getElem? (l := wsM_6) (i := 7) rfl)))))))
theorem wsMw_158 : (.methodLink RX12 232 yX12_cutsOff : Cond) ∈ wsM := List.mem_append_right _ (List.mem_append_right _ (List.mem_append_right _ (List.mem_append_right _ (List.mem_append_right _ (List.mem_append_right _ (List.mem_append_left _ (List.mem_of_getElem? (l := wsM_6) (i := 8) rfl)))))))
theorem wsMw_159 : (.instanceMethod yX12_cutsOff : Cond) ∈ wsM := List.mem_append_right _ (List.mem_append_right _ (List.mem_append_right _ (List.mem_append_right _ (List.mem_append_right _ (List.mem_append_right _ (List.mem_append_left _ (List.mem_of_getElem? (l := wsM_6) (i := 9) rfl)))))))
theorem wsMw_160 : (.selects RX12 yX12_cutsOff yX12_cutsOff : Cond) ∈ wsM := List.mem_append_right _ (List.mem_append_right _ (List.mem_append_right _ (List.mem_append_right _ (List.mem_append_right _ (List.mem_append_right _ (List.mem_append_left _ (List.mem_of_getElem? (l := wsM_6) (i := 10) rfl)))))))
theorem wsMw_161 : (.code yX12_cutsOff cX12_cutsOff 3 (some .int) : Cond) ∈ wsM := List.mem_append_right _ (List.mem_append_right _ (List.mem_append_right _ (List.mem_append_right _ (List.mem_append_right _ (List.mem_append_right _ (List.mem_append_left _ (List.mem_of_getElem? (l := wsM_6) (i := 11) rfl)))))))
theorem wsMw_162 : (.methodLink RX12 235 yX12_charges : Cond) ∈ wsM := List.mem_append_right _ (List.mem_append_right _ (List.mem_append_right _ (List.mem_append_right _ (List.mem_append_right _ (List.mem_append_right _ (List.mem_append_left _ (List.mem_of_getElem? (l := wsM_6) (i := 12) rfl)))))))
theorem wsMw_163 : (.instanceMethod yX12_charges : Cond) ∈ wsM := List.mem_append_right _ (List.mem_append_right _ (List.mem_append_right _ (List.mem_append_right _ (List.mem_append_right _ (List.mem_append_right _ (List.mem_append_left _ (List.mem_of_getElem? (l := wsM_6) (i := 13) rfl)))))))
theorem wsMw_164 : (.selects RX12 yX12_charges yX12_charges : Cond) ∈ wsM := List.mem_append_right _ (List.mem_append_right _ (List.mem_append_right _ (List.mem_append_right _ (List.mem_append_right _ (List.mem_append_right _ (List.mem_append_left _ (List.mem_of_getElem? (l := wsM_6) (i := 14) rfl)))))))
theorem wsMw_165 : (.code yX12_charges cX12_charges 8 none : Cond) ∈ wsM := List.mem_append_right _ (List.mem_append_right _ (List.mem_append_right _ (List.mem_append_right _ (List.mem_append_right _ (List.mem_append_right _ (List.mem_append_left _ (List.mem_of_getElem? (l := wsM_6) (i := 15) rfl)))))))
theorem wsMw_166 : (.methodLink RX12 239 yX12_isAccount : Cond) ∈ wsM := List.mem_append_right _ (List.mem_append_right _ (List.mem_append_right _ (List.mem_append_right _ (List.mem_append_right _ (List.mem_append_right _ (List.mem_append_left _ (List.mem_of_getElem? (l := wsM_6) (i := 16) rfl)))))))
theorem wsMw_167 : (.static yX12_isAccount : Cond) ∈ wsM := List.mem_append_right _ (List.mem_append_right _ (List.mem_append_right _ (List.mem_append_right _ (List.mem_append_right _ (List.mem_append_right _ (List.mem_append_left _ (List.mem_of_getElem? (l := wsM_6) (i := 17) rfl)))))))
theorem wsMw_168 : (.code yX12_isAccount cX12_isAccount 1 (some .boolean) : Cond) ∈ wsM := List.mem_append_right _ (List.mem_append_right _ (List.mem_append_right _ (List.mem_append_right _ (List.mem_append_right _ (List.mem_append_right _ (List.mem_append_left _ (List.mem_of_getElem? (l := wsM_6) (i := 18) rfl)))))))
theorem wsMw_169 : (.methodLink RX12 242 yX12_adviceAt : Cond) ∈ wsM := List.mem_append_right _ (List.mem_append_right _ (List.mem_append_right _ (List.mem_append_right _ (List.mem_append_right _ (List.mem_append_right _ (List.mem_append_left _ (List.mem_of_getElem? (l := wsM_6) (i := 19) rfl)))))))
theorem wsMw_170 : (.instanceMethod yX12_adviceAt : Cond) ∈ wsM := List.mem_append_right _ (List.mem_append_right _ (List.mem_append_right _ (List.mem_append_right _ (List.mem_append_right _ (List.mem_append_right _ (List.mem_append_left _ (List.mem_of_getElem? (l := wsM_6) (i := 20) rfl)))))))
theorem wsMw_171 : (.selects RX12 yX12_adviceAt yX12_adviceAt : Cond) ∈ wsM := List.mem_append_right _ (List.mem_append_right _ (List.mem_append_right _ (List.mem_append_right _ (List.mem_append_right _ (List.mem_append_right _ (List.mem_append_left _ (List.mem_of_getElem? (l := wsM_6) (i := 21) rfl)))))))
theorem wsMw_172 : (.code yX12_adviceAt cX12_adviceAt 5 (some .int) : Cond) ∈ wsM := List.mem_append_right _ (List.mem_append_right _ (List.mem_append_right _ (List.mem_append_right _ (List.mem_append_right _ (List.mem_append_right _ (List.mem_append_left _ (List.mem_of_getElem? (l := wsM_6) (i := 22) rfl)))))))
theorem wsM_good : wsM.all goodWord = true := by decide +kernel
theorem wsM_cls {x : Cond} : ∀ w ∈ wsX120, w ∈ x :: wsM := fun w h => List.mem_cons_of_mem _ (List.mem_append_right _ (List.mem_append_right _ (List.mem_append_right _ (List.mem_append_right _ (List.mem_append_right _ (List.mem_append_right _ (List.mem_append_right _ (h))))))))
abbrev vX12_init : List Cond := .code yX12_init cX12_init 2 none :: wsM
abbrev vX12_thrown : List Cond := .code yX12_thrown cX12_thrown 1 (some .int) :: wsM
abbrev vX12_in : List Cond := .code yX12_in cX12_in 3 (some .boolean) :: wsM
abbrev vX12_goes : List Cond := .code yX12_goes cX12_goes 4 (some .boolean) :: wsM
abbrev vX12_isBank : List Cond := .code yX12_isBank cX12_isBank 1 (some .boolean) :: wsM
abbrev vX12_isCurrency : List Cond := .code yX12_isCurrency cX12_isCurrency 1 (some .boolean) :: wsM
abbrev vX12_isName : List Cond := .code yX12_isName cX12_isName 1 (some .boolean) :: wsM
abbrev vX12_isPayment : List Cond := .code yX12_isPayment cX12_isPayment 2 (some .boolean) :: wsM
abbrev vX12_of : List Cond := .code yX12_of cX12_of 2 (some .int) :: wsM
abbrev vX12_pair : List Cond := .code yX12_pair cX12_pair 3 (some .int) :: wsM
abbrev vX12_isOpen : List Cond := .code yX12_isOpen cX12_isOpen 3 (some .boolean) :: wsM
abbrev vX12_ends : List Cond := .code yX12_ends cX12_ends 2 (some .boolean) :: wsM
abbrev vX12_books : List Cond := .code yX12_books cX12_books 7 none :: wsM
abbrev vX12_clears : List Cond := .code yX12_clears cX12_clears 2 none :: wsM
abbrev vX12_sums : List Cond := .code yX12_sums cX12_sums 2 none :: wsM
abbrev vX12_isShort : List Cond := .code yX12_isShort cX12_isShort 4 (some .boolean) :: wsM
abbrev vX12_isPassed : List Cond := .code yX12_isPassed cX12_isPassed 5 (some .boolean) :: wsM
abbrev vX12_fits : List Cond := .code yX12_fits cX12_fits 5 (some .boolean) :: wsM
abbrev vX12_areAtWork : List Cond := .code yX12_areAtWork cX12_areAtWork 3 (some .boolean) :: wsM
abbrev vX12_settles : List Cond := .code yX12_settles cX12_settles 3 (some .int) :: wsM
abbrev vX12_queued : List Cond := .code yX12_queued cX12_queued 7 (some .int) :: wsM
abbrev vX12_settlesFirst : List Cond := .code yX12_settlesFirst cX12_settlesFirst 4 (some .int) :: wsM
abbrev vX12_runs : List Cond := .code yX12_runs cX12_runs 5 (some .int) :: wsM
abbrev vX12_last : List Cond := .code yX12_last cX12_last 7 (some .int) :: wsM
abbrev vX12_isShortAny : List Cond := .code yX12_isShortAny cX12_isShortAny 4 (some .boolean) :: wsM
abbrev vX12_reduces : List Cond := .code yX12_reduces cX12_reduces 5 (some .int) :: wsM
abbrev vX12_enters : List Cond := .code yX12_enters cX12_enters 2 none :: wsM
abbrev vX12_comes : List Cond := .code yX12_comes cX12_comes 11 (some .int) :: wsM
abbrev vX12_isAlike : List Cond := .code yX12_isAlike cX12_isAlike 10 (some .boolean) :: wsM
abbrev vX12_send : List Cond := .code yX12_send cX12_send 16 (some .int) :: wsM
abbrev vX12_doubles : List Cond := .code yX12_doubles cX12_doubles 1 (some .int) :: wsM
abbrev vX12_canJoin : List Cond := .code yX12_canJoin cX12_canJoin 4 (some .boolean) :: wsM
abbrev vX12_join : List Cond := .code yX12_join cX12_join 5 none :: wsM
abbrev vX12_returns : List Cond := .code yX12_returns cX12_returns 3 (some .int) :: wsM
abbrev vX12_withdraw : List Cond := .code yX12_withdraw cX12_withdraw 5 (some .int) :: wsM
abbrev vX12_release : List Cond := .code yX12_release cX12_release 6 (some .boolean) :: wsM
abbrev vX12_refuse : List Cond := .code yX12_refuse cX12_refuse 5 (some .int) :: wsM
abbrev vX12_offset : List Cond := .code yX12_offset cX12_offset 4 (some .int) :: wsM
abbrev vX12_recall : List Cond := .code yX12_recall cX12_recall 3 (some .int) :: wsM
abbrev vX12_answer : List Cond := .code yX12_answer cX12_answer 7 (some .int) :: wsM
abbrev vX12_fund : List Cond := .code yX12_fund cX12_fund 5 (some .long) :: wsM
abbrev vX12_line : List Cond := .code yX12_line cX12_line 6 (some .int) :: wsM
abbrev vX12_limit : List Cond := .code yX12_limit cX12_limit 8 (some .int) :: wsM
abbrev vX12_out : List Cond := .code yX12_out cX12_out 5 (some .boolean) :: wsM
abbrev vX12_holiday : List Cond := .code yX12_holiday cX12_holiday 5 (some .boolean) :: wsM
abbrev vX12_list : List Cond := .code yX12_list cX12_list 5 (some .int) :: wsM
abbrev vX12_cutsOff : List Cond := .code yX12_cutsOff cX12_cutsOff 3 (some .int) :: wsM
abbrev vX12_charges : List Cond := .code yX12_charges cX12_charges 8 none :: wsM
abbrev vX12_endDay : List Cond := .code yX12_endDay cX12_endDay 4 (some .int) :: wsM
abbrev vX12_today : List Cond := .code yX12_today cX12_today 1 (some .int) :: wsM
abbrev vX12_isAccount : List Cond := .code yX12_isAccount cX12_isAccount 1 (some .boolean) :: wsM
abbrev vX12_account : List Cond := .code yX12_account cX12_account 3 (some .long) :: wsM
abbrev vX12_accountAnew : List Cond := .code yX12_accountAnew cX12_accountAnew 7 (some .long) :: wsM
abbrev vX12_paid : List Cond := .code yX12_paid cX12_paid 4 (some .long) :: wsM
abbrev vX12_payments : List Cond := .code yX12_payments cX12_payments 1 (some .int) :: wsM
abbrev vX12_stateOf : List Cond := .code yX12_stateOf cX12_stateOf 2 (some .int) :: wsM
abbrev vX12_queueAt : List Cond := .code yX12_queueAt cX12_queueAt 4 (some .int) :: wsM
abbrev vX12_entries : List Cond := .code yX12_entries cX12_entries 1 (some .int) :: wsM
abbrev vX12_entryAt : List Cond := .code yX12_entryAt cX12_entryAt 3 (some .long) :: wsM
abbrev vX12_adviceAt : List Cond := .code yX12_adviceAt cX12_adviceAt 5 (some .int) :: wsM
abbrev vX12_advice : List Cond := .code yX12_advice cX12_advice 3 (some .int) :: wsM
abbrev vX12_again : List Cond := .code yX12_again cX12_again 6 (some .int) :: wsM
theorem aM_long {x : Cond} : (.arrayClass .long : Cond) ∈ x :: wsM := List.mem_cons_of_mem _ wsMw_3
theorem lM_account {x : Cond} : Cond.fieldLink RX12 7 RX12 "account" "[J" ∈ x :: wsM := List.mem_cons_of_mem _ wsMw_4
theorem aM_int {x : Cond} : (.arrayClass .int : Cond) ∈ x :: wsM := List.mem_cons_of_mem _ wsMw_5
theorem lM_line {x : Cond} : Cond.fieldLink RX12 13 RX12 "line" "[I" ∈ x :: wsM := List.mem_cons_of_mem _ wsMw_6
theorem lM_limit {x : Cond} : Cond.fieldLink RX12 17 RX12 "limit" "[I" ∈ x :: wsM := List.mem_cons_of_mem _ wsMw_7
theorem lM_paid {x : Cond} : Cond.fieldLink RX12 20 RX12 "paid" "[J" ∈ x :: wsM := List.mem_cons_of_mem _ wsMw_8
theorem aM_boolean {x : Cond} : (.arrayClass .boolean : Cond) ∈ x :: wsM := List.mem_cons_of_mem _ wsMw_9
theorem lM_isOut {x : Cond} : Cond.fieldLink RX12 23 RX12 "isOut" "[Z" ∈ x :: wsM := List.mem_cons_of_mem _ wsMw_10
theorem lM_isHoliday {x : Cond} : Cond.fieldLink RX12 27 RX12 "isHoliday" "[Z" ∈ x :: wsM := List.mem_cons_of_mem _ wsMw_11
theorem lM_isListed {x : Cond} : Cond.fieldLink RX12 30 RX12 "isListed" "[Z" ∈ x :: wsM := List.mem_cons_of_mem _ wsMw_12
theorem lM_from {x : Cond} : Cond.fieldLink RX12 33 RX12 "from" "[I" ∈ x :: wsM := List.mem_cons_of_mem _ wsMw_13
theorem lM_to {x : Cond} : Cond.fieldLink RX12 36 RX12 "to" "[I" ∈ x :: wsM := List.mem_cons_of_mem _ wsMw_14
theorem lM_currency {x : Cond} : Cond.fieldLink RX12 39 RX12 "currency" "[I" ∈ x :: wsM := List.mem_cons_of_mem _ wsMw_15
theorem lM_amount {x : Cond} : Cond.fieldLink RX12 42 RX12 "amount" "[I" ∈ x :: wsM := List.mem_cons_of_mem _ wsMw_16
theorem lM_payee {x : Cond} : Cond.fieldLink RX12 45 RX12 "payee" "[I" ∈ x :: wsM := List.mem_cons_of_mem _ wsMw_17
theorem lM_rank {x : Cond} : Cond.fieldLink RX12 48 RX12 "rank" "[I" ∈ x :: wsM := List.mem_cons_of_mem _ wsMw_18
theorem lM_isReal {x : Cond} : Cond.fieldLink RX12 51 RX12 "isReal" "[Z" ∈ x :: wsM := List.mem_cons_of_mem _ wsMw_19
theorem lM_day {x : Cond} : Cond.fieldLink RX12 54 RX12 "day" "[I" ∈ x :: wsM := List.mem_cons_of_mem _ wsMw_20
theorem lM_stays {x : Cond} : Cond.fieldLink RX12 57 RX12 "stays" "[Z" ∈ x :: wsM := List.mem_cons_of_mem _ wsMw_21
theorem lM_state {x : Cond} : Cond.fieldLink RX12 60 RX12 "state" "[I" ∈ x :: wsM := List.mem_cons_of_mem _ wsMw_22
theorem lM_isReleased {x : Cond} : Cond.fieldLink RX12 63 RX12 "isReleased" "[Z" ∈ x :: wsM := List.mem_cons_of_mem _ wsMw_23
theorem lM_officer {x : Cond} : Cond.fieldLink RX12 66 RX12 "officer" "[I" ∈ x :: wsM := List.mem_cons_of_mem _ wsMw_24
theorem lM_leg {x : Cond} : Cond.fieldLink RX12 69 RX12 "leg" "[I" ∈ x :: wsM := List.mem_cons_of_mem _ wsMw_25
theorem lM_finalOn {x : Cond} : Cond.fieldLink RX12 72 RX12 "finalOn" "[I" ∈ x :: wsM := List.mem_cons_of_mem _ wsMw_26
theorem lM_recalledOn {x : Cond} : Cond.fieldLink RX12 75 RX12 "recalledOn" "[I" ∈ x :: wsM := List.mem_cons_of_mem _ wsMw_27
theorem lM_isAnswered {x : Cond} : Cond.fieldLink RX12 78 RX12 "isAnswered" "[Z" ∈ x :: wsM := List.mem_cons_of_mem _ wsMw_28
theorem lM_message {x : Cond} : Cond.fieldLink RX12 81 RX12 "message" "[I" ∈ x :: wsM := List.mem_cons_of_mem _ wsMw_29
theorem lM_finished {x : Cond} : Cond.fieldLink RX12 84 RX12 "finished" "[I" ∈ x :: wsM := List.mem_cons_of_mem _ wsMw_30
theorem lM_taken {x : Cond} : Cond.fieldLink RX12 87 RX12 "taken" "[I" ∈ x :: wsM := List.mem_cons_of_mem _ wsMw_31
theorem lM_most {x : Cond} : Cond.fieldLink RX12 90 RX12 "most" "[I" ∈ x :: wsM := List.mem_cons_of_mem _ wsMw_32
theorem kM_93 {x : Cond} : (.constant RX12 93 (150000) : Cond) ∈ x :: wsM := List.mem_cons_of_mem _ wsMw_33
theorem lM_entry {x : Cond} : Cond.fieldLink RX12 94 RX12 "entry" "[J" ∈ x :: wsM := List.mem_cons_of_mem _ wsMw_34
theorem lM_isIn {x : Cond} : Cond.fieldLink RX12 97 RX12 "isIn" "[Z" ∈ x :: wsM := List.mem_cons_of_mem _ wsMw_35
theorem lM_more {x : Cond} : Cond.fieldLink RX12 100 RX12 "more" "[J" ∈ x :: wsM := List.mem_cons_of_mem _ wsMw_36
theorem lM_morePaid {x : Cond} : Cond.fieldLink RX12 103 RX12 "morePaid" "[J" ∈ x :: wsM := List.mem_cons_of_mem _ wsMw_37
theorem lM_thrown {x : Cond} : Cond.fieldLink RX12 106 RX12 "thrown" "I" ∈ x :: wsM := List.mem_cons_of_mem _ wsMw_38
theorem gM_X12_in {x : Cond} : GoodIn (x :: wsM) (va_wsS RX12 110 yX12_in vX12_in) := gd_in (fun w h => List.mem_cons_of_mem _ h) wsM_good (gd_S wsMw_39 wsMw_40 wsMw_41 wsMw_42)
theorem lM_payments {x : Cond} : Cond.fieldLink RX12 114 RX12 "payments" "I" ∈ x :: wsM := List.mem_cons_of_mem _ wsMw_43
theorem lM_entries {x : Cond} : Cond.fieldLink RX12 117 RX12 "entries" "I" ∈ x :: wsM := List.mem_cons_of_mem _ wsMw_44
theorem gM_X12_of {x : Cond} : GoodIn (x :: wsM) (va_wsS RX12 120 yX12_of vX12_of) := gd_in (fun w h => List.mem_cons_of_mem _ h) wsM_good (gd_S wsMw_45 wsMw_46 wsMw_41 wsMw_47)
theorem gM_X12_pair {x : Cond} : GoodIn (x :: wsM) (va_wsS RX12 124 yX12_pair vX12_pair) := gd_in (fun w h => List.mem_cons_of_mem _ h) wsM_good (gd_S wsMw_48 wsMw_49 wsMw_41 wsMw_50)
theorem gM_X12_isShort {x : Cond} : GoodIn (x :: wsM) (wsV RX12 128 RX12 yX12_isShort vX12_isShort) := gd_in (fun w h => List.mem_cons_of_mem _ h) wsM_good (gd_V wsMw_51 wsMw_52 wsMw_53 wsMw_41 wsMw_54)
theorem gM_X12_isPassed {x : Cond} : GoodIn (x :: wsM) (wsV RX12 132 RX12 yX12_isPassed vX12_isPassed) := gd_in (fun w h => List.mem_cons_of_mem _ h) wsM_good (gd_V wsMw_55 wsMw_56 wsMw_57 wsMw_41 wsMw_58)
theorem lM_today {x : Cond} : Cond.fieldLink RX12 135 RX12 "today" "I" ∈ x :: wsM := List.mem_cons_of_mem _ wsMw_59
theorem gM_X12_isOpen {x : Cond} : GoodIn (x :: wsM) (wsV RX12 138 RX12 yX12_isOpen vX12_isOpen) := gd_in (fun w h => List.mem_cons_of_mem _ h) wsM_good (gd_V wsMw_60 wsMw_61 wsMw_62 wsMw_41 wsMw_63)
theorem lM_finals {x : Cond} : Cond.fieldLink RX12 145 RX12 "finals" "I" ∈ x :: wsM := List.mem_cons_of_mem _ wsMw_64
theorem gM_X12_books {x : Cond} : GoodIn (x :: wsM) (wsV RX12 141 RX12 yX12_books vX12_books) := gd_in (fun w h => List.mem_cons_of_mem _ h) wsM_good (gd_V wsMw_65 wsMw_66 wsMw_67 wsMw_41 wsMw_68)
theorem gM_X12_queued {x : Cond} : GoodIn (x :: wsM) (wsV RX12 148 RX12 yX12_queued vX12_queued) := gd_in (fun w h => List.mem_cons_of_mem _ h) wsM_good (gd_V wsMw_69 wsMw_70 wsMw_71 wsMw_41 wsMw_72)
theorem gM_X12_clears {x : Cond} : GoodIn (x :: wsM) (wsV RX12 151 RX12 yX12_clears vX12_clears) := gd_in (fun w h => List.mem_cons_of_mem _ h) wsM_good (gd_V wsMw_73 wsMw_74 wsMw_75 wsMw_41 wsMw_76)
theorem gM_X12_sums {x : Cond} : GoodIn (x :: wsM) (wsV RX12 154 RX12 yX12_sums vX12_sums) := gd_in (fun w h => List.mem_cons_of_mem _ h) wsM_good (gd_V wsMw_77 wsMw_78 wsMw_79 wsMw_41 wsMw_80)
theorem gM_X12_areAtWork {x : Cond} : GoodIn (x :: wsM) (wsV RX12 157 RX12 yX12_areAtWork vX12_areAtWork) := gd_in (fun w h => List.mem_cons_of_mem _ h) wsM_good (gd_V wsMw_81 wsMw_82 wsMw_83 wsMw_41 wsMw_84)
theorem gM_X12_fits {x : Cond} : GoodIn (x :: wsM) (wsV RX12 161 RX12 yX12_fits vX12_fits) := gd_in (fun w h => List.mem_cons_of_mem _ h) wsM_good (gd_V wsMw_85 wsMw_86 wsMw_87 wsMw_41 wsMw_88)
theorem gM_X12_settles {x : Cond} : GoodIn (x :: wsM) (wsV RX12 165 RX12 yX12_settles vX12_settles) := gd_in (fun w h => List.mem_cons_of_mem _ h) wsM_good (gd_V wsMw_89 wsMw_90 wsMw_91 wsMw_41 wsMw_92)
theorem gM_X12_settlesFirst {x : Cond} : GoodIn (x :: wsM) (wsV RX12 169 RX12 yX12_settlesFirst vX12_settlesFirst) := gd_in (fun w h => List.mem_cons_of_mem _ h) wsM_good (gd_V wsMw_93 wsMw_94 wsMw_95 wsMw_41 wsMw_96)
theorem gM_X12_last {x : Cond} : GoodIn (x :: wsM) (wsV RX12 172 RX12 yX12_last vX12_last) := gd_in (fun w h => List.mem_cons_of_mem _ h) wsM_good (gd_V wsMw_97 wsMw_98 wsMw_99 wsMw_41 wsMw_100)
theorem gM_X12_isShortAny {x : Cond} : GoodIn (x :: wsM) (wsV RX12 176 RX12 yX12_isShortAny vX12_isShortAny) := gd_in (fun w h => List.mem_cons_of_mem _ h) wsM_good (gd_V wsMw_101 wsMw_102 wsMw_103 wsMw_41 wsMw_104)
theorem gM_X12_enters {x : Cond} : GoodIn (x :: wsM) (wsV RX12 179 RX12 yX12_enters vX12_enters) := gd_in (fun w h => List.mem_cons_of_mem _ h) wsM_good (gd_V wsMw_105 wsMw_106 wsMw_107 wsMw_41 wsMw_108)
theorem kM_192 {x : Cond} : (.constant RX12 192 (1000000) : Cond) ∈ x :: wsM := List.mem_cons_of_mem _ wsMw_109
theorem lM_doubles {x : Cond} : Cond.fieldLink RX12 201 RX12 "doubles" "I" ∈ x :: wsM := List.mem_cons_of_mem _ wsMw_110
theorem gM_X12_isBank {x : Cond} : GoodIn (x :: wsM) (va_wsS RX12 183 yX12_isBank vX12_isBank) := gd_in (fun w h => List.mem_cons_of_mem _ h) wsM_good (gd_S wsMw_111 wsMw_112 wsMw_41 wsMw_113)
theorem gM_X12_isCurrency {x : Cond} : GoodIn (x :: wsM) (va_wsS RX12 186 yX12_isCurrency vX12_isCurrency) := gd_in (fun w h => List.mem_cons_of_mem _ h) wsM_good (gd_S wsMw_114 wsMw_115 wsMw_41 wsMw_116)
theorem gM_X12_isName {x : Cond} : GoodIn (x :: wsM) (va_wsS RX12 189 yX12_isName vX12_isName) := gd_in (fun w h => List.mem_cons_of_mem _ h) wsM_good (gd_S wsMw_117 wsMw_118 wsMw_41 wsMw_119)
theorem gM_X12_isAlike {x : Cond} : GoodIn (x :: wsM) (wsV RX12 193 RX12 yX12_isAlike vX12_isAlike) := gd_in (fun w h => List.mem_cons_of_mem _ h) wsM_good (gd_V wsMw_120 wsMw_121 wsMw_122 wsMw_41 wsMw_123)
theorem gM_X12_goes {x : Cond} : GoodIn (x :: wsM) (wsV RX12 197 RX12 yX12_goes vX12_goes) := gd_in (fun w h => List.mem_cons_of_mem _ h) wsM_good (gd_V wsMw_124 wsMw_125 wsMw_126 wsMw_41 wsMw_127)
theorem gM_X12_comes {x : Cond} : GoodIn (x :: wsM) (wsV RX12 204 RX12 yX12_comes vX12_comes) := gd_in (fun w h => List.mem_cons_of_mem _ h) wsM_good (gd_V wsMw_128 wsMw_129 wsMw_130 wsMw_41 wsMw_131)
theorem gM_X12_runs {x : Cond} : GoodIn (x :: wsM) (wsV RX12 208 RX12 yX12_runs vX12_runs) := gd_in (fun w h => List.mem_cons_of_mem _ h) wsM_good (gd_V wsMw_132 wsMw_133 wsMw_134 wsMw_41 wsMw_135)
theorem gM_X12_ends {x : Cond} : GoodIn (x :: wsM) (wsV RX12 211 RX12 yX12_ends vX12_ends) := gd_in (fun w h => List.mem_cons_of_mem _ h) wsM_good (gd_V wsMw_136 wsMw_137 wsMw_138 wsMw_41 wsMw_139)
theorem gM_X12_isPayment {x : Cond} : GoodIn (x :: wsM) (wsV RX12 214 RX12 yX12_isPayment vX12_isPayment) := gd_in (fun w h => List.mem_cons_of_mem _ h) wsM_good (gd_V wsMw_140 wsMw_141 wsMw_142 wsMw_41 wsMw_143)
theorem gM_X12_canJoin {x : Cond} : GoodIn (x :: wsM) (wsV RX12 217 RX12 yX12_canJoin vX12_canJoin) := gd_in (fun w h => List.mem_cons_of_mem _ h) wsM_good (gd_V wsMw_144 wsMw_145 wsMw_146 wsMw_41 wsMw_147)
theorem gM_X12_returns {x : Cond} : GoodIn (x :: wsM) (wsV RX12 220 RX12 yX12_returns vX12_returns) := gd_in (fun w h => List.mem_cons_of_mem _ h) wsM_good (gd_V wsMw_148 wsMw_149 wsMw_150 wsMw_41 wsMw_151)
theorem gM_X12_reduces {x : Cond} : GoodIn (x :: wsM) (wsV RX12 224 RX12 yX12_reduces vX12_reduces) := gd_in (fun w h => List.mem_cons_of_mem _ h) wsM_good (gd_V wsMw_152 wsMw_153 wsMw_154 wsMw_41 wsMw_155)
theorem kM_228 {x : Cond} : (.constantLong RX12 228 (99) : Cond) ∈ x :: wsM := List.mem_cons_of_mem _ wsMw_156
theorem kM_230 {x : Cond} : (.constantLong RX12 230 (100) : Cond) ∈ x :: wsM := List.mem_cons_of_mem _ wsMw_157
theorem gM_X12_cutsOff {x : Cond} : GoodIn (x :: wsM) (wsV RX12 232 RX12 yX12_cutsOff vX12_cutsOff) := gd_in (fun w h => List.mem_cons_of_mem _ h) wsM_good (gd_V wsMw_158 wsMw_159 wsMw_160 wsMw_41 wsMw_161)
theorem gM_X12_charges {x : Cond} : GoodIn (x :: wsM) (wsV RX12 235 RX12 yX12_charges vX12_charges) := gd_in (fun w h => List.mem_cons_of_mem _ h) wsM_good (gd_V wsMw_162 wsMw_163 wsMw_164 wsMw_41 wsMw_165)
theorem gM_X12_isAccount {x : Cond} : GoodIn (x :: wsM) (va_wsS RX12 239 yX12_isAccount vX12_isAccount) := gd_in (fun w h => List.mem_cons_of_mem _ h) wsM_good (gd_S wsMw_166 wsMw_167 wsMw_41 wsMw_168)
theorem gM_X12_adviceAt {x : Cond} : GoodIn (x :: wsM) (wsV RX12 242 RX12 yX12_adviceAt vX12_adviceAt) := gd_in (fun w h => List.mem_cons_of_mem _ h) wsM_good (gd_V wsMw_169 wsMw_170 wsMw_171 wsMw_41 wsMw_172)
