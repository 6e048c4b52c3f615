section
theorem csV_0 {R : Room} {s : State} {args : Array Value} {rm : Room} {mc ms : Nat} (hts : ∀ w ∈ ws0, w.before args s = true) (hrc : rm.cells = mc) (hrs : rm.slots = ms) (hR : rm.frames + 1 ≤ R.frames ∧ 8 + (1 + 11) + rm.locals ≤ R.locals) : CallW R s args "ScaleShop$Row" RX7 47 yX7_edges cX7_edges 1 (some .int) (.code yX7_edges cX7_edges 1 (some .int) :: ws0) rm mc ms 0 := cwV 0 hts (zz_gV mw_528 mw_529 mw_530 mw_102 mc_yX7_edges) rfl hrc hrs (by decide +kernel) hR
theorem csV_1 {R : Room} {s : State} {args : Array Value} {rm : Room} {mc ms : Nat} (hts : ∀ w ∈ ws0, w.before args s = true) (hrc : rm.cells = mc) (hrs : rm.slots = ms) (hR : rm.frames + 1 ≤ R.frames ∧ 8 + (5 + 11) + rm.locals ≤ R.locals) : CallW R s args "ScaleShop$Row" RX7 51 yX7_turn cX7_turn 5 (some .int) (.code yX7_turn cX7_turn 5 (some .int) :: ws0) rm mc ms 3 := cwV 3 hts (zz_gV mw_584 mw_585 mw_586 mw_102 mc_yX7_turn) rfl hrc hrs (by decide +kernel) hR
theorem csV_2 {R : Room} {s : State} {args : Array Value} {rm : Room} {mc ms : Nat} (hts : ∀ w ∈ ws0, w.before args s = true) (hrc : rm.cells = mc) (hrs : rm.slots = ms) (hR : rm.frames + 1 ≤ R.frames ∧ 8 + (1 + 11) + rm.locals ≤ R.locals) : CallW R s args "ScaleShop$Row" RX7 55 yX7_parts cX7_parts 1 (some .int) (.code yX7_parts cX7_parts 1 (some .int) :: ws0) rm mc ms 0 := cwV 0 hts (zz_gV mw_622 mw_623 mw_624 mw_102 mc_yX7_parts) rfl hrc hrs (by decide +kernel) hR
theorem csV_3 {R : Room} {s : State} {args : Array Value} {rm : Room} {mc ms : Nat} (hts : ∀ w ∈ ws0, w.before args s = true) (hrc : rm.cells = mc) (hrs : rm.slots = ms) (hR : rm.frames + 1 ≤ R.frames ∧ 8 + (5 + 11) + rm.locals ≤ R.locals) : CallW R s args "ScaleShop$Row" RX7 58 yX7_isOn cX7_isOn 5 (some .boolean) (.code yX7_isOn cX7_isOn 5 (some .boolean) :: ws0) rm mc ms 3 := cwV 3 hts (zz_gV mw_626 mw_627 mw_628 mw_102 mc_yX7_isOn) rfl hrc hrs (by decide +kernel) hR
theorem csV_4 {R : Room} {s : State} {args : Array Value} {rm : Room} {mc ms : Nat} (hts : ∀ w ∈ ws0, w.before args s = true) (hrc : rm.cells = mc) (hrs : rm.slots = ms) (hR : rm.frames + 1 ≤ R.frames ∧ 8 + (18 + 11) + rm.locals ≤ R.locals) : CallW R s args "ScaleShop$Row" RX7 65 yX7_partsMeet cX7_partsMeet 18 (some .boolean) (.code yX7_partsMeet cX7_partsMeet 18 (some .boolean) :: ws0) rm mc ms 3 := cwV 3 hts (zz_gV mw_548 mw_549 mw_550 mw_102 mc_yX7_partsMeet) rfl hrc hrs (by decide +kernel) hR
theorem csV_5 {R : Room} {s : State} {args : Array Value} {rm : Room} {mc ms : Nat} (hts : ∀ w ∈ ws0, w.before args s = true) (hrc : rm.cells = mc) (hrs : rm.slots = ms) (hR : rm.frames + 1 ≤ R.frames ∧ 8 + (2 + 11) + rm.locals ≤ R.locals) : CallW R s args "ScaleShop$Row" RX7 85 yX7_previous cX7_previous 2 (some .int) (.code yX7_previous cX7_previous 2 (some .int) :: ws0) rm mc ms 1 := cwV 1 hts (zz_gV mw_556 mw_557 mw_558 mw_102 mc_yX7_previous) rfl hrc hrs (by decide +kernel) hR
theorem csV_6 {R : Room} {s : State} {args : Array Value} {rm : Room} {mc ms : Nat} (hts : ∀ w ∈ ws0, w.before args s = true) (hrc : rm.cells = mc) (hrs : rm.slots = ms) (hR : rm.frames + 1 ≤ R.frames ∧ 8 + (2 + 11) + rm.locals ≤ R.locals) : CallW R s args "ScaleShop$Row" RX7 77 yX7_next cX7_next 2 (some .int) (.code yX7_next cX7_next 2 (some .int) :: ws0) rm mc ms 1 := cwV 1 hts (zz_gV mw_536 mw_537 mw_538 mw_102 mc_yX7_next) rfl hrc hrs (by decide +kernel) hR
theorem csV_7 {R : Room} {s : State} {args : Array Value} {rm : Room} {mc ms : Nat} (hts : ∀ w ∈ ws0, w.before args s = true) (hrc : rm.cells = mc) (hrs : rm.slots = ms) (hR : rm.frames + 1 ≤ R.frames ∧ 8 + (4 + 11) + rm.locals ≤ R.locals) : CallW R s args "ScaleShop$Row" RX7 62 yX7_isCorner cX7_isCorner 4 (some .boolean) (.code yX7_isCorner cX7_isCorner 4 (some .boolean) :: ws0) rm mc ms 3 := cwV 3 hts (zz_gV mw_540 mw_541 mw_542 mw_102 mc_yX7_isCorner) rfl hrc hrs (by decide +kernel) hR
theorem csV_8 {R : Room} {s : State} {args : Array Value} {rm : Room} {mc ms : Nat} (hts : ∀ w ∈ ws0, w.before args s = true) (hrc : rm.cells = mc) (hrs : rm.slots = ms) (hR : rm.frames + 1 ≤ R.frames ∧ 8 + (8 + 11) + rm.locals ≤ R.locals) : CallW R s args "ScaleShop$Row" RX7 81 yX7_foldsBack cX7_foldsBack 8 (some .boolean) (.code yX7_foldsBack cX7_foldsBack 8 (some .boolean) :: ws0) rm mc ms 1 := cwV 1 hts (zz_gV mw_544 mw_546 mw_5 mw_102 mc_yX7_foldsBack) rfl hrc hrs (by decide +kernel) hR
theorem csV_9 {R : Room} {s : State} {args : Array Value} {rm : Room} {mc ms : Nat} (hts : ∀ w ∈ ws0, w.before args s = true) (hrc : rm.cells = mc) (hrs : rm.slots = ms) (hR : rm.frames + 1 ≤ R.frames ∧ 8 + (4 + 11) + rm.locals ≤ R.locals) : CallW R s args "ScaleShop$Row" RX7 73 yX7_hasRightAngles cX7_hasRightAngles 4 (some .boolean) (.code yX7_hasRightAngles cX7_hasRightAngles 4 (some .boolean) :: ws0) rm mc ms 0 := cwV 0 hts (zz_gV mw_552 mw_554 mw_6 mw_102 mc_yX7_hasRightAngles) rfl hrc hrs (by decide +kernel) hR
theorem csV_10 {R : Room} {s : State} {args : Array Value} {rm : Room} {mc ms : Nat} (hts : ∀ w ∈ ws0, w.before args s = true) (hrc : rm.cells = mc) (hrs : rm.slots = ms) (hR : rm.frames + 1 ≤ R.frames ∧ 8 + (5 + 11) + rm.locals ≤ R.locals) : CallW R s args "ScaleShop$Row" RX7 69 yX7_isEdgeFree cX7_isEdgeFree 5 (some .boolean) (.code yX7_isEdgeFree cX7_isEdgeFree 5 (some .boolean) :: ws0) rm mc ms 2 := cwV 2 hts (zz_gV mw_532 mw_533 mw_534 mw_102 mc_yX7_isEdgeFree) rfl hrc hrs (by decide +kernel) hR
theorem csV_11 {R : Room} {s : State} {args : Array Value} {rm : Room} {mc ms : Nat} (hts : ∀ w ∈ ws0, w.before args s = true) (hrc : rm.cells = mc) (hrs : rm.slots = ms) (hR : rm.frames + 1 ≤ R.frames ∧ 8 + (2 + 11) + rm.locals ≤ R.locals) : CallW R s args "ScaleShop$Row" RX7 32 yX7_clear cX7_clear 2 none (.code yX7_clear cX7_clear 2 none :: ws0) rm mc ms 1 := cwV 1 hts (zz_gV mw_599 mw_600 mw_601 mw_102 mc_yX7_clear) rfl hrc hrs (by decide +kernel) hR
theorem csV_12 {R : Room} {s : State} {args : Array Value} {rm : Room} {mc ms : Nat} (hts : ∀ w ∈ ws0, w.before args s = true) (hrc : rm.cells = mc) (hrs : rm.slots = ms) (hR : rm.frames + 1 ≤ R.frames ∧ 8 + (3 + 11) + rm.locals ≤ R.locals) : CallW R s args "ScaleShop$Row" RX7 36 yX7_put cX7_put 3 none (.code yX7_put cX7_put 3 none :: ws0) rm mc ms 2 := cwV 2 hts (zz_gV mw_603 mw_506 mw_507 mw_102 mc_yX7_put) rfl hrc hrs (by decide +kernel) hR
theorem csV_13 {R : Room} {s : State} {args : Array Value} {rm : Room} {mc ms : Nat} (hts : ∀ w ∈ ws0, w.before args s = true) (hrc : rm.cells = mc) (hrs : rm.slots = ms) (hR : rm.frames + 1 ≤ R.frames ∧ 8 + (2 + 11) + rm.locals ≤ R.locals) : CallW R s args "ScaleShop$Row" RX7 94 yX7_isEnd cX7_isEnd 2 (some .boolean) (.code yX7_isEnd cX7_isEnd 2 (some .boolean) :: ws0) rm mc ms 1 := cwV 1 hts (zz_gV mw_871 mw_577 mw_578 mw_102 mc_yX7_isEnd) rfl hrc hrs (by decide +kernel) hR
theorem csS_14 {R : Room} {s : State} {args : Array Value} {rm : Room} {mc ms : Nat} (hts : ∀ w ∈ ws0, w.before args s = true) (hrc : rm.cells = mc) (hrs : rm.slots = ms) (hR : rm.frames + 1 ≤ R.frames ∧ 8 + (3 + 11) + rm.locals ≤ R.locals) : CallB R s args "ScaleShop" 74 yX10_isWithin cX10_isWithin 3 (some .boolean) (.code yX10_isWithin cX10_isWithin 3 (some .boolean) :: ws0) rm mc ms 3 ∧ (Cond.static yX10_isWithin).before args s = true := va_cwS 3 hts (zz_gS mw_353 mw_354 mw_99 mc_yX10_isWithin) rfl hrc hrs (by decide +kernel) hR
theorem csV_15 {R : Room} {s : State} {args : Array Value} {rm : Room} {mc ms : Nat} (hts : ∀ w ∈ ws0, w.before args s = true) (hrc : rm.cells = mc) (hrs : rm.slots = ms) (hR : rm.frames + 1 ≤ R.frames ∧ 8 + (3 + 11) + rm.locals ≤ R.locals) : CallW R s args "ScaleShop$Box" RX0 42 yX0_take cX0_take 3 none (.code yX0_take cX0_take 3 none :: ws0) rm mc ms 2 := cwV 2 hts (zz_gV mw_664 mw_651 mw_652 mw_104 mc_yX0_take) rfl hrc hrs (by decide +kernel) hR
theorem csV_16 {R : Room} {s : State} {args : Array Value} {rm : Room} {mc ms : Nat} (hts : ∀ w ∈ ws0, w.before args s = true) (hrc : rm.cells = mc) (hrs : rm.slots = ms) (hR : rm.frames + 1 ≤ R.frames ∧ 8 + (3 + 11) + rm.locals ≤ R.locals) : CallW R s args "ScaleShop$Box" RX0 31 yX0_begin cX0_begin 3 none (.code yX0_begin cX0_begin 3 none :: ws0) rm mc ms 2 := cwV 2 hts (zz_gV mw_659 mw_647 mw_648 mw_104 mc_yX0_begin) rfl hrc hrs (by decide +kernel) hR
theorem csV_17 {R : Room} {s : State} {args : Array Value} {rm : Room} {mc ms : Nat} (hts : ∀ w ∈ ws0, w.before args s = true) (hrc : rm.cells = mc) (hrs : rm.slots = ms) (hR : rm.frames + 1 ≤ R.frames ∧ 8 + (3 + 11) + rm.locals ≤ R.locals) : CallW R s args "ScaleShop$Box" RX0 35 yX0_stretch cX0_stretch 3 none (.code yX0_stretch cX0_stretch 3 none :: ws0) rm mc ms 1 := cwV 1 hts (zz_gV mw_660 mw_661 mw_662 mw_104 mc_yX0_stretch) rfl hrc hrs (by decide +kernel) hR
theorem csV_18 {R : Room} {s : State} {args : Array Value} {rm : Room} {mc ms : Nat} (hts : ∀ w ∈ ws0, w.before args s = true) (hrc : rm.cells = mc) (hrs : rm.slots = ms) (hR : rm.frames + 1 ≤ R.frames ∧ 8 + (4 + 11) + rm.locals ≤ R.locals) : CallW R s args "ScaleShop$Box" RX0 45 yX0_squareApart cX0_squareApart 4 (some .int) (.code yX0_squareApart cX0_squareApart 4 (some .int) :: ws0) rm mc ms 1 := cwV 1 hts (zz_gV mw_670 mw_671 mw_672 mw_104 mc_yX0_squareApart) rfl hrc hrs (by decide +kernel) hR
theorem csV_19 {R : Room} {s : State} {args : Array Value} {rm : Room} {mc ms : Nat} (hts : ∀ w ∈ ws0, w.before args s = true) (hrc : rm.cells = mc) (hrs : rm.slots = ms) (hR : rm.frames + 1 ≤ R.frames ∧ 8 + (5 + 11) + rm.locals ≤ R.locals) : CallW R s args "ScaleShop$Fraction" RX3 16 yX3_become cX3_become 5 none (.code yX3_become cX3_become 5 none :: ws0) rm mc ms 2 := cwV 2 hts (zz_gV mw_930 mw_931 mw_932 mw_106 mc_yX3_become) rfl hrc hrs (by decide +kernel) hR
theorem csV_20 {R : Room} {s : State} {args : Array Value} {rm : Room} {mc ms : Nat} (hts : ∀ w ∈ ws0, w.before args s = true) (hrc : rm.cells = mc) (hrs : rm.slots = ms) (hR : rm.frames + 1 ≤ R.frames ∧ 8 + (2 + 11) + rm.locals ≤ R.locals) : CallW R s args "ScaleShop$Fraction" RX7 32 yX7_next cX7_next 2 (some .int) (.code yX7_next cX7_next 2 (some .int) :: ws0) rm mc ms 1 := cwV 1 hts (zz_gV mw_947 mw_537 mw_538 mw_102 mc_yX7_next) rfl hrc hrs (by decide +kernel) hR
theorem csV_21 {R : Room} {s : State} {args : Array Value} {rm : Room} {mc ms : Nat} (hts : ∀ w ∈ ws0, w.before args s = true) (hrc : rm.cells = mc) (hrs : rm.slots = ms) (hR : rm.frames + 1 ≤ R.frames ∧ 8 + (5 + 11) + rm.locals ≤ R.locals) : CallW R s args "ScaleShop$Fraction" RX7 46 yX7_turn cX7_turn 5 (some .int) (.code yX7_turn cX7_turn 5 (some .int) :: ws0) rm mc ms 3 := cwV 3 hts (zz_gV mw_952 mw_585 mw_586 mw_102 mc_yX7_turn) rfl hrc hrs (by decide +kernel) hR
theorem csV_22 {R : Room} {s : State} {args : Array Value} {rm : Room} {mc ms : Nat} (hts : ∀ w ∈ ws0, w.before args s = true) (hrc : rm.cells = mc) (hrs : rm.slots = ms) (hR : rm.frames + 1 ≤ R.frames ∧ 8 + (5 + 11) + rm.locals ≤ R.locals) : CallW R s args "ScaleShop$Fraction" RX3 43 yX3_offer cX3_offer 5 none (.code yX3_offer cX3_offer 5 none :: ws0) rm mc ms 2 := cwV 2 hts (zz_gV mw_948 mw_949 mw_950 mw_106 mc_yX3_offer) rfl hrc hrs (by decide +kernel) hR
theorem csV_23 {R : Room} {s : State} {args : Array Value} {rm : Room} {mc ms : Nat} (hts : ∀ w ∈ ws0, w.before args s = true) (hrc : rm.cells = mc) (hrs : rm.slots = ms) (hR : rm.frames + 1 ≤ R.frames ∧ 8 + (1 + 11) + rm.locals ≤ R.locals) : CallW R s args "ScaleShop$Fraction" RX7 22 yX7_parts cX7_parts 1 (some .int) (.code yX7_parts cX7_parts 1 (some .int) :: ws0) rm mc ms 0 := cwV 0 hts (zz_gV mw_942 mw_623 mw_624 mw_102 mc_yX7_parts) rfl hrc hrs (by decide +kernel) hR
theorem csV_24 {R : Room} {s : State} {args : Array Value} {rm : Room} {mc ms : Nat} (hts : ∀ w ∈ ws0, w.before args s = true) (hrc : rm.cells = mc) (hrs : rm.slots = ms) (hR : rm.frames + 1 ≤ R.frames ∧ 8 + (14 + 11) + rm.locals ≤ R.locals) : CallW R s args "ScaleShop$Fraction" RX3 28 yX3_offerPart cX3_offerPart 14 none (.code yX3_offerPart cX3_offerPart 14 none :: ws0) rm mc ms 4 := cwV 4 hts (zz_gV mw_943 mw_945 mw_25 mw_106 mc_yX3_offerPart) rfl hrc hrs (by decide +kernel) hR
theorem csV_25 {R : Room} {s : State} {args : Array Value} {rm : Room} {mc ms : Nat} (hts : ∀ w ∈ ws0, w.before args s = true) (hrc : rm.cells = mc) (hrs : rm.slots = ms) (hR : rm.frames + 1 ≤ R.frames ∧ 8 + (6 + 11) + rm.locals ≤ R.locals) : CallW R s args "ScaleShop$Fraction" RX7 50 yX7_touches cX7_touches 6 (some .boolean) (.code yX7_touches cX7_touches 6 (some .boolean) :: ws0) rm mc ms 1 := cwV 1 hts (zz_gV mw_929 mw_680 mw_681 mw_102 mc_yX7_touches) rfl hrc hrs (by decide +kernel) hR
theorem csV_26 {R : Room} {s : State} {args : Array Value} {rm : Room} {mc ms : Nat} (hts : ∀ w ∈ ws0, w.before args s = true) (hrc : rm.cells = mc) (hrs : rm.slots = ms) (hR : rm.frames + 1 ≤ R.frames ∧ 8 + (1 + 11) + rm.locals ≤ R.locals) : CallW R s args "ScaleShop$Fraction" RX3 54 yX3_clear cX3_clear 1 none (.code yX3_clear cX3_clear 1 none :: ws0) rm mc ms 0 := cwV 0 hts (zz_gV mw_934 mw_935 mw_936 mw_106 mc_yX3_clear) rfl hrc hrs (by decide +kernel) hR
theorem csV_27 {R : Room} {s : State} {args : Array Value} {rm : Room} {mc ms : Nat} (hts : ∀ w ∈ ws0, w.before args s = true) (hrc : rm.cells = mc) (hrs : rm.slots = ms) (hR : rm.frames + 1 ≤ R.frames ∧ 8 + (5 + 11) + rm.locals ≤ R.locals) : CallW R s args "ScaleShop$Fraction" RX3 61 yX3_offerFrom cX3_offerFrom 5 none (.code yX3_offerFrom cX3_offerFrom 5 none :: ws0) rm mc ms 3 := cwV 3 hts (zz_gV mw_938 mw_939 mw_940 mw_106 mc_yX3_offerFrom) rfl hrc hrs (by decide +kernel) hR
theorem csV_28 {R : Room} {s : State} {args : Array Value} {rm : Room} {mc ms : Nat} (hts : ∀ w ∈ ws0, w.before args s = true) (hrc : rm.cells = mc) (hrs : rm.slots = ms) (hR : rm.frames + 1 ≤ R.frames ∧ 8 + (3 + 11) + rm.locals ≤ R.locals) : CallW R s args "ScaleShop$Row" RX7 43 yX7_copyFrom cX7_copyFrom 3 none (.code yX7_copyFrom cX7_copyFrom 3 none :: ws0) rm mc ms 1 := cwV 1 hts (zz_gV mw_750 mw_596 mw_597 mw_102 mc_yX7_copyFrom) rfl hrc hrs (by decide +kernel) hR
theorem csV_29 {R : Room} {s : State} {args : Array Value} {rm : Room} {mc ms : Nat} (hts : ∀ w ∈ ws0, w.before args s = true) (hrc : rm.cells = mc) (hrs : rm.slots = ms) (hR : rm.frames + 1 ≤ R.frames ∧ 8 + (2 + 11) + rm.locals ≤ R.locals) : CallW R s args "ScaleShop$Feature" RX5 57 yX5_copy cX5_copy 2 (some (.object "ScaleShop$Look")) (.code yX5_copy cX5_copy 2 (some (.object "ScaleShop$Look")) :: ws0) rm mc ms 0 := cwV 0 hts (zz_gV mw_738 mw_739 mw_740 mw_112 mc_yX5_copy) rfl hrc hrs (by decide +kernel) hR
theorem csV_30 {R : Room} {s : State} {args : Array Value} {rm : Room} {mc ms : Nat} (hts : ∀ w ∈ ws0, w.before args s = true) (hrc : rm.cells = mc) (hrs : rm.slots = ms) (hR : rm.frames + 1 ≤ R.frames ∧ 8 + (1 + 11) + rm.locals ≤ R.locals) : CallW R s args "ScaleShop$Feature" RX2 61 yX2_keepFormer cX2_keepFormer 1 none (.code yX2_keepFormer cX2_keepFormer 1 none :: ws0) rm mc ms 0 := cwV 0 hts (zz_gV mw_734 mw_736 mw_19 mw_111 mc_yX2_keepFormer) rfl hrc hrs (by decide +kernel) hR
theorem csV_31 {R : Room} {s : State} {args : Array Value} {rm : Room} {mc ms : Nat} (hts : ∀ w ∈ ws0, w.before args s = true) (hrc : rm.cells = mc) (hrs : rm.slots = ms) (hR : rm.frames + 1 ≤ R.frames ∧ 8 + (2 + 11) + rm.locals ≤ R.locals) : CallW R s args "ScaleShop$Feature" RX7 70 yX7_copy cX7_copy 2 (some (.object "ScaleShop$Row")) (.code yX7_copy cX7_copy 2 (some (.object "ScaleShop$Row")) :: ws0) rm mc ms 0 := cwV 0 hts (zz_gV mw_744 mw_745 mw_746 mw_102 mc_yX7_copy) rfl hrc hrs (by decide +kernel) hR
theorem csV_32 {R : Room} {s : State} {args : Array Value} {rm : Room} {mc ms : Nat} (hts : ∀ w ∈ ws0, w.before args s = true) (hrc : rm.cells = mc) (hrs : rm.slots = ms) (hR : rm.frames + 1 ≤ R.frames ∧ 8 + (3 + 11) + rm.locals ≤ R.locals) : CallW R s args "ScaleShop$Feature" RX7 87 yX7_put cX7_put 3 none (.code yX7_put cX7_put 3 none :: ws0) rm mc ms 2 := cwV 2 hts (zz_gV mw_751 mw_506 mw_507 mw_102 mc_yX7_put) rfl hrc hrs (by decide +kernel) hR
theorem csV_33 {R : Room} {s : State} {args : Array Value} {rm : Room} {mc ms : Nat} (hts : ∀ w ∈ ws0, w.before args s = true) (hrc : rm.cells = mc) (hrs : rm.slots = ms) (hR : rm.frames + 1 ≤ R.frames ∧ 8 + (3 + 11) + rm.locals ≤ R.locals) : CallW R s args "ScaleShop$Feature" RX7 91 yX7_cut cX7_cut 3 none (.code yX7_cut cX7_cut 3 none :: ws0) rm mc ms 1 := cwV 1 hts (zz_gV mw_752 mw_605 mw_606 mw_102 mc_yX7_cut) rfl hrc hrs (by decide +kernel) hR
theorem csV_34 {R : Room} {s : State} {args : Array Value} {rm : Room} {mc ms : Nat} (hts : ∀ w ∈ ws0, w.before args s = true) (hrc : rm.cells = mc) (hrs : rm.slots = ms) (hR : rm.frames + 1 ≤ R.frames ∧ 8 + (2 + 11) + rm.locals ≤ R.locals) : CallW R s args "ScaleShop$Feature" RX2 73 yX2_reshape cX2_reshape 2 none (.code yX2_reshape cX2_reshape 2 none :: ws0) rm mc ms 1 := cwV 1 hts (zz_gV mw_730 mw_731 mw_732 mw_111 mc_yX2_reshape) rfl hrc hrs (by decide +kernel) hR
theorem csV_35 {R : Room} {s : State} {args : Array Value} {rm : Room} {mc ms : Nat} (hts : ∀ w ∈ ws0, w.before args s = true) (hrc : rm.cells = mc) (hrs : rm.slots = ms) (hR : rm.frames + 1 ≤ R.frames ∧ 8 + (1 + 11) + rm.locals ≤ R.locals) : CallW R s args "ScaleShop$Sheet" RX8 21 yX8_isFull cX8_isFull 1 (some .boolean) (.code yX8_isFull cX8_isFull 1 (some .boolean) :: ws0) rm mc ms 0 := cwV 0 hts (zz_gV mw_493 mw_361 mw_362 mw_100 mc_yX8_isFull) rfl hrc hrs (by decide +kernel) hR
theorem csV_36 {R : Room} {s : State} {args : Array Value} {rm : Room} {mc ms : Nat} (hts : ∀ w ∈ ws0, w.before args s = true) (hrc : rm.cells = mc) (hrs : rm.slots = ms) (hR : rm.frames + 1 ≤ R.frames ∧ 8 + (2 + 11) + rm.locals ≤ R.locals) : CallW R s args "ScaleShop$Sheet" RX8 31 yX8_find cX8_find 2 (some (.object "ScaleShop$Feature")) (.code yX8_find cX8_find 2 (some (.object "ScaleShop$Feature")) :: ws0) rm mc ms 1 := cwV 1 hts (zz_gV mw_616 mw_499 mw_500 mw_100 mc_yX8_find) rfl hrc hrs (by decide +kernel) hR
theorem csV_37 {R : Room} {s : State} {args : Array Value} {rm : Room} {mc ms : Nat} (hts : ∀ w ∈ ws0, w.before args s = true) (hrc : rm.cells = mc) (hrs : rm.slots = ms) (hR : rm.frames + 1 ≤ R.frames ∧ 8 + (3 + 11) + rm.locals ≤ R.locals) : CallW R s args "ScaleShop$Sheet" RX8 51 yX8_rowThere cX8_rowThere 3 (some (.object "ScaleShop$Row")) (.code yX8_rowThere cX8_rowThere 3 (some (.object "ScaleShop$Row")) :: ws0) rm mc ms 1 := cwV 1 hts (zz_gV mw_987 mw_613 mw_614 mw_100 mc_yX8_rowThere) rfl hrc hrs (by decide +kernel) hR
theorem csV_38 {R : Room} {s : State} {args : Array Value} {rm : Room} {mc ms : Nat} (hts : ∀ w ∈ ws0, w.before args s = true) (hrc : rm.cells = mc) (hrs : rm.slots = ms) (hR : rm.frames + 1 ≤ R.frames ∧ 8 + (7 + 11) + rm.locals ≤ R.locals) : CallW R s args "ScaleShop$Law" RX7 174 yX7_where cX7_where 7 (some .int) (.code yX7_where cX7_where 7 (some .int) :: ws0) rm mc ms 2 := cwV 2 hts (zz_gV mw_687 mw_688 mw_689 mw_102 mc_yX7_where) rfl hrc hrs (by decide +kernel) hR
theorem csV_39 {R : Room} {s : State} {args : Array Value} {rm : Room} {mc ms : Nat} (hts : ∀ w ∈ ws0, w.before args s = true) (hrc : rm.cells = mc) (hrs : rm.slots = ms) (hR : rm.frames + 1 ≤ R.frames ∧ 8 + (5 + 11) + rm.locals ≤ R.locals) : CallW R s args "ScaleShop$Law" RX7 199 yX7_turn cX7_turn 5 (some .int) (.code yX7_turn cX7_turn 5 (some .int) :: ws0) rm mc ms 3 := cwV 3 hts (zz_gV mw_707 mw_585 mw_586 mw_102 mc_yX7_turn) rfl hrc hrs (by decide +kernel) hR
theorem csV_40 {R : Room} {s : State} {args : Array Value} {rm : Room} {mc ms : Nat} (hts : ∀ w ∈ ws0, w.before args s = true) (hrc : rm.cells = mc) (hrs : rm.slots = ms) (hR : rm.frames + 1 ≤ R.frames ∧ 8 + (2 + 11) + rm.locals ≤ R.locals) : CallW R s args "ScaleShop$Law" RX7 177 yX7_clear cX7_clear 2 none (.code yX7_clear cX7_clear 2 none :: ws0) rm mc ms 1 := cwV 1 hts (zz_gV mw_698 mw_600 mw_601 mw_102 mc_yX7_clear) rfl hrc hrs (by decide +kernel) hR
theorem csV_41 {R : Room} {s : State} {args : Array Value} {rm : Room} {mc ms : Nat} (hts : ∀ w ∈ ws0, w.before args s = true) (hrc : rm.cells = mc) (hrs : rm.slots = ms) (hR : rm.frames + 1 ≤ R.frames ∧ 8 + (3 + 11) + rm.locals ≤ R.locals) : CallW R s args "ScaleShop$Law" RX7 181 yX7_put cX7_put 3 none (.code yX7_put cX7_put 3 none :: ws0) rm mc ms 2 := cwV 2 hts (zz_gV mw_699 mw_506 mw_507 mw_102 mc_yX7_put) rfl hrc hrs (by decide +kernel) hR
theorem csV_42 {R : Room} {s : State} {args : Array Value} {rm : Room} {mc ms : Nat} (hts : ∀ w ∈ ws0, w.before args s = true) (hrc : rm.cells = mc) (hrs : rm.slots = ms) (hR : rm.frames + 1 ≤ R.frames ∧ 8 + (1 + 11) + rm.locals ≤ R.locals) : CallW R s args "ScaleShop$Law" RX7 184 yX7_parts cX7_parts 1 (some .int) (.code yX7_parts cX7_parts 1 (some .int) :: ws0) rm mc ms 0 := cwV 0 hts (zz_gV mw_700 mw_623 mw_624 mw_102 mc_yX7_parts) rfl hrc hrs (by decide +kernel) hR
theorem csV_43 {R : Room} {s : State} {args : Array Value} {rm : Room} {mc ms : Nat} (hts : ∀ w ∈ ws0, w.before args s = true) (hrc : rm.cells = mc) (hrs : rm.slots = ms) (hR : rm.frames + 1 ≤ R.frames ∧ 8 + (18 + 11) + rm.locals ≤ R.locals) : CallW R s args "ScaleShop$Law" RX7 188 yX7_partsMeet cX7_partsMeet 18 (some .boolean) (.code yX7_partsMeet cX7_partsMeet 18 (some .boolean) :: ws0) rm mc ms 3 := cwV 3 hts (zz_gV mw_701 mw_549 mw_550 mw_102 mc_yX7_partsMeet) rfl hrc hrs (by decide +kernel) hR
theorem csV_44 {R : Room} {s : State} {args : Array Value} {rm : Room} {mc ms : Nat} (hts : ∀ w ∈ ws0, w.before args s = true) (hrc : rm.cells = mc) (hrs : rm.slots = ms) (hR : rm.frames + 1 ≤ R.frames ∧ 8 + (2 + 11) + rm.locals ≤ R.locals) : CallW R s args "ScaleShop$Law" RX7 148 yX7_next cX7_next 2 (some .int) (.code yX7_next cX7_next 2 (some .int) :: ws0) rm mc ms 1 := cwV 1 hts (zz_gV mw_654 mw_537 mw_538 mw_102 mc_yX7_next) rfl hrc hrs (by decide +kernel) hR
theorem csV_45 {R : Room} {s : State} {args : Array Value} {rm : Room} {mc ms : Nat} (hts : ∀ w ∈ ws0, w.before args s = true) (hrc : rm.cells = mc) (hrs : rm.slots = ms) (hR : rm.frames + 1 ≤ R.frames ∧ 8 + (5 + 11) + rm.locals ≤ R.locals) : CallW R s args "ScaleShop$Law" RX7 192 yX7_isOn cX7_isOn 5 (some .boolean) (.code yX7_isOn cX7_isOn 5 (some .boolean) :: ws0) rm mc ms 3 := cwV 3 hts (zz_gV mw_702 mw_627 mw_628 mw_102 mc_yX7_isOn) rfl hrc hrs (by decide +kernel) hR
theorem csV_46 {R : Room} {s : State} {args : Array Value} {rm : Room} {mc ms : Nat} (hts : ∀ w ∈ ws0, w.before args s = true) (hrc : rm.cells = mc) (hrs : rm.slots = ms) (hR : rm.frames + 1 ≤ R.frames ∧ 8 + (4 + 11) + rm.locals ≤ R.locals) : CallW R s args "ScaleShop$Law" RX4 196 yX4_leadsTo cX4_leadsTo 4 (some .boolean) (.code yX4_leadsTo cX4_leadsTo 4 (some .boolean) :: ws0) rm mc ms 2 := cwV 2 hts (zz_gV mw_703 mw_705 mw_14 mw_101 mc_yX4_leadsTo) rfl hrc hrs (by decide +kernel) hR
theorem csV_47 {R : Room} {s : State} {args : Array Value} {rm : Room} {mc ms : Nat} (hts : ∀ w ∈ ws0, w.before args s = true) (hrc : rm.cells = mc) (hrs : rm.slots = ms) (hR : rm.frames + 1 ≤ R.frames ∧ 8 + (4 + 11) + rm.locals ≤ R.locals) : CallW R s args "ScaleShop$Law" RX7 214 yX7_isCorner cX7_isCorner 4 (some .boolean) (.code yX7_isCorner cX7_isCorner 4 (some .boolean) :: ws0) rm mc ms 3 := cwV 3 hts (zz_gV mw_713 mw_541 mw_542 mw_102 mc_yX7_isCorner) rfl hrc hrs (by decide +kernel) hR
theorem csV_48 {R : Room} {s : State} {args : Array Value} {rm : Room} {mc ms : Nat} (hts : ∀ w ∈ ws0, w.before args s = true) (hrc : rm.cells = mc) (hrs : rm.slots = ms) (hR : rm.frames + 1 ≤ R.frames ∧ 8 + (2 + 11) + rm.locals ≤ R.locals) : CallW R s args "ScaleShop$Law" RX7 114 yX7_previous cX7_previous 2 (some .int) (.code yX7_previous cX7_previous 2 (some .int) :: ws0) rm mc ms 1 := cwV 1 hts (zz_gV mw_639 mw_557 mw_558 mw_102 mc_yX7_previous) rfl hrc hrs (by decide +kernel) hR
theorem csV_49 {R : Room} {s : State} {args : Array Value} {rm : Room} {mc ms : Nat} (hts : ∀ w ∈ ws0, w.before args s = true) (hrc : rm.cells = mc) (hrs : rm.slots = ms) (hR : rm.frames + 1 ≤ R.frames ∧ 8 + (7 + 11) + rm.locals ≤ R.locals) : CallW R s args "ScaleShop$Law" RX4 203 yX4_setTriangle cX4_setTriangle 7 none (.code yX4_setTriangle cX4_setTriangle 7 none :: ws0) rm mc ms 6 := cwV 6 hts (zz_gV mw_714 mw_716 mw_16 mw_101 mc_yX4_setTriangle) rfl hrc hrs (by decide +kernel) hR
theorem csV_50 {R : Room} {s : State} {args : Array Value} {rm : Room} {mc ms : Nat} (hts : ∀ w ∈ ws0, w.before args s = true) (hrc : rm.cells = mc) (hrs : rm.slots = ms) (hR : rm.frames + 1 ≤ R.frames ∧ 8 + (10 + 11) + rm.locals ≤ R.locals) : CallW R s args "ScaleShop$Law" RX4 207 yX4_holdsCorner cX4_holdsCorner 10 (some .boolean) (.code yX4_holdsCorner cX4_holdsCorner 10 (some .boolean) :: ws0) rm mc ms 5 := cwV 5 hts (zz_gV mw_718 mw_720 mw_17 mw_101 mc_yX4_holdsCorner) rfl hrc hrs (by decide +kernel) hR
theorem csV_51 {R : Room} {s : State} {args : Array Value} {rm : Room} {mc ms : Nat} (hts : ∀ w ∈ ws0, w.before args s = true) (hrc : rm.cells = mc) (hrs : rm.slots = ms) (hR : rm.frames + 1 ≤ R.frames ∧ 8 + (1 + 11) + rm.locals ≤ R.locals) : CallW R s args "ScaleShop$Law" RX7 211 yX7_edges cX7_edges 1 (some .int) (.code yX7_edges cX7_edges 1 (some .int) :: ws0) rm mc ms 0 := cwV 0 hts (zz_gV mw_712 mw_529 mw_530 mw_102 mc_yX7_edges) rfl hrc hrs (by decide +kernel) hR
theorem csV_52 {R : Room} {s : State} {args : Array Value} {rm : Room} {mc ms : Nat} (hts : ∀ w ∈ ws0, w.before args s = true) (hrc : rm.cells = mc) (hrs : rm.slots = ms) (hR : rm.frames + 1 ≤ R.frames ∧ 8 + (2 + 11) + rm.locals ≤ R.locals) : CallW R s args "ScaleShop$Law" RX0 130 yX0_cover cX0_cover 2 none (.code yX0_cover cX0_cover 2 none :: ws0) rm mc ms 1 := cwV 1 hts (zz_gV mw_655 mw_656 mw_657 mw_104 mc_yX0_cover) rfl hrc hrs (by decide +kernel) hR
theorem csV_53 {R : Room} {s : State} {args : Array Value} {rm : Room} {mc ms : Nat} (hts : ∀ w ∈ ws0, w.before args s = true) (hrc : rm.cells = mc) (hrs : rm.slots = ms) (hR : rm.frames + 1 ≤ R.frames ∧ 8 + (3 + 11) + rm.locals ≤ R.locals) : CallW R s args "ScaleShop$Law" RX0 151 yX0_stretch cX0_stretch 3 none (.code yX0_stretch cX0_stretch 3 none :: ws0) rm mc ms 1 := cwV 1 hts (zz_gV mw_665 mw_661 mw_662 mw_104 mc_yX0_stretch) rfl hrc hrs (by decide +kernel) hR
theorem csV_54 {R : Room} {s : State} {args : Array Value} {rm : Room} {mc ms : Nat} (hts : ∀ w ∈ ws0, w.before args s = true) (hrc : rm.cells = mc) (hrs : rm.slots = ms) (hR : rm.frames + 1 ≤ R.frames ∧ 8 + (3 + 11) + rm.locals ≤ R.locals) : CallW R s args "ScaleShop$Law" RX0 141 yX0_begin cX0_begin 3 none (.code yX0_begin cX0_begin 3 none :: ws0) rm mc ms 2 := cwV 2 hts (zz_gV mw_646 mw_647 mw_648 mw_104 mc_yX0_begin) rfl hrc hrs (by decide +kernel) hR
theorem csV_55 {R : Room} {s : State} {args : Array Value} {rm : Room} {mc ms : Nat} (hts : ∀ w ∈ ws0, w.before args s = true) (hrc : rm.cells = mc) (hrs : rm.slots = ms) (hR : rm.frames + 1 ≤ R.frames ∧ 8 + (3 + 11) + rm.locals ≤ R.locals) : CallW R s args "ScaleShop$Law" RX0 145 yX0_take cX0_take 3 none (.code yX0_take cX0_take 3 none :: ws0) rm mc ms 2 := cwV 2 hts (zz_gV mw_650 mw_651 mw_652 mw_104 mc_yX0_take) rfl hrc hrs (by decide +kernel) hR
theorem csV_56 {R : Room} {s : State} {args : Array Value} {rm : Room} {mc ms : Nat} (hts : ∀ w ∈ ws0, w.before args s = true) (hrc : rm.cells = mc) (hrs : rm.slots = ms) (hR : rm.frames + 1 ≤ R.frames ∧ 8 + (6 + 11) + rm.locals ≤ R.locals) : CallW R s args "ScaleShop$Law" RX7 154 yX7_touches cX7_touches 6 (some .boolean) (.code yX7_touches cX7_touches 6 (some .boolean) :: ws0) rm mc ms 1 := cwV 1 hts (zz_gV mw_679 mw_680 mw_681 mw_102 mc_yX7_touches) rfl hrc hrs (by decide +kernel) hR
theorem csV_57 {R : Room} {s : State} {args : Array Value} {rm : Room} {mc ms : Nat} (hts : ∀ w ∈ ws0, w.before args s = true) (hrc : rm.cells = mc) (hrs : rm.slots = ms) (hR : rm.frames + 1 ≤ R.frames ∧ 8 + (5 + 11) + rm.locals ≤ R.locals) : CallW R s args "ScaleShop$Law" RX4 165 yX4_isWayFree cX4_isWayFree 5 (some .boolean) (.code yX4_isWayFree cX4_isWayFree 5 (some .boolean) :: ws0) rm mc ms 2 := cwV 2 hts (zz_gV mw_694 mw_696 mw_13 mw_101 mc_yX4_isWayFree) rfl hrc hrs (by decide +kernel) hR
theorem csV_58 {R : Room} {s : State} {args : Array Value} {rm : Room} {mc ms : Nat} (hts : ∀ w ∈ ws0, w.before args s = true) (hrc : rm.cells = mc) (hrs : rm.slots = ms) (hR : rm.frames + 1 ≤ R.frames ∧ 8 + (5 + 11) + rm.locals ≤ R.locals) : CallW R s args "ScaleShop$Law" RX4 158 yX4_holdsAsBefore cX4_holdsAsBefore 5 (some .boolean) (.code yX4_holdsAsBefore cX4_holdsAsBefore 5 (some .boolean) :: ws0) rm mc ms 2 := cwV 2 hts (zz_gV mw_683 mw_685 mw_12 mw_101 mc_yX4_holdsAsBefore) rfl hrc hrs (by decide +kernel) hR
theorem csV_59 {R : Room} {s : State} {args : Array Value} {rm : Room} {mc ms : Nat} (hts : ∀ w ∈ ws0, w.before args s = true) (hrc : rm.cells = mc) (hrs : rm.slots = ms) (hR : rm.frames + 1 ≤ R.frames ∧ 8 + (7 + 11) + rm.locals ≤ R.locals) : CallW R s args "ScaleShop$Law" RX4 168 yX4_isSweptByMove cX4_isSweptByMove 7 (some .boolean) (.code yX4_isSweptByMove cX4_isSweptByMove 7 (some .boolean) :: ws0) rm mc ms 2 := cwV 2 hts (zz_gV mw_708 mw_710 mw_15 mw_101 mc_yX4_isSweptByMove) rfl hrc hrs (by decide +kernel) hR
theorem csV_60 {R : Room} {s : State} {args : Array Value} {rm : Room} {mc ms : Nat} (hts : ∀ w ∈ ws0, w.before args s = true) (hrc : rm.cells = mc) (hrs : rm.slots = ms) (hR : rm.frames + 1 ≤ R.frames ∧ 8 + (6 + 11) + rm.locals ≤ R.locals) : CallW R s args "ScaleShop$Law" RX4 171 yX4_isSweptByCut cX4_isSweptByCut 6 (some .boolean) (.code yX4_isSweptByCut cX4_isSweptByCut 6 (some .boolean) :: ws0) rm mc ms 3 := cwV 3 hts (zz_gV mw_722 mw_724 mw_18 mw_101 mc_yX4_isSweptByCut) rfl hrc hrs (by decide +kernel) hR
theorem csS_61 {R : Room} {s : State} {args : Array Value} {rm : Room} {mc ms : Nat} (hts : ∀ w ∈ ws0, w.before args s = true) (hrc : rm.cells = mc) (hrs : rm.slots = ms) (hR : rm.frames + 1 ≤ R.frames ∧ 8 + (2 + 11) + rm.locals ≤ R.locals) : CallB R s args "ScaleShop$Law" 162 yX4_isIn cX4_isIn 2 (some .boolean) (.code yX4_isIn cX4_isIn 2 (some .boolean) :: ws0) rm mc ms 2 ∧ (Cond.static yX4_isIn).before args s = true := va_cwS 2 hts (zz_gS mw_691 mw_692 mw_101 mc_yX4_isIn) rfl hrc hrs (by decide +kernel) hR
theorem csV_62 {R : Room} {s : State} {args : Array Value} {rm : Room} {mc ms : Nat} (hts : ∀ w ∈ ws0, w.before args s = true) (hrc : rm.cells = mc) (hrs : rm.slots = ms) (hR : rm.frames + 1 ≤ R.frames ∧ 8 + (3 + 11) + rm.locals ≤ R.locals) : CallW R s args "ScaleShop$Law" RX8 98 yX8_rowThere cX8_rowThere 3 (some (.object "ScaleShop$Row")) (.code yX8_rowThere cX8_rowThere 3 (some (.object "ScaleShop$Row")) :: ws0) rm mc ms 1 := cwV 1 hts (zz_gV mw_612 mw_613 mw_614 mw_100 mc_yX8_rowThere) rfl hrc hrs (by decide +kernel) hR
theorem csV_63 {R : Room} {s : State} {args : Array Value} {rm : Room} {mc ms : Nat} (hts : ∀ w ∈ ws0, w.before args s = true) (hrc : rm.cells = mc) (hrs : rm.slots = ms) (hR : rm.frames + 1 ≤ R.frames ∧ 8 + (2 + 11) + rm.locals ≤ R.locals) : CallW R s args "ScaleShop$Law" RX8 102 yX8_find cX8_find 2 (some (.object "ScaleShop$Feature")) (.code yX8_find cX8_find 2 (some (.object "ScaleShop$Feature")) :: ws0) rm mc ms 1 := cwV 1 hts (zz_gV mw_617 mw_499 mw_500 mw_100 mc_yX8_find) rfl hrc hrs (by decide +kernel) hR
theorem csV_64 {R : Room} {s : State} {args : Array Value} {rm : Room} {mc ms : Nat} (hts : ∀ w ∈ ws0, w.before args s = true) (hrc : rm.cells = mc) (hrs : rm.slots = ms) (hR : rm.frames + 1 ≤ R.frames ∧ 8 + (4 + 11) + rm.locals ≤ R.locals) : CallW R s args "ScaleShop$Law" RX7 106 yX7_isOnSet cX7_isOnSet 4 (some .boolean) (.code yX7_isOnSet cX7_isOnSet 4 (some .boolean) :: ws0) rm mc ms 2 := cwV 2 hts (zz_gV mw_618 mw_619 mw_620 mw_102 mc_yX7_isOnSet) rfl hrc hrs (by decide +kernel) hR
theorem csV_65 {R : Room} {s : State} {args : Array Value} {rm : Room} {mc ms : Nat} (hts : ∀ w ∈ ws0, w.before args s = true) (hrc : rm.cells = mc) (hrs : rm.slots = ms) (hR : rm.frames + 1 ≤ R.frames ∧ 8 + (2 + 11) + rm.locals ≤ R.locals) : CallW R s args "ScaleShop$Law" RX7 110 yX7_arePlaces cX7_arePlaces 2 (some .boolean) (.code yX7_arePlaces cX7_arePlaces 2 (some .boolean) :: ws0) rm mc ms 0 := cwV 0 hts (zz_gV mw_634 mw_635 mw_636 mw_102 mc_yX7_arePlaces) rfl hrc hrs (by decide +kernel) hR
theorem csV_66 {R : Room} {s : State} {args : Array Value} {rm : Room} {mc ms : Nat} (hts : ∀ w ∈ ws0, w.before args s = true) (hrc : rm.cells = mc) (hrs : rm.slots = ms) (hR : rm.frames + 1 ≤ R.frames ∧ 8 + (5 + 11) + rm.locals ≤ R.locals) : CallW R s args "ScaleShop$Law" RX7 120 yX7_isEdgeFree cX7_isEdgeFree 5 (some .boolean) (.code yX7_isEdgeFree cX7_isEdgeFree 5 (some .boolean) :: ws0) rm mc ms 2 := cwV 2 hts (zz_gV mw_640 mw_533 mw_534 mw_102 mc_yX7_isEdgeFree) rfl hrc hrs (by decide +kernel) hR
theorem csV_67 {R : Room} {s : State} {args : Array Value} {rm : Room} {mc ms : Nat} (hts : ∀ w ∈ ws0, w.before args s = true) (hrc : rm.cells = mc) (hrs : rm.slots = ms) (hR : rm.frames + 1 ≤ R.frames ∧ 8 + (3 + 11) + rm.locals ≤ R.locals) : CallW R s args "ScaleShop$Law" RX4 126 yX4_measureReach cX4_measureReach 3 none (.code yX4_measureReach cX4_measureReach 3 none :: ws0) rm mc ms 2 := cwV 2 hts (zz_gV mw_642 mw_644 mw_10 mw_101 mc_yX4_measureReach) rfl hrc hrs (by decide +kernel) hR
theorem csV_68 {R : Room} {s : State} {args : Array Value} {rm : Room} {mc ms : Nat} (hts : ∀ w ∈ ws0, w.before args s = true) (hrc : rm.cells = mc) (hrs : rm.slots = ms) (hR : rm.frames + 1 ≤ R.frames ∧ 8 + (2 + 11) + rm.locals ≤ R.locals) : CallW R s args "ScaleShop$Law" RX0 133 yX0_isApart cX0_isApart 2 (some .boolean) (.code yX0_isApart cX0_isApart 2 (some .boolean) :: ws0) rm mc ms 1 := cwV 1 hts (zz_gV mw_666 mw_667 mw_668 mw_104 mc_yX0_isApart) rfl hrc hrs (by decide +kernel) hR
theorem csV_69 {R : Room} {s : State} {args : Array Value} {rm : Room} {mc ms : Nat} (hts : ∀ w ∈ ws0, w.before args s = true) (hrc : rm.cells = mc) (hrs : rm.slots = ms) (hR : rm.frames + 1 ≤ R.frames ∧ 8 + (4 + 11) + rm.locals ≤ R.locals) : CallW R s args "ScaleShop$Law" RX4 137 yX4_isAsBefore cX4_isAsBefore 4 (some .boolean) (.code yX4_isAsBefore cX4_isAsBefore 4 (some .boolean) :: ws0) rm mc ms 3 := cwV 3 hts (zz_gV mw_675 mw_677 mw_11 mw_101 mc_yX4_isAsBefore) rfl hrc hrs (by decide +kernel) hR
theorem csV_70 {R : Room} {s : State} {args : Array Value} {rm : Room} {mc ms : Nat} (hts : ∀ w ∈ ws0, w.before args s = true) (hrc : rm.cells = mc) (hrs : rm.slots = ms) (hR : rm.frames + 1 ≤ R.frames ∧ 8 + (3 + 11) + rm.locals ≤ R.locals) : CallW R s args "ScaleShop$Law" RX7 123 yX7_isSound cX7_isSound 3 (some .boolean) (.code yX7_isSound cX7_isSound 3 (some .boolean) :: ws0) rm mc ms 1 := cwV 1 hts (zz_gV mw_641 mw_525 mw_526 mw_102 mc_yX7_isSound) rfl hrc hrs (by decide +kernel) hR
theorem csV_71 {R : Room} {s : State} {args : Array Value} {rm : Room} {mc ms : Nat} (hts : ∀ w ∈ ws0, w.before args s = true) (hrc : rm.cells = mc) (hrs : rm.slots = ms) (hR : rm.frames + 1 ≤ R.frames ∧ 8 + (5 + 11) + rm.locals ≤ R.locals) : CallW R s args "ScaleShop$Law" RX4 67 yX4_leastArea cX4_leastArea 5 (some .int) (.code yX4_leastArea cX4_leastArea 5 (some .int) :: ws0) rm mc ms 2 := cwV 2 hts (zz_gV mw_591 mw_593 mw_8 mw_101 mc_yX4_leastArea) rfl hrc hrs (by decide +kernel) hR
theorem csV_72 {R : Room} {s : State} {args : Array Value} {rm : Room} {mc ms : Nat} (hts : ∀ w ∈ ws0, w.before args s = true) (hrc : rm.cells = mc) (hrs : rm.slots = ms) (hR : rm.frames + 1 ≤ R.frames ∧ 8 + (3 + 11) + rm.locals ≤ R.locals) : CallW R s args "ScaleShop$Law" RX7 71 yX7_copyFrom cX7_copyFrom 3 none (.code yX7_copyFrom cX7_copyFrom 3 none :: ws0) rm mc ms 1 := cwV 1 hts (zz_gV mw_595 mw_596 mw_597 mw_102 mc_yX7_copyFrom) rfl hrc hrs (by decide +kernel) hR
theorem csV_73 {R : Room} {s : State} {args : Array Value} {rm : Room} {mc ms : Nat} (hts : ∀ w ∈ ws0, w.before args s = true) (hrc : rm.cells = mc) (hrs : rm.slots = ms) (hR : rm.frames + 1 ≤ R.frames ∧ 8 + (3 + 11) + rm.locals ≤ R.locals) : CallW R s args "ScaleShop$Law" RX7 75 yX7_cut cX7_cut 3 none (.code yX7_cut cX7_cut 3 none :: ws0) rm mc ms 1 := cwV 1 hts (zz_gV mw_604 mw_605 mw_606 mw_102 mc_yX7_cut) rfl hrc hrs (by decide +kernel) hR
theorem csV_74 {R : Room} {s : State} {args : Array Value} {rm : Room} {mc ms : Nat} (hts : ∀ w ∈ ws0, w.before args s = true) (hrc : rm.cells = mc) (hrs : rm.slots = ms) (hR : rm.frames + 1 ≤ R.frames ∧ 8 + (7 + 11) + rm.locals ≤ R.locals) : CallW R s args "ScaleShop$Law" RX4 85 yX4_isBare cX4_isBare 7 (some .boolean) (.code yX4_isBare cX4_isBare 7 (some .boolean) :: ws0) rm mc ms 4 := cwV 4 hts (zz_gV mw_608 mw_610 mw_9 mw_101 mc_yX4_isBare) rfl hrc hrs (by decide +kernel) hR
theorem csV_75 {R : Room} {s : State} {args : Array Value} {rm : Room} {mc ms : Nat} (hts : ∀ w ∈ ws0, w.before args s = true) (hrc : rm.cells = mc) (hrs : rm.slots = ms) (hR : rm.frames + 1 ≤ R.frames ∧ 8 + (9 + 11) + rm.locals ≤ R.locals) : CallW R s args "ScaleShop$Law" RX4 89 yX4_allows cX4_allows 9 (some .boolean) (.code yX4_allows cX4_allows 9 (some .boolean) :: ws0) rm mc ms 3 := cwV 3 hts (zz_gV mw_630 mw_631 mw_632 mw_101 mc_yX4_allows) rfl hrc hrs (by decide +kernel) hR
theorem csV_76 {R : Room} {s : State} {args : Array Value} {rm : Room} {mc ms : Nat} (hts : ∀ w ∈ ws0, w.before args s = true) (hrc : rm.cells = mc) (hrs : rm.slots = ms) (hR : rm.frames + 1 ≤ R.frames ∧ 8 + (2 + 11) + rm.locals ≤ R.locals) : CallW R s args "ScaleShop$Law" RX7 59 yX7_isEnd cX7_isEnd 2 (some .boolean) (.code yX7_isEnd cX7_isEnd 2 (some .boolean) :: ws0) rm mc ms 1 := cwV 1 hts (zz_gV mw_576 mw_577 mw_578 mw_102 mc_yX7_isEnd) rfl hrc hrs (by decide +kernel) hR
theorem csV_77 {R : Room} {s : State} {args : Array Value} {rm : Room} {mc ms : Nat} (hts : ∀ w ∈ ws0, w.before args s = true) (hrc : rm.cells = mc) (hrs : rm.slots = ms) (hR : rm.frames + 1 ≤ R.frames ∧ 8 + (3 + 11) + rm.locals ≤ R.locals) : CallW R s args "ScaleShop$Law" RX7 63 yX7_doubleTriangle cX7_doubleTriangle 3 (some .int) (.code yX7_doubleTriangle cX7_doubleTriangle 3 (some .int) :: ws0) rm mc ms 1 := cwV 1 hts (zz_gV mw_580 mw_581 mw_582 mw_102 mc_yX7_doubleTriangle) rfl hrc hrs (by decide +kernel) hR
theorem csV_78 {R : Room} {s : State} {args : Array Value} {rm : Room} {mc ms : Nat} (hts : ∀ w ∈ ws0, w.before args s = true) (hrc : rm.cells = mc) (hrs : rm.slots = ms) (hR : rm.frames + 1 ≤ R.frames ∧ 8 + (7 + 11) + rm.locals ≤ R.locals) : CallW R s args "ScaleShop" RX4 399 yX4_cornerThatGoes cX4_cornerThatGoes 7 (some .int) (.code yX4_cornerThatGoes cX4_cornerThatGoes 7 (some .int) :: ws0) rm mc ms 3 := cwV 3 hts (zz_gV mw_572 mw_573 mw_574 mw_101 mc_yX4_cornerThatGoes) rfl hrc hrs (by decide +kernel) hR
theorem csV_79 {R : Room} {s : State} {args : Array Value} {rm : Room} {mc ms : Nat} (hts : ∀ w ∈ ws0, w.before args s = true) (hrc : rm.cells = mc) (hrs : rm.slots = ms) (hR : rm.frames + 1 ≤ R.frames ∧ 8 + (2 + 11) + rm.locals ≤ R.locals) : CallW R s args "ScaleShop" RX2 403 yX2_lose cX2_lose 2 none (.code yX2_lose cX2_lose 2 none :: ws0) rm mc ms 1 := cwV 1 hts (zz_gV mw_726 mw_727 mw_728 mw_111 mc_yX2_lose) rfl hrc hrs (by decide +kernel) hR
theorem csV_80 {R : Room} {s : State} {args : Array Value} {rm : Room} {mc ms : Nat} (hts : ∀ w ∈ ws0, w.before args s = true) (hrc : rm.cells = mc) (hrs : rm.slots = ms) (hR : rm.frames + 1 ≤ R.frames ∧ 8 + (2 + 11) + rm.locals ≤ R.locals) : CallW R s args "java/util/ArrayList" RJx4a65c 123 yJx4a65c_elementData_915e3 cJx4a65c_elementData_915e3 2 (some (.object "java/lang/Object")) (.code yJx4a65c_elementData_915e3 cJx4a65c_elementData_915e3 2 (some (.object "java/lang/Object")) :: ws0) rm mc ms 1 := cwV 1 hts (zz_gV mw_1036 mw_1037 mw_1038 mw_109 mc_yJx4a65c_elementData_915e3) rfl hrc hrs (by decide +kernel) hR
theorem csV_81 {R : Room} {s : State} {args : Array Value} {rm : Room} {mc ms : Nat} (hts : ∀ w ∈ ws0, w.before args s = true) (hrc : rm.cells = mc) (hrs : rm.slots = ms) (hR : rm.frames + 1 ≤ R.frames ∧ 8 + (4 + 11) + rm.locals ≤ R.locals) : CallW R s args "java/util/ArrayList" RJx4a65c 144 yJx4a65c_fastRemove_b59b0 cJx4a65c_fastRemove_b59b0 4 none (.code yJx4a65c_fastRemove_b59b0 cJx4a65c_fastRemove_b59b0 4 none :: ws0) rm mc ms 2 := cwV 2 hts (zz_gV mw_482 mw_484 mw_3 mw_109 mc_yJx4a65c_fastRemove_b59b0) rfl hrc hrs (by decide +kernel) hR
theorem csV_82 {R : Room} {s : State} {args : Array Value} {rm : Room} {mc ms : Nat} (hts : ∀ w ∈ ws0, w.before args s = true) (hrc : rm.cells = mc) (hrs : rm.slots = ms) (hR : rm.frames + 1 ≤ R.frames ∧ 8 + (4 + 11) + rm.locals ≤ R.locals) : CallW R s args "java/util/ArrayList" RJx4a65c 69 yJx4a65c_grow_92f84 cJx4a65c_grow_92f84 4 (some (.array (.object "java/lang/Object"))) (.code yJx4a65c_grow_92f84 cJx4a65c_grow_92f84 4 (some (.array (.object "java/lang/Object"))) :: ws0) rm mc ms 1 := cwV 1 hts (zz_gV mw_819 mw_821 mw_23 mw_109 mc_yJx4a65c_grow_92f84) rfl hrc hrs (by decide +kernel) hR
theorem csV_83 {R : Room} {s : State} {args : Array Value} {rm : Room} {mc ms : Nat} (hts : ∀ w ∈ ws0, w.before args s = true) (hrc : rm.cells = mc) (hrs : rm.slots = ms) (hR : rm.frames + 1 ≤ R.frames ∧ 8 + (1 + 11) + rm.locals ≤ R.locals) : CallW R s args "java/util/ArrayList" RJx4a65c 129 yJx4a65c_grow_d5877 cJx4a65c_grow_d5877 1 (some (.array (.object "java/lang/Object"))) (.code yJx4a65c_grow_d5877 cJx4a65c_grow_d5877 1 (some (.array (.object "java/lang/Object"))) :: ws0) rm mc ms 0 := cwV 0 hts (zz_gV mw_815 mw_817 mw_22 mw_109 mc_yJx4a65c_grow_d5877) rfl hrc hrs (by decide +kernel) hR
theorem csV_84 {R : Room} {s : State} {args : Array Value} {rm : Room} {mc ms : Nat} (hts : ∀ w ∈ ws0, w.before args s = true) (hrc : rm.cells = mc) (hrs : rm.slots = ms) (hR : rm.frames + 1 ≤ R.frames ∧ 8 + (4 + 11) + rm.locals ≤ R.locals) : CallW R s args "java/util/ArrayList" RJx4a65c 131 yJx4a65c_add_72be8 cJx4a65c_add_72be8 4 none (.code yJx4a65c_add_72be8 cJx4a65c_add_72be8 4 none :: ws0) rm mc ms 3 := cwV 3 hts (zz_gV mw_811 mw_813 mw_21 mw_109 mc_yJx4a65c_add_72be8) rfl hrc hrs (by decide +kernel) hR
theorem csS_85 {R : Room} {s : State} {args : Array Value} {rm : Room} {mc ms : Nat} (hts : ∀ w ∈ ws0, w.before args s = true) (hrc : rm.cells = mc) (hrs : rm.slots = ms) (hR : rm.frames + 1 ≤ R.frames ∧ 8 + (3 + 11) + rm.locals ≤ R.locals) : CallB R s args "java/util/Objects" 105 yJ3_checkIndex_8e157 cJ3_checkIndex_8e157 3 (some .int) (.code yJ3_checkIndex_8e157 cJ3_checkIndex_8e157 3 (some .int) :: ws0) rm mc ms 3 ∧ (Cond.static yJ3_checkIndex_8e157).before args s = true := va_cwS 3 hts (zz_gS mw_479 mw_480 mw_114 mc_yJ3_checkIndex_8e157) rfl hrc hrs (by decide +kernel) hR
theorem csS_86 {R : Room} {s : State} {args : Array Value} {rm : Room} {mc ms : Nat} (hts : ∀ w ∈ ws0, w.before args s = true) (hrc : rm.cells = mc) (hrs : rm.slots = ms) (hR : rm.frames + 1 ≤ R.frames ∧ 8 + (2 + 11) + rm.locals ≤ R.locals) : CallB R s args "java/util/ArrayList" 118 yJ15_checkIndex_7cf53 cJ15_checkIndex_7cf53 2 (some .int) (.code yJ15_checkIndex_7cf53 cJ15_checkIndex_7cf53 2 (some .int) :: ws0) rm mc ms 2 ∧ (Cond.static yJ15_checkIndex_7cf53).before args s = true := va_cwS 2 hts (zz_gS mw_476 mw_477 mw_113 mc_yJ15_checkIndex_7cf53) rfl hrc hrs (by decide +kernel) hR
theorem csS_87 {R : Room} {s : State} {args : Array Value} {rm : Room} {mc ms : Nat} (hts : ∀ w ∈ ws0, w.before args s = true) (hrc : rm.cells = mc) (hrs : rm.slots = ms) (hR : rm.frames + 1 ≤ R.frames ∧ 8 + (4 + 11) + rm.locals ≤ R.locals) : CallB R s args "java/util/Arrays" 300 yJ7_copyOf_6403c cJ7_copyOf_6403c 4 (some (.array (.object "java/lang/Object"))) (.code yJ7_copyOf_6403c cJ7_copyOf_6403c 4 (some (.array (.object "java/lang/Object"))) :: ws0) rm mc ms 3 ∧ (Cond.static yJ7_copyOf_6403c).before args s = true := va_cwS 3 hts (zz_gS mw_851 mw_852 mw_119 mc_yJ7_copyOf_6403c) rfl hrc hrs (by decide +kernel) hR
theorem csS_88 {R : Room} {s : State} {args : Array Value} {rm : Room} {mc ms : Nat} (hts : ∀ w ∈ ws0, w.before args s = true) (hrc : rm.cells = mc) (hrs : rm.slots = ms) (hR : rm.frames + 1 ≤ R.frames ∧ 8 + (4 + 11) + rm.locals ≤ R.locals) : CallB R s args "java/util/ArrayList" 73 yJ8_newLength_cabcc cJ8_newLength_cabcc 4 (some .int) (.code yJ8_newLength_cabcc cJ8_newLength_cabcc 4 (some .int) :: ws0) rm mc ms 3 ∧ (Cond.static yJ8_newLength_cabcc).before args s = true := va_cwS 3 hts (zz_gS mw_823 mw_824 mw_118 mc_yJ8_newLength_cabcc) rfl hrc hrs (by decide +kernel) hR
theorem csS_89 {R : Room} {s : State} {args : Array Value} {rm : Room} {mc ms : Nat} (hts : ∀ w ∈ ws0, w.before args s = true) (hrc : rm.cells = mc) (hrs : rm.slots = ms) (hR : rm.frames + 1 ≤ R.frames ∧ 8 + (2 + 11) + rm.locals ≤ R.locals) : CallB R s args "java/util/ArrayList" 66 yJ7_copyOf_1904c cJ7_copyOf_1904c 2 (some (.array (.object "java/lang/Object"))) (.code yJ7_copyOf_1904c cJ7_copyOf_1904c 2 (some (.array (.object "java/lang/Object"))) :: ws0) rm mc ms 2 ∧ (Cond.static yJ7_copyOf_1904c).before args s = true := va_cwS 2 hts (zz_gS mw_831 mw_832 mw_119 mc_yJ7_copyOf_1904c) rfl hrc hrs (by decide +kernel) hR
theorem csV_90 {R : Room} {s : State} {args : Array Value} {rm : Room} {mc ms : Nat} (hts : ∀ w ∈ ws0, w.before args s = true) (hrc : rm.cells = mc) (hrs : rm.slots = ms) (hR : rm.frames + 1 ≤ R.frames ∧ 8 + (1 + 11) + rm.locals ≤ R.locals) : CallW R s args "ScaleShop" RJx4a65c 244 yJx4a65c_size_8abf5 cJx4a65c_size_8abf5 1 (some .int) (.code yJx4a65c_size_8abf5 cJx4a65c_size_8abf5 1 (some .int) :: ws0) rm mc ms 0 := cwV 0 hts (zz_gV mw_468 mw_469 mw_470 mw_109 mc_yJx4a65c_size_8abf5) rfl hrc hrs (by decide +kernel) hR
theorem csV_91 {R : Room} {s : State} {args : Array Value} {rm : Room} {mc ms : Nat} (hts : ∀ w ∈ ws0, w.before args s = true) (hrc : rm.cells = mc) (hrs : rm.slots = ms) (hR : rm.frames + 1 ≤ R.frames ∧ 8 + (4 + 11) + rm.locals ≤ R.locals) : CallW R s args "ScaleShop" RJx4a65c 375 yJx4a65c_remove_915e3 cJx4a65c_remove_915e3 4 (some (.object "java/lang/Object")) (.code yJx4a65c_remove_915e3 cJx4a65c_remove_915e3 4 (some (.object "java/lang/Object")) :: ws0) rm mc ms 1 := cwV 1 hts (zz_gV mw_472 mw_473 mw_474 mw_109 mc_yJx4a65c_remove_915e3) rfl hrc hrs (by decide +kernel) hR
theorem csV_92 {R : Room} {s : State} {args : Array Value} {rm : Room} {mc ms : Nat} (hts : ∀ w ∈ ws0, w.before args s = true) (hrc : rm.cells = mc) (hrs : rm.slots = ms) (hR : rm.frames + 1 ≤ R.frames ∧ 8 + (2 + 11) + rm.locals ≤ R.locals) : CallW R s args "ScaleShop" RX10 372 yX10_forgetUndone cX10_forgetUndone 2 none (.code yX10_forgetUndone cX10_forgetUndone 2 none :: ws0) rm mc ms 0 := cwV 0 hts (zz_gV mw_464 mw_466 mw_2 mw_99 mc_yX10_forgetUndone) rfl hrc hrs (by decide +kernel) hR
theorem csV_93 {R : Room} {s : State} {args : Array Value} {rm : Room} {mc ms : Nat} (hts : ∀ w ∈ ws0, w.before args s = true) (hrc : rm.cells = mc) (hrs : rm.slots = ms) (hR : rm.frames + 1 ≤ R.frames ∧ 8 + (2 + 11) + rm.locals ≤ R.locals) : CallW R s args "ScaleShop" RJx4a65c 393 yJx4a65c_add_9ea2d cJx4a65c_add_9ea2d 2 (some .boolean) (.code yJx4a65c_add_9ea2d cJx4a65c_add_9ea2d 2 (some .boolean) :: ws0) rm mc ms 1 := cwV 1 hts (zz_gV mw_807 mw_808 mw_809 mw_109 mc_yJx4a65c_add_9ea2d) rfl hrc hrs (by decide +kernel) hR
theorem csV_94 {R : Room} {s : State} {args : Array Value} {rm : Room} {mc ms : Nat} (hts : ∀ w ∈ ws0, w.before args s = true) (hrc : rm.cells = mc) (hrs : rm.slots = ms) (hR : rm.frames + 1 ≤ R.frames ∧ 8 + (2 + 11) + rm.locals ≤ R.locals) : CallW R s args "ScaleShop" RX8 116 yX8_find cX8_find 2 (some (.object "ScaleShop$Feature")) (.code yX8_find cX8_find 2 (some (.object "ScaleShop$Feature")) :: ws0) rm mc ms 1 := cwV 1 hts (zz_gV mw_498 mw_499 mw_500 mw_100 mc_yX8_find) rfl hrc hrs (by decide +kernel) hR
theorem csV_95 {R : Room} {s : State} {args : Array Value} {rm : Room} {mc ms : Nat} (hts : ∀ w ∈ ws0, w.before args s = true) (hrc : rm.cells = mc) (hrs : rm.slots = ms) (hR : rm.frames + 1 ≤ R.frames ∧ 8 + (2 + 11) + rm.locals ≤ R.locals) : CallW R s args "ScaleShop" RX10 78 yX10_refuse cX10_refuse 2 (some .int) (.code yX10_refuse cX10_refuse 2 (some .int) :: ws0) rm mc ms 1 := cwV 1 hts (zz_gV mw_356 mw_358 mw_0 mw_99 mc_yX10_refuse) rfl hrc hrs (by decide +kernel) hR
theorem csV_96 {R : Room} {s : State} {args : Array Value} {rm : Room} {mc ms : Nat} (hts : ∀ w ∈ ws0, w.before args s = true) (hrc : rm.cells = mc) (hrs : rm.slots = ms) (hR : rm.frames + 1 ≤ R.frames ∧ 8 + (2 + 11) + rm.locals ≤ R.locals) : CallW R s args "ScaleShop" RX10 137 yX10_deny cX10_deny 2 (some .boolean) (.code yX10_deny cX10_deny 2 (some .boolean) :: ws0) rm mc ms 1 := cwV 1 hts (zz_gV mw_513 mw_515 mw_4 mw_99 mc_yX10_deny) rfl hrc hrs (by decide +kernel) hR
theorem csV_97 {R : Room} {s : State} {args : Array Value} {rm : Room} {mc ms : Nat} (hts : ∀ w ∈ ws0, w.before args s = true) (hrc : rm.cells = mc) (hrs : rm.slots = ms) (hR : rm.frames + 1 ≤ R.frames ∧ 8 + (1 + 11) + rm.locals ≤ R.locals) : CallW R s args "ScaleShop" RX2 147 yX2_bends cX2_bends 1 (some .boolean) (.code yX2_bends cX2_bends 1 (some .boolean) :: ws0) rm mc ms 0 := cwV 0 hts (zz_gV mw_564 mw_565 mw_566 mw_111 mc_yX2_bends) rfl hrc hrs (by decide +kernel) hR
theorem csS_98 {R : Room} {s : State} {args : Array Value} {rm : Room} {mc ms : Nat} (hts : ∀ w ∈ ws0, w.before args s = true) (hrc : rm.cells = mc) (hrs : rm.slots = ms) (hR : rm.frames + 1 ≤ R.frames ∧ 8 + (2 + 11) + rm.locals ≤ R.locals) : CallB R s args "ScaleShop" 123 yX10_isPlace cX10_isPlace 2 (some .boolean) (.code yX10_isPlace cX10_isPlace 2 (some .boolean) :: ws0) rm mc ms 2 ∧ (Cond.static yX10_isPlace).before args s = true := va_cwS 2 hts (zz_gS mw_502 mw_503 mw_99 mc_yX10_isPlace) rfl hrc hrs (by decide +kernel) hR
theorem csS_99 {R : Room} {s : State} {args : Array Value} {rm : Room} {mc ms : Nat} (hts : ∀ w ∈ ws0, w.before args s = true) (hrc : rm.cells = mc) (hrs : rm.slots = ms) (hR : rm.frames + 1 ≤ R.frames ∧ 8 + (1 + 11) + rm.locals ≤ R.locals) : CallB R s args "ScaleShop" 97 yX10_mostCorners cX10_mostCorners 1 (some .int) (.code yX10_mostCorners cX10_mostCorners 1 (some .int) :: ws0) rm mc ms 1 ∧ (Cond.static yX10_mostCorners).before args s = true := va_cwS 1 hts (zz_gS mw_456 mw_457 mw_99 mc_yX10_mostCorners) rfl hrc hrs (by decide +kernel) hR
theorem csV_100 {R : Room} {s : State} {args : Array Value} {rm : Room} {mc ms : Nat} (hts : ∀ w ∈ ws0, w.before args s = true) (hrc : rm.cells = mc) (hrs : rm.slots = ms) (hR : rm.frames + 1 ≤ R.frames ∧ 8 + (2 + 11) + rm.locals ≤ R.locals) : CallW R s args "ScaleShop" RX2 220 yX2_leave cX2_leave 2 none (.code yX2_leave cX2_leave 2 none :: ws0) rm mc ms 1 := cwV 1 hts (zz_gV mw_967 mw_968 mw_969 mw_111 mc_yX2_leave) rfl hrc hrs (by decide +kernel) hR
theorem csV_101 {R : Room} {s : State} {args : Array Value} {rm : Room} {mc ms : Nat} (hts : ∀ w ∈ ws0, w.before args s = true) (hrc : rm.cells = mc) (hrs : rm.slots = ms) (hR : rm.frames + 1 ≤ R.frames ∧ 8 + (8 + 11) + rm.locals ≤ R.locals) : CallW R s args "ScaleShop" RX10 154 yX10_book cX10_book 8 (some .boolean) (.code yX10_book cX10_book 8 (some .boolean) :: ws0) rm mc ms 4 := cwV 4 hts (zz_gV mw_753 mw_755 mw_20 mw_99 mc_yX10_book) rfl hrc hrs (by decide +kernel) hR
theorem csV_102 {R : Room} {s : State} {args : Array Value} {rm : Room} {mc ms : Nat} (hts : ∀ w ∈ ws0, w.before args s = true) (hrc : rm.cells = mc) (hrs : rm.slots = ms) (hR : rm.frames + 1 ≤ R.frames ∧ 8 + (1 + 11) + rm.locals ≤ R.locals) : CallW R s args "ScaleShop" RX10 109 yX10_seal cX10_seal 1 (some .boolean) (.code yX10_seal cX10_seal 1 (some .boolean) :: ws0) rm mc ms 0 := cwV 0 hts (zz_gV mw_460 mw_462 mw_1 mw_99 mc_yX10_seal) rfl hrc hrs (by decide +kernel) hR
theorem csV_103 {R : Room} {s : State} {args : Array Value} {rm : Room} {mc ms : Nat} (hts : ∀ w ∈ ws0, w.before args s = true) (hrc : rm.cells = mc) (hrs : rm.slots = ms) (hR : rm.frames + 1 ≤ R.frames ∧ 8 + (3 + 11) + rm.locals ≤ R.locals) : CallW R s args "ScaleShop" RX7 144 yX7_isSound cX7_isSound 3 (some .boolean) (.code yX7_isSound cX7_isSound 3 (some .boolean) :: ws0) rm mc ms 1 := cwV 1 hts (zz_gV mw_524 mw_525 mw_526 mw_102 mc_yX7_isSound) rfl hrc hrs (by decide +kernel) hR
theorem csV_104 {R : Room} {s : State} {args : Array Value} {rm : Room} {mc ms : Nat} (hts : ∀ w ∈ ws0, w.before args s = true) (hrc : rm.cells = mc) (hrs : rm.slots = ms) (hR : rm.frames + 1 ≤ R.frames ∧ 8 + (3 + 11) + rm.locals ≤ R.locals) : CallW R s args "ScaleShop" RX7 133 yX7_put cX7_put 3 none (.code yX7_put cX7_put 3 none :: ws0) rm mc ms 2 := cwV 2 hts (zz_gV mw_505 mw_506 mw_507 mw_102 mc_yX7_put) rfl hrc hrs (by decide +kernel) hR
theorem csV_105 {R : Room} {s : State} {args : Array Value} {rm : Room} {mc ms : Nat} (hts : ∀ w ∈ ws0, w.before args s = true) (hrc : rm.cells = mc) (hrs : rm.slots = ms) (hR : rm.frames + 1 ≤ R.frames ∧ 8 + (1 + 11) + rm.locals ≤ R.locals) : CallW R s args "ScaleShop" RX8 82 yX8_isFull cX8_isFull 1 (some .boolean) (.code yX8_isFull cX8_isFull 1 (some .boolean) :: ws0) rm mc ms 0 := cwV 0 hts (zz_gV mw_360 mw_361 mw_362 mw_100 mc_yX8_isFull) rfl hrc hrs (by decide +kernel) hR
theorem csV_106 {R : Room} {s : State} {args : Array Value} {rm : Room} {mc ms : Nat} (hts : ∀ w ∈ ws0, w.before args s = true) (hrc : rm.cells = mc) (hrs : rm.slots = ms) (hR : rm.frames + 1 ≤ R.frames ∧ 8 + (2 + 11) + rm.locals ≤ R.locals) : CallW R s args "ScaleShop" RX8 112 yX8_add cX8_add 2 (some .int) (.code yX8_add cX8_add 2 (some .int) :: ws0) rm mc ms 1 := cwV 1 hts (zz_gV mw_489 mw_490 mw_491 mw_100 mc_yX8_add) rfl hrc hrs (by decide +kernel) hR
theorem csS_107 {R : Room} {s : State} {args : Array Value} {rm : Room} {mc ms : Nat} (hts : ∀ w ∈ ws0, w.before args s = true) (hrc : rm.cells = mc) (hrs : rm.slots = ms) (hR : rm.frames + 1 ≤ R.frames ∧ 8 + (1 + 11) + rm.locals ≤ R.locals) : CallB R s args "ScaleShop" 141 yX10_fewestCorners cX10_fewestCorners 1 (some .int) (.code yX10_fewestCorners cX10_fewestCorners 1 (some .int) :: ws0) rm mc ms 1 ∧ (Cond.static yX10_fewestCorners).before args s = true := va_cwS 1 hts (zz_gS mw_521 mw_522 mw_99 mc_yX10_fewestCorners) rfl hrc hrs (by decide +kernel) hR
theorem csV_108 {R : Room} {s : State} {args : Array Value} {rm : Room} {mc ms : Nat} (hts : ∀ w ∈ ws0, w.before args s = true) (hrc : rm.cells = mc) (hrs : rm.slots = ms) (hR : rm.frames + 1 ≤ R.frames ∧ 8 + (6 + 11) + rm.locals ≤ R.locals) : CallW R s args "ScaleShop" RX10 150 yX10_thin cX10_thin 6 (some .int) (.code yX10_thin cX10_thin 6 (some .int) :: ws0) rm mc ms 2 := cwV 2 hts (zz_gV mw_568 mw_570 mw_7 mw_99 mc_yX10_thin) rfl hrc hrs (by decide +kernel) hR
theorem csV_109 {R : Room} {s : State} {args : Array Value} {rm : Room} {mc ms : Nat} (hts : ∀ w ∈ ws0, w.before args s = true) (hrc : rm.cells = mc) (hrs : rm.slots = ms) (hR : rm.frames + 1 ≤ R.frames ∧ 8 + (9 + 11) + rm.locals ≤ R.locals) : CallW R s args "ScaleShop" RX4 195 yX4_allows cX4_allows 9 (some .boolean) (.code yX4_allows cX4_allows 9 (some .boolean) :: ws0) rm mc ms 3 := cwV 3 hts (zz_gV mw_876 mw_631 mw_632 mw_101 mc_yX4_allows) rfl hrc hrs (by decide +kernel) hR
theorem csV_110 {R : Room} {s : State} {args : Array Value} {rm : Room} {mc ms : Nat} (hts : ∀ w ∈ ws0, w.before args s = true) (hrc : rm.cells = mc) (hrs : rm.slots = ms) (hR : rm.frames + 1 ≤ R.frames ∧ 8 + (3 + 11) + rm.locals ≤ R.locals) : CallW R s args "ScaleShop" RX7 396 yX7_isAlike cX7_isAlike 3 (some .boolean) (.code yX7_isAlike cX7_isAlike 3 (some .boolean) :: ws0) rm mc ms 1 := cwV 1 hts (zz_gV mw_877 mw_878 mw_879 mw_102 mc_yX7_isAlike) rfl hrc hrs (by decide +kernel) hR
theorem csV_111 {R : Room} {s : State} {args : Array Value} {rm : Room} {mc ms : Nat} (hts : ∀ w ∈ ws0, w.before args s = true) (hrc : rm.cells = mc) (hrs : rm.slots = ms) (hR : rm.frames + 1 ≤ R.frames ∧ 8 + (2 + 11) + rm.locals ≤ R.locals) : CallW R s args "ScaleShop" RX2 199 yX2_reshape cX2_reshape 2 none (.code yX2_reshape cX2_reshape 2 none :: ws0) rm mc ms 1 := cwV 1 hts (zz_gV mw_881 mw_731 mw_732 mw_111 mc_yX2_reshape) rfl hrc hrs (by decide +kernel) hR
theorem csV_112 {R : Room} {s : State} {args : Array Value} {rm : Room} {mc ms : Nat} (hts : ∀ w ∈ ws0, w.before args s = true) (hrc : rm.cells = mc) (hrs : rm.slots = ms) (hR : rm.frames + 1 ≤ R.frames ∧ 8 + (2 + 11) + rm.locals ≤ R.locals) : CallW R s args "ScaleShop" RJx4a65c 247 yJx4a65c_get_915e3 cJx4a65c_get_915e3 2 (some (.object "java/lang/Object")) (.code yJx4a65c_get_915e3 cJx4a65c_get_915e3 2 (some (.object "java/lang/Object")) :: ws0) rm mc ms 1 := cwV 1 hts (zz_gV mw_1032 mw_1033 mw_1034 mw_109 mc_yJx4a65c_get_915e3) rfl hrc hrs (by decide +kernel) hR
theorem csV_113 {R : Room} {s : State} {args : Array Value} {rm : Room} {mc ms : Nat} (hts : ∀ w ∈ ws0, w.before args s = true) (hrc : rm.cells = mc) (hrs : rm.slots = ms) (hR : rm.frames + 1 ≤ R.frames ∧ 8 + (2 + 11) + rm.locals ≤ R.locals) : CallW R s args "ScaleShop" RX9 253 yX9_takeBack cX9_takeBack 2 none (.code yX9_takeBack cX9_takeBack 2 none :: ws0) rm mc ms 0 := cwV 0 hts (zz_gV mw_1040 mw_1041 mw_1042 mw_116 mc_yX9_takeBack) rfl hrc hrs (by decide +kernel) hR
theorem csV_114 {R : Room} {s : State} {args : Array Value} {rm : Room} {mc ms : Nat} (hts : ∀ w ∈ ws0, w.before args s = true) (hrc : rm.cells = mc) (hrs : rm.slots = ms) (hR : rm.frames + 1 ≤ R.frames ∧ 8 + (1 + 11) + rm.locals ≤ R.locals) : CallW R s args "ScaleShop" RX8 260 yX8_removeLast cX8_removeLast 1 none (.code yX8_removeLast cX8_removeLast 1 none :: ws0) rm mc ms 0 := cwV 0 hts (zz_gV mw_1044 mw_1045 mw_1046 mw_100 mc_yX8_removeLast) rfl hrc hrs (by decide +kernel) hR
theorem csV_115 {R : Room} {s : State} {args : Array Value} {rm : Room} {mc ms : Nat} (hts : ∀ w ∈ ws0, w.before args s = true) (hrc : rm.cells = mc) (hrs : rm.slots = ms) (hR : rm.frames + 1 ≤ R.frames ∧ 8 + (2 + 11) + rm.locals ≤ R.locals) : CallW R s args "ScaleShop" RX9 263 yX9_repeat cX9_repeat 2 none (.code yX9_repeat cX9_repeat 2 none :: ws0) rm mc ms 0 := cwV 0 hts (zz_gV mw_1053 mw_1054 mw_1055 mw_116 mc_yX9_repeat) rfl hrc hrs (by decide +kernel) hR
theorem csV_116 {R : Room} {s : State} {args : Array Value} {rm : Room} {mc ms : Nat} (hts : ∀ w ∈ ws0, w.before args s = true) (hrc : rm.cells = mc) (hrs : rm.slots = ms) (hR : rm.frames + 1 ≤ R.frames ∧ 8 + (5 + 11) + rm.locals ≤ R.locals) : CallW R s args "ScaleShop" RX7 161 yX7_smoothFrom cX7_smoothFrom 5 none (.code yX7_smoothFrom cX7_smoothFrom 5 none :: ws0) rm mc ms 1 := cwV 1 hts (zz_gV mw_867 mw_868 mw_869 mw_102 mc_yX7_smoothFrom) rfl hrc hrs (by decide +kernel) hR
theorem csV_117 {R : Room} {s : State} {args : Array Value} {rm : Room} {mc ms : Nat} (hts : ∀ w ∈ ws0, w.before args s = true) (hrc : rm.cells = mc) (hrs : rm.slots = ms) (hR : rm.frames + 1 ≤ R.frames ∧ 8 + (4 + 11) + rm.locals ≤ R.locals) : CallW R s args "ScaleShop" RX10 165 yX10_moveTo cX10_moveTo 4 (some .boolean) (.code yX10_moveTo cX10_moveTo 4 (some .boolean) :: ws0) rm mc ms 3 := cwV 3 hts (zz_gV mw_872 mw_874 mw_24 mw_99 mc_yX10_moveTo) rfl hrc hrs (by decide +kernel) hR
theorem csV_118 {R : Room} {s : State} {args : Array Value} {rm : Room} {mc ms : Nat} (hts : ∀ w ∈ ws0, w.before args s = true) (hrc : rm.cells = mc) (hrs : rm.slots = ms) (hR : rm.frames + 1 ≤ R.frames ∧ 8 + (3 + 11) + rm.locals ≤ R.locals) : CallW R s args "ScaleShop" RX7 181 yX7_doubleFrom cX7_doubleFrom 3 none (.code yX7_doubleFrom cX7_doubleFrom 3 none :: ws0) rm mc ms 1 := cwV 1 hts (zz_gV mw_904 mw_905 mw_906 mw_102 mc_yX7_doubleFrom) rfl hrc hrs (by decide +kernel) hR
theorem csV_119 {R : Room} {s : State} {args : Array Value} {rm : Room} {mc ms : Nat} (hts : ∀ w ∈ ws0, w.before args s = true) (hrc : rm.cells = mc) (hrs : rm.slots = ms) (hR : rm.frames + 1 ≤ R.frames ∧ 8 + (2 + 11) + rm.locals ≤ R.locals) : CallW R s args "ScaleShop" RX2 169 yX2_mayHaveCorner cX2_mayHaveCorner 2 (some .boolean) (.code yX2_mayHaveCorner cX2_mayHaveCorner 2 (some .boolean) :: ws0) rm mc ms 1 := cwV 1 hts (zz_gV mw_886 mw_887 mw_888 mw_111 mc_yX2_mayHaveCorner) rfl hrc hrs (by decide +kernel) hR
theorem csV_120 {R : Room} {s : State} {args : Array Value} {rm : Room} {mc ms : Nat} (hts : ∀ w ∈ ws0, w.before args s = true) (hrc : rm.cells = mc) (hrs : rm.slots = ms) (hR : rm.frames + 1 ≤ R.frames ∧ 8 + (3 + 11) + rm.locals ≤ R.locals) : CallW R s args "ScaleShop" RX7 172 yX7_copyFrom cX7_copyFrom 3 none (.code yX7_copyFrom cX7_copyFrom 3 none :: ws0) rm mc ms 1 := cwV 1 hts (zz_gV mw_890 mw_596 mw_597 mw_102 mc_yX7_copyFrom) rfl hrc hrs (by decide +kernel) hR
theorem csV_121 {R : Room} {s : State} {args : Array Value} {rm : Room} {mc ms : Nat} (hts : ∀ w ∈ ws0, w.before args s = true) (hrc : rm.cells = mc) (hrs : rm.slots = ms) (hR : rm.frames + 1 ≤ R.frames ∧ 8 + (8 + 11) + rm.locals ≤ R.locals) : CallW R s args "ScaleShop" RX7 175 yX7_pull cX7_pull 8 none (.code yX7_pull cX7_pull 8 none :: ws0) rm mc ms 4 := cwV 4 hts (zz_gV mw_891 mw_892 mw_893 mw_102 mc_yX7_pull) rfl hrc hrs (by decide +kernel) hR
theorem csV_122 {R : Room} {s : State} {args : Array Value} {rm : Room} {mc ms : Nat} (hts : ∀ w ∈ ws0, w.before args s = true) (hrc : rm.cells = mc) (hrs : rm.slots = ms) (hR : rm.frames + 1 ≤ R.frames ∧ 8 + (3 + 11) + rm.locals ≤ R.locals) : CallW R s args "ScaleShop" RX8 410 yX8_houseThere cX8_houseThere 3 (some (.object "ScaleShop$Row")) (.code yX8_houseThere cX8_houseThere 3 (some (.object "ScaleShop$Row")) :: ws0) rm mc ms 1 := cwV 1 hts (zz_gV mw_983 mw_984 mw_985 mw_100 mc_yX8_houseThere) rfl hrc hrs (by decide +kernel) hR
theorem csV_123 {R : Room} {s : State} {args : Array Value} {rm : Room} {mc ms : Nat} (hts : ∀ w ∈ ws0, w.before args s = true) (hrc : rm.cells = mc) (hrs : rm.slots = ms) (hR : rm.frames + 1 ≤ R.frames ∧ 8 + (4 + 11) + rm.locals ≤ R.locals) : CallW R s args "ScaleShop" RX7 191 yX7_doubleArea cX7_doubleArea 4 (some .int) (.code yX7_doubleArea cX7_doubleArea 4 (some .int) :: ws0) rm mc ms 0 := cwV 0 hts (zz_gV mw_917 mw_918 mw_919 mw_102 mc_yX7_doubleArea) rfl hrc hrs (by decide +kernel) hR
theorem csV_124 {R : Room} {s : State} {args : Array Value} {rm : Room} {mc ms : Nat} (hts : ∀ w ∈ ws0, w.before args s = true) (hrc : rm.cells = mc) (hrs : rm.slots = ms) (hR : rm.frames + 1 ≤ R.frames ∧ 8 + (4 + 11) + rm.locals ≤ R.locals) : CallW R s args "ScaleShop" RX10 227 yX10_isSmallHouse cX10_isSmallHouse 4 (some .boolean) (.code yX10_isSmallHouse cX10_isSmallHouse 4 (some .boolean) :: ws0) rm mc ms 2 := cwV 2 hts (zz_gV mw_979 mw_981 mw_27 mw_99 mc_yX10_isSmallHouse) rfl hrc hrs (by decide +kernel) hR
theorem csV_125 {R : Room} {s : State} {args : Array Value} {rm : Room} {mc ms : Nat} (hts : ∀ w ∈ ws0, w.before args s = true) (hrc : rm.cells = mc) (hrs : rm.slots = ms) (hR : rm.frames + 1 ≤ R.frames ∧ 8 + (9 + 11) + rm.locals ≤ R.locals) : CallW R s args "ScaleShop" RX10 230 yX10_rankInTown cX10_rankInTown 9 (some .int) (.code yX10_rankInTown cX10_rankInTown 9 (some .int) :: ws0) rm mc ms 1 := cwV 1 hts (zz_gV mw_988 mw_990 mw_28 mw_99 mc_yX10_rankInTown) rfl hrc hrs (by decide +kernel) hR
theorem csV_126 {R : Room} {s : State} {args : Array Value} {rm : Room} {mc ms : Nat} (hts : ∀ w ∈ ws0, w.before args s = true) (hrc : rm.cells = mc) (hrs : rm.slots = ms) (hR : rm.frames + 1 ≤ R.frames ∧ 8 + (2 + 11) + rm.locals ≤ R.locals) : CallW R s args "ScaleShop" RX7 406 yX7_copy cX7_copy 2 (some (.object "ScaleShop$Row")) (.code yX7_copy cX7_copy 2 (some (.object "ScaleShop$Row")) :: ws0) rm mc ms 0 := cwV 0 hts (zz_gV mw_966 mw_745 mw_746 mw_102 mc_yX7_copy) rfl hrc hrs (by decide +kernel) hR
theorem csV_127 {R : Room} {s : State} {args : Array Value} {rm : Room} {mc ms : Nat} (hts : ∀ w ∈ ws0, w.before args s = true) (hrc : rm.cells = mc) (hrs : rm.slots = ms) (hR : rm.frames + 1 ≤ R.frames ∧ 8 + (4 + 11) + rm.locals ≤ R.locals) : CallW R s args "ScaleShop" RX3 202 yX3_between cX3_between 4 none (.code yX3_between cX3_between 4 none :: ws0) rm mc ms 2 := cwV 2 hts (zz_gV mw_925 mw_926 mw_927 mw_106 mc_yX3_between) rfl hrc hrs (by decide +kernel) hR
theorem csV_128 {R : Room} {s : State} {args : Array Value} {rm : Room} {mc ms : Nat} (hts : ∀ w ∈ ws0, w.before args s = true) (hrc : rm.cells = mc) (hrs : rm.slots = ms) (hR : rm.frames + 1 ≤ R.frames ∧ 8 + (2 + 11) + rm.locals ≤ R.locals) : CallW R s args "ScaleShop" RX3 206 yX3_isOver cX3_isOver 2 (some .boolean) (.code yX3_isOver cX3_isOver 2 (some .boolean) :: ws0) rm mc ms 1 := cwV 1 hts (zz_gV mw_953 mw_954 mw_955 mw_106 mc_yX3_isOver) rfl hrc hrs (by decide +kernel) hR
theorem csV_129 {R : Room} {s : State} {args : Array Value} {rm : Room} {mc ms : Nat} (hts : ∀ w ∈ ws0, w.before args s = true) (hrc : rm.cells = mc) (hrs : rm.slots = ms) (hR : rm.frames + 1 ≤ R.frames ∧ 8 + (2 + 11) + rm.locals ≤ R.locals) : CallW R s args "ScaleShop" RX0 184 yX0_cover cX0_cover 2 none (.code yX0_cover cX0_cover 2 none :: ws0) rm mc ms 1 := cwV 1 hts (zz_gV mw_912 mw_656 mw_657 mw_104 mc_yX0_cover) rfl hrc hrs (by decide +kernel) hR
theorem csV_130 {R : Room} {s : State} {args : Array Value} {rm : Room} {mc ms : Nat} (hts : ∀ w ∈ ws0, w.before args s = true) (hrc : rm.cells = mc) (hrs : rm.slots = ms) (hR : rm.frames + 1 ≤ R.frames ∧ 8 + (3 + 11) + rm.locals ≤ R.locals) : CallW R s args "ScaleShop" RX0 209 yX0_stretch cX0_stretch 3 none (.code yX0_stretch cX0_stretch 3 none :: ws0) rm mc ms 1 := cwV 1 hts (zz_gV mw_957 mw_661 mw_662 mw_104 mc_yX0_stretch) rfl hrc hrs (by decide +kernel) hR
theorem csV_131 {R : Room} {s : State} {args : Array Value} {rm : Room} {mc ms : Nat} (hts : ∀ w ∈ ws0, w.before args s = true) (hrc : rm.cells = mc) (hrs : rm.slots = ms) (hR : rm.frames + 1 ≤ R.frames ∧ 8 + (2 + 11) + rm.locals ≤ R.locals) : CallW R s args "ScaleShop" RX7 187 yX7_boxFrom cX7_boxFrom 2 none (.code yX7_boxFrom cX7_boxFrom 2 none :: ws0) rm mc ms 1 := cwV 1 hts (zz_gV mw_913 mw_914 mw_915 mw_102 mc_yX7_boxFrom) rfl hrc hrs (by decide +kernel) hR
theorem csV_132 {R : Room} {s : State} {args : Array Value} {rm : Room} {mc ms : Nat} (hts : ∀ w ∈ ws0, w.before args s = true) (hrc : rm.cells = mc) (hrs : rm.slots = ms) (hR : rm.frames + 1 ≤ R.frames ∧ 8 + (6 + 11) + rm.locals ≤ R.locals) : CallW R s args "ScaleShop" RX4 212 yX4_isFreeFor cX4_isFreeFor 6 (some .boolean) (.code yX4_isFreeFor cX4_isFreeFor 6 (some .boolean) :: ws0) rm mc ms 3 := cwV 3 hts (zz_gV mw_958 mw_959 mw_960 mw_101 mc_yX4_isFreeFor) rfl hrc hrs (by decide +kernel) hR
theorem csV_133 {R : Room} {s : State} {args : Array Value} {rm : Room} {mc ms : Nat} (hts : ∀ w ∈ ws0, w.before args s = true) (hrc : rm.cells = mc) (hrs : rm.slots = ms) (hR : rm.frames + 1 ≤ R.frames ∧ 8 + (7 + 11) + rm.locals ≤ R.locals) : CallW R s args "ScaleShop" RX10 216 yX10_unite cX10_unite 7 (some .int) (.code yX10_unite cX10_unite 7 (some .int) :: ws0) rm mc ms 4 := cwV 4 hts (zz_gV mw_962 mw_964 mw_26 mw_99 mc_yX10_unite) rfl hrc hrs (by decide +kernel) hR
theorem csV_134 {R : Room} {s : State} {args : Array Value} {rm : Room} {mc ms : Nat} (hts : ∀ w ∈ ws0, w.before args s = true) (hrc : rm.cells = mc) (hrs : rm.slots = ms) (hR : rm.frames + 1 ≤ R.frames ∧ 8 + (5 + 11) + rm.locals ≤ R.locals) : CallW R s args "ScaleShop$Roads" RX6 80 yX6_setEnd cX6_setEnd 5 none (.code yX6_setEnd cX6_setEnd 5 none :: ws0) rm mc ms 3 := cwV 3 hts (zz_gV mw_1010 mw_1012 mw_30 mw_105 mc_yX6_setEnd) rfl hrc hrs (by decide +kernel) hR
theorem csV_135 {R : Room} {s : State} {args : Array Value} {rm : Room} {mc ms : Nat} (hts : ∀ w ∈ ws0, w.before args s = true) (hrc : rm.cells = mc) (hrs : rm.slots = ms) (hR : rm.frames + 1 ≤ R.frames ∧ 8 + (2 + 11) + rm.locals ≤ R.locals) : CallW R s args "ScaleShop$Roads" RX8 39 yX8_find cX8_find 2 (some (.object "ScaleShop$Feature")) (.code yX8_find cX8_find 2 (some (.object "ScaleShop$Feature")) :: ws0) rm mc ms 1 := cwV 1 hts (zz_gV mw_1000 mw_499 mw_500 mw_100 mc_yX8_find) rfl hrc hrs (by decide +kernel) hR
theorem csV_136 {R : Room} {s : State} {args : Array Value} {rm : Room} {mc ms : Nat} (hts : ∀ w ∈ ws0, w.before args s = true) (hrc : rm.cells = mc) (hrs : rm.slots = ms) (hR : rm.frames + 1 ≤ R.frames ∧ 8 + (3 + 11) + rm.locals ≤ R.locals) : CallW R s args "ScaleShop$Roads" RX8 43 yX8_rowThere cX8_rowThere 3 (some (.object "ScaleShop$Row")) (.code yX8_rowThere cX8_rowThere 3 (some (.object "ScaleShop$Row")) :: ws0) rm mc ms 1 := cwV 1 hts (zz_gV mw_1001 mw_613 mw_614 mw_100 mc_yX8_rowThere) rfl hrc hrs (by decide +kernel) hR
theorem csV_137 {R : Room} {s : State} {args : Array Value} {rm : Room} {mc ms : Nat} (hts : ∀ w ∈ ws0, w.before args s = true) (hrc : rm.cells = mc) (hrs : rm.slots = ms) (hR : rm.frames + 1 ≤ R.frames ∧ 8 + (3 + 11) + rm.locals ≤ R.locals) : CallW R s args "ScaleShop$Roads" RX7 59 yX7_length cX7_length 3 (some .int) (.code yX7_length cX7_length 3 (some .int) :: ws0) rm mc ms 0 := cwV 0 hts (zz_gV mw_1002 mw_1003 mw_1004 mw_102 mc_yX7_length) rfl hrc hrs (by decide +kernel) hR
theorem csV_138 {R : Room} {s : State} {args : Array Value} {rm : Room} {mc ms : Nat} (hts : ∀ w ∈ ws0, w.before args s = true) (hrc : rm.cells = mc) (hrs : rm.slots = ms) (hR : rm.frames + 1 ≤ R.frames ∧ 8 + (5 + 11) + rm.locals ≤ R.locals) : CallW R s args "ScaleShop$Roads" RX6 65 yX6_insert cX6_insert 5 none (.code yX6_insert cX6_insert 5 none :: ws0) rm mc ms 2 := cwV 2 hts (zz_gV mw_1006 mw_1008 mw_29 mw_105 mc_yX6_insert) rfl hrc hrs (by decide +kernel) hR
theorem csV_139 {R : Room} {s : State} {args : Array Value} {rm : Room} {mc ms : Nat} (hts : ∀ w ∈ ws0, w.before args s = true) (hrc : rm.cells = mc) (hrs : rm.slots = ms) (hR : rm.frames + 1 ≤ R.frames ∧ 8 + (4 + 11) + rm.locals ≤ R.locals) : CallW R s args "ScaleShop$Roads" RX6 84 yX6_uniteGroups cX6_uniteGroups 4 none (.code yX6_uniteGroups cX6_uniteGroups 4 none :: ws0) rm mc ms 2 := cwV 2 hts (zz_gV mw_1018 mw_1020 mw_31 mw_105 mc_yX6_uniteGroups) rfl hrc hrs (by decide +kernel) hR
theorem csV_140 {R : Room} {s : State} {args : Array Value} {rm : Room} {mc ms : Nat} (hts : ∀ w ∈ ws0, w.before args s = true) (hrc : rm.cells = mc) (hrs : rm.slots = ms) (hR : rm.frames + 1 ≤ R.frames ∧ 8 + (2 + 11) + rm.locals ≤ R.locals) : CallW R s args "ScaleShop$Roads" RX2 88 yX2_leave cX2_leave 2 none (.code yX2_leave cX2_leave 2 none :: ws0) rm mc ms 1 := cwV 1 hts (zz_gV mw_1022 mw_968 mw_969 mw_111 mc_yX2_leave) rfl hrc hrs (by decide +kernel) hR
theorem csV_141 {R : Room} {s : State} {args : Array Value} {rm : Room} {mc ms : Nat} (hts : ∀ w ∈ ws0, w.before args s = true) (hrc : rm.cells = mc) (hrs : rm.slots = ms) (hR : rm.frames + 1 ≤ R.frames ∧ 8 + (5 + 11) + rm.locals ≤ R.locals) : CallW R s args "ScaleShop" RX6 233 yX6_gather cX6_gather 5 none (.code yX6_gather cX6_gather 5 none :: ws0) rm mc ms 1 := cwV 1 hts (zz_gV mw_996 mw_997 mw_998 mw_105 mc_yX6_gather) rfl hrc hrs (by decide +kernel) hR
theorem csV_142 {R : Room} {s : State} {args : Array Value} {rm : Room} {mc ms : Nat} (hts : ∀ w ∈ ws0, w.before args s = true) (hrc : rm.cells = mc) (hrs : rm.slots = ms) (hR : rm.frames + 1 ≤ R.frames ∧ 8 + (6 + 11) + rm.locals ≤ R.locals) : CallW R s args "ScaleShop" RX6 237 yX6_leaveOut cX6_leaveOut 6 (some .int) (.code yX6_leaveOut cX6_leaveOut 6 (some .int) :: ws0) rm mc ms 1 := cwV 1 hts (zz_gV mw_1014 mw_1015 mw_1016 mw_105 mc_yX6_leaveOut) rfl hrc hrs (by decide +kernel) hR
theorem csV_143 {R : Room} {s : State} {args : Array Value} {rm : Room} {mc ms : Nat} (hts : ∀ w ∈ ws0, w.before args s = true) (hrc : rm.cells = mc) (hrs : rm.slots = ms) (hR : rm.frames + 1 ≤ R.frames ∧ 8 + (4 + 11) + rm.locals ≤ R.locals) : CallW R s args "ScaleShop" RX7 178 yX7_carry cX7_carry 4 none (.code yX7_carry cX7_carry 4 none :: ws0) rm mc ms 2 := cwV 2 hts (zz_gV mw_896 mw_897 mw_898 mw_102 mc_yX7_carry) rfl hrc hrs (by decide +kernel) hR
theorem csV_144 {R : Room} {s : State} {args : Array Value} {rm : Room} {mc ms : Nat} (hts : ∀ w ∈ ws0, w.before args s = true) (hrc : rm.cells = mc) (hrs : rm.slots = ms) (hR : rm.frames + 1 ≤ R.frames ∧ 8 + (3 + 11) + rm.locals ≤ R.locals) : CallW R s args "ScaleShop" RX8 240 yX8_rowThere cX8_rowThere 3 (some (.object "ScaleShop$Row")) (.code yX8_rowThere cX8_rowThere 3 (some (.object "ScaleShop$Row")) :: ws0) rm mc ms 1 := cwV 1 hts (zz_gV mw_1027 mw_613 mw_614 mw_100 mc_yX8_rowThere) rfl hrc hrs (by decide +kernel) hR
theorem csV_145 {R : Room} {s : State} {args : Array Value} {rm : Room} {mc ms : Nat} (hts : ∀ w ∈ ws0, w.before args s = true) (hrc : rm.cells = mc) (hrs : rm.slots = ms) (hR : rm.frames + 1 ≤ R.frames ∧ 8 + (7 + 11) + rm.locals ≤ R.locals) : CallW R s args "ScaleShop" RX7 274 yX7_where cX7_where 7 (some .int) (.code yX7_where cX7_where 7 (some .int) :: ws0) rm mc ms 2 := cwV 2 hts (zz_gV mw_1066 mw_688 mw_689 mw_102 mc_yX7_where) rfl hrc hrs (by decide +kernel) hR
theorem csV_146 {R : Room} {s : State} {args : Array Value} {rm : Room} {mc ms : Nat} (hts : ∀ w ∈ ws0, w.before args s = true) (hrc : rm.cells = mc) (hrs : rm.slots = ms) (hR : rm.frames + 1 ≤ R.frames ∧ 8 + (3 + 11) + rm.locals ≤ R.locals) : CallW R s args "ScaleShop" RX7 330 yX7_length cX7_length 3 (some .int) (.code yX7_length cX7_length 3 (some .int) :: ws0) rm mc ms 0 := cwV 0 hts (zz_gV mw_1120 mw_1003 mw_1004 mw_102 mc_yX7_length) rfl hrc hrs (by decide +kernel) hR
theorem csV_147 {R : Room} {s : State} {args : Array Value} {rm : Room} {mc ms : Nat} (hts : ∀ w ∈ ws0, w.before args s = true) (hrc : rm.cells = mc) (hrs : rm.slots = ms) (hR : rm.frames + 1 ≤ R.frames ∧ 8 + (5 + 11) + rm.locals ≤ R.locals) : CallW R s args "ScaleShop" RX8 363 yX8_inState cX8_inState 5 (some .int) (.code yX8_inState cX8_inState 5 (some .int) :: ws0) rm mc ms 1 := cwV 1 hts (zz_gV mw_1137 mw_1138 mw_1139 mw_100 mc_yX8_inState) rfl hrc hrs (by decide +kernel) hR
theorem csV_148 {R : Room} {s : State} {args : Array Value} {rm : Room} {mc ms : Nat} (hts : ∀ w ∈ ws0, w.before args s = true) (hrc : rm.cells = mc) (hrs : rm.slots = ms) (hR : rm.frames + 1 ≤ R.frames ∧ 8 + (4 + 11) + rm.locals ≤ R.locals) : CallW R s args "ScaleShop" RX8 366 yX8_torn cX8_torn 4 (some .int) (.code yX8_torn cX8_torn 4 (some .int) :: ws0) rm mc ms 0 := cwV 0 hts (zz_gV mw_1141 mw_1142 mw_1143 mw_100 mc_yX8_torn) rfl hrc hrs (by decide +kernel) hR
theorem csV_149 {R : Room} {s : State} {args : Array Value} {rm : Room} {mc ms : Nat} (hts : ∀ w ∈ ws0, w.before args s = true) (hrc : rm.cells = mc) (hrs : rm.slots = ms) (hR : rm.frames + 1 ≤ R.frames ∧ 8 + (4 + 11) + rm.locals ≤ R.locals) : CallW R s args "ScaleShop" RX8 369 yX8_cornersThere cX8_cornersThere 4 (some .int) (.code yX8_cornersThere cX8_cornersThere 4 (some .int) :: ws0) rm mc ms 0 := cwV 0 hts (zz_gV mw_1145 mw_1146 mw_1147 mw_100 mc_yX8_cornersThere) rfl hrc hrs (by decide +kernel) hR
theorem csV_150 {R : Room} {s : State} {args : Array Value} {rm : Room} {mc ms : Nat} (hts : ∀ w ∈ ws0, w.before args s = true) (hrc : rm.cells = mc) (hrs : rm.slots = ms) (hR : rm.frames + 1 ≤ R.frames ∧ 8 + (1 + 11) + rm.locals ≤ R.locals) : CallW R s args "ScaleShop" RX7 278 yX7_edges cX7_edges 1 (some .int) (.code yX7_edges cX7_edges 1 (some .int) :: ws0) rm mc ms 0 := cwV 0 hts (zz_gV mw_1071 mw_529 mw_530 mw_102 mc_yX7_edges) rfl hrc hrs (by decide +kernel) hR
theorem csV_151 {R : Room} {s : State} {args : Array Value} {rm : Room} {mc ms : Nat} (hts : ∀ w ∈ ws0, w.before args s = true) (hrc : rm.cells = mc) (hrs : rm.slots = ms) (hR : rm.frames + 1 ≤ R.frames ∧ 8 + (5 + 11) + rm.locals ≤ R.locals) : CallW R s args "ScaleShop" RX7 281 yX7_turn cX7_turn 5 (some .int) (.code yX7_turn cX7_turn 5 (some .int) :: ws0) rm mc ms 3 := cwV 3 hts (zz_gV mw_1072 mw_585 mw_586 mw_102 mc_yX7_turn) rfl hrc hrs (by decide +kernel) hR
theorem csV_152 {R : Room} {s : State} {args : Array Value} {rm : Room} {mc ms : Nat} (hts : ∀ w ∈ ws0, w.before args s = true) (hrc : rm.cells = mc) (hrs : rm.slots = ms) (hR : rm.frames + 1 ≤ R.frames ∧ 8 + (5 + 11) + rm.locals ≤ R.locals) : CallW R s args "ScaleShop" RX3 295 yX3_become cX3_become 5 none (.code yX3_become cX3_become 5 none :: ws0) rm mc ms 2 := cwV 2 hts (zz_gV mw_1109 mw_931 mw_932 mw_106 mc_yX3_become) rfl hrc hrs (by decide +kernel) hR
theorem csV_153 {R : Room} {s : State} {args : Array Value} {rm : Room} {mc ms : Nat} (hts : ∀ w ∈ ws0, w.before args s = true) (hrc : rm.cells = mc) (hrs : rm.slots = ms) (hR : rm.frames + 1 ≤ R.frames ∧ 8 + (9 + 11) + rm.locals ≤ R.locals) : CallW R s args "ScaleShop" RX3 287 yX3_reduced cX3_reduced 9 (some .long) (.code yX3_reduced cX3_reduced 9 (some .long) :: ws0) rm mc ms 1 := cwV 1 hts (zz_gV mw_1078 mw_1079 mw_1080 mw_106 mc_yX3_reduced) rfl hrc hrs (by decide +kernel) hR
theorem csV_154 {R : Room} {s : State} {args : Array Value} {rm : Room} {mc ms : Nat} (hts : ∀ w ∈ ws0, w.before args s = true) (hrc : rm.cells = mc) (hrs : rm.slots = ms) (hR : rm.frames + 1 ≤ R.frames ∧ 8 + (1 + 11) + rm.locals ≤ R.locals) : CallW R s args "ScaleShop" RX3 305 yX3_clear cX3_clear 1 none (.code yX3_clear cX3_clear 1 none :: ws0) rm mc ms 0 := cwV 0 hts (zz_gV mw_1110 mw_935 mw_936 mw_106 mc_yX3_clear) rfl hrc hrs (by decide +kernel) hR
theorem csV_155 {R : Room} {s : State} {args : Array Value} {rm : Room} {mc ms : Nat} (hts : ∀ w ∈ ws0, w.before args s = true) (hrc : rm.cells = mc) (hrs : rm.slots = ms) (hR : rm.frames + 1 ≤ R.frames ∧ 8 + (5 + 11) + rm.locals ≤ R.locals) : CallW R s args "ScaleShop" RX3 315 yX3_offerFrom cX3_offerFrom 5 none (.code yX3_offerFrom cX3_offerFrom 5 none :: ws0) rm mc ms 3 := cwV 3 hts (zz_gV mw_1111 mw_939 mw_940 mw_106 mc_yX3_offerFrom) rfl hrc hrs (by decide +kernel) hR
theorem csV_156 {R : Room} {s : State} {args : Array Value} {rm : Room} {mc ms : Nat} (hts : ∀ w ∈ ws0, w.before args s = true) (hrc : rm.cells = mc) (hrs : rm.slots = ms) (hR : rm.frames + 1 ≤ R.frames ∧ 8 + (2 + 11) + rm.locals ≤ R.locals) : CallW R s args "ScaleShop" RX3 319 yX3_isBelow cX3_isBelow 2 (some .boolean) (.code yX3_isBelow cX3_isBelow 2 (some .boolean) :: ws0) rm mc ms 1 := cwV 1 hts (zz_gV mw_1112 mw_1113 mw_1114 mw_106 mc_yX3_isBelow) rfl hrc hrs (by decide +kernel) hR
theorem csV_157 {R : Room} {s : State} {args : Array Value} {rm : Room} {mc ms : Nat} (hts : ∀ w ∈ ws0, w.before args s = true) (hrc : rm.cells = mc) (hrs : rm.slots = ms) (hR : rm.frames + 1 ≤ R.frames ∧ 8 + (4 + 11) + rm.locals ≤ R.locals) : CallW R s args "ScaleShop" RX0 416 yX0_squareApart cX0_squareApart 4 (some .int) (.code yX0_squareApart cX0_squareApart 4 (some .int) :: ws0) rm mc ms 1 := cwV 1 hts (zz_gV mw_1094 mw_671 mw_672 mw_104 mc_yX0_squareApart) rfl hrc hrs (by decide +kernel) hR
theorem csV_158 {R : Room} {s : State} {args : Array Value} {rm : Room} {mc ms : Nat} (hts : ∀ w ∈ ws0, w.before args s = true) (hrc : rm.cells = mc) (hrs : rm.slots = ms) (hR : rm.frames + 1 ≤ R.frames ∧ 8 + (2 + 11) + rm.locals ≤ R.locals) : CallW R s args "ScaleShop" RX3 420 yX3_isHalfBelow cX3_isHalfBelow 2 (some .boolean) (.code yX3_isHalfBelow cX3_isHalfBelow 2 (some .boolean) :: ws0) rm mc ms 1 := cwV 1 hts (zz_gV mw_1095 mw_1096 mw_1097 mw_106 mc_yX3_isHalfBelow) rfl hrc hrs (by decide +kernel) hR
theorem csV_159 {R : Room} {s : State} {args : Array Value} {rm : Room} {mc ms : Nat} (hts : ∀ w ∈ ws0, w.before args s = true) (hrc : rm.cells = mc) (hrs : rm.slots = ms) (hR : rm.frames + 1 ≤ R.frames ∧ 8 + (9 + 11) + rm.locals ≤ R.locals) : CallW R s args "ScaleShop" RX10 413 yX10_isClash cX10_isClash 9 (some .boolean) (.code yX10_isClash cX10_isClash 9 (some .boolean) :: ws0) rm mc ms 3 := cwV 3 hts (zz_gV mw_1090 mw_1092 mw_33 mw_99 mc_yX10_isClash) rfl hrc hrs (by decide +kernel) hR
theorem csV_160 {R : Room} {s : State} {args : Array Value} {rm : Room} {mc ms : Nat} (hts : ∀ w ∈ ws0, w.before args s = true) (hrc : rm.cells = mc) (hrs : rm.slots = ms) (hR : rm.frames + 1 ≤ R.frames ∧ 8 + (7 + 11) + rm.locals ≤ R.locals) : CallW R s args "ScaleShop" RX10 291 yX10_nextClash cX10_nextClash 7 (some .int) (.code yX10_nextClash cX10_nextClash 7 (some .int) :: ws0) rm mc ms 2 := cwV 2 hts (zz_gV mw_1086 mw_1088 mw_32 mw_99 mc_yX10_nextClash) rfl hrc hrs (by decide +kernel) hR
theorem csV_161 {R : Room} {s : State} {args : Array Value} {rm : Room} {mc ms : Nat} (hts : ∀ w ∈ ws0, w.before args s = true) (hrc : rm.cells = mc) (hrs : rm.slots = ms) (hR : rm.frames + 1 ≤ R.frames ∧ 8 + (6 + 11) + rm.locals ≤ R.locals) : CallW R s args "ScaleShop" RX7 266 yX7_touches cX7_touches 6 (some .boolean) (.code yX7_touches cX7_touches 6 (some .boolean) :: ws0) rm mc ms 1 := cwV 1 hts (zz_gV mw_1061 mw_680 mw_681 mw_102 mc_yX7_touches) rfl hrc hrs (by decide +kernel) hR
theorem csS_162 {R : Room} {s : State} {args : Array Value} {rm : Room} {mc ms : Nat} (hts : ∀ w ∈ ws0, w.before args s = true) (hrc : rm.cells = mc) (hrs : rm.slots = ms) (hR : rm.frames + 1 ≤ R.frames ∧ 8 + (12 + 11) + rm.locals ≤ R.locals) : CallB R s args "ScaleShopModel" 140 yX11_cross cX11_cross 12 (some .long) (.code yX11_cross cX11_cross 12 (some .long) :: ws0) rm mc ms 6 ∧ (Cond.static yX11_cross).before args s = true := va_cwS 6 hts (zz_gS mw_1381 mw_1382 mw_110 mc_yX11_cross) rfl hrc hrs (by decide +kernel) hR
theorem csS_163 {R : Room} {s : State} {args : Array Value} {rm : Room} {mc ms : Nat} (hts : ∀ w ∈ ws0, w.before args s = true) (hrc : rm.cells = mc) (hrs : rm.slots = ms) (hR : rm.frames + 1 ≤ R.frames ∧ 8 + (2 + 11) + rm.locals ≤ R.locals) : CallB R s args "ScaleShopModel" 153 yX11_signOf cX11_signOf 2 (some .int) (.code yX11_signOf cX11_signOf 2 (some .int) :: ws0) rm mc ms 1 ∧ (Cond.static yX11_signOf).before args s = true := va_cwS 1 hts (zz_gS mw_1391 mw_1392 mw_110 mc_yX11_signOf) rfl hrc hrs (by decide +kernel) hR
theorem csS_164 {R : Room} {s : State} {args : Array Value} {rm : Room} {mc ms : Nat} (hts : ∀ w ∈ ws0, w.before args s = true) (hrc : rm.cells = mc) (hrs : rm.slots = ms) (hR : rm.frames + 1 ≤ R.frames ∧ 8 + (6 + 11) + rm.locals ≤ R.locals) : CallB R s args "ScaleShopModel" 157 yX11_isOn cX11_isOn 6 (some .boolean) (.code yX11_isOn cX11_isOn 6 (some .boolean) :: ws0) rm mc ms 6 ∧ (Cond.static yX11_isOn).before args s = true := va_cwS 6 hts (zz_gS mw_1394 mw_1395 mw_110 mc_yX11_isOn) rfl hrc hrs (by decide +kernel) hR
theorem csV_165 {R : Room} {s : State} {args : Array Value} {rm : Room} {mc ms : Nat} (hts : ∀ w ∈ ws0, w.before args s = true) (hrc : rm.cells = mc) (hrs : rm.slots = ms) (hR : rm.frames + 1 ≤ R.frames ∧ 8 + (2 + 11) + rm.locals ≤ R.locals) : CallW R s args "ScaleShopModel" RX11 161 yX11_isRing cX11_isRing 2 (some .boolean) (.code yX11_isRing cX11_isRing 2 (some .boolean) :: ws0) rm mc ms 1 := cwV 1 hts (zz_gV mw_1365 mw_1367 mw_40 mw_110 mc_yX11_isRing) rfl hrc hrs (by decide +kernel) hR
theorem csV_166 {R : Room} {s : State} {args : Array Value} {rm : Room} {mc ms : Nat} (hts : ∀ w ∈ ws0, w.before args s = true) (hrc : rm.cells = mc) (hrs : rm.slots = ms) (hR : rm.frames + 1 ≤ R.frames ∧ 8 + (2 + 11) + rm.locals ≤ R.locals) : CallW R s args "ScaleShopModel" RX11 164 yX11_edgesOf cX11_edgesOf 2 (some .int) (.code yX11_edgesOf cX11_edgesOf 2 (some .int) :: ws0) rm mc ms 1 := cwV 1 hts (zz_gV mw_1369 mw_1371 mw_41 mw_110 mc_yX11_edgesOf) rfl hrc hrs (by decide +kernel) hR
theorem csV_167 {R : Room} {s : State} {args : Array Value} {rm : Room} {mc ms : Nat} (hts : ∀ w ∈ ws0, w.before args s = true) (hrc : rm.cells = mc) (hrs : rm.slots = ms) (hR : rm.frames + 1 ≤ R.frames ∧ 8 + (6 + 11) + rm.locals ≤ R.locals) : CallW R s args "ScaleShopModel" RX11 167 yX11_edge cX11_edge 6 none (.code yX11_edge cX11_edge 6 none :: ws0) rm mc ms 3 := cwV 3 hts (zz_gV mw_1373 mw_1375 mw_42 mw_110 mc_yX11_edge) rfl hrc hrs (by decide +kernel) hR
theorem csS_168 {R : Room} {s : State} {args : Array Value} {rm : Room} {mc ms : Nat} (hts : ∀ w ∈ ws0, w.before args s = true) (hrc : rm.cells = mc) (hrs : rm.slots = ms) (hR : rm.frames + 1 ≤ R.frames ∧ 8 + (6 + 11) + rm.locals ≤ R.locals) : CallB R s args "ScaleShopModel" 171 yX11_touch cX11_touch 6 (some .boolean) (.code yX11_touch cX11_touch 6 (some .boolean) :: ws0) rm mc ms 1 ∧ (Cond.static yX11_touch).before args s = true := va_cwS 1 hts (zz_gS mw_1388 mw_1389 mw_110 mc_yX11_touch) rfl hrc hrs (by decide +kernel) hR
theorem csV_169 {R : Room} {s : State} {args : Array Value} {rm : Room} {mc ms : Nat} (hts : ∀ w ∈ ws0, w.before args s = true) (hrc : rm.cells = mc) (hrs : rm.slots = ms) (hR : rm.frames + 1 ≤ R.frames ∧ 8 + (5 + 11) + rm.locals ≤ R.locals) : CallW R s args "ScaleShopModel" RX11 175 yX11_isOnSet cX11_isOnSet 5 (some .boolean) (.code yX11_isOnSet cX11_isOnSet 5 (some .boolean) :: ws0) rm mc ms 3 := cwV 3 hts (zz_gV mw_1451 mw_1453 mw_57 mw_110 mc_yX11_isOnSet) rfl hrc hrs (by decide +kernel) hR
theorem csV_170 {R : Room} {s : State} {args : Array Value} {rm : Room} {mc ms : Nat} (hts : ∀ w ∈ ws0, w.before args s = true) (hrc : rm.cells = mc) (hrs : rm.slots = ms) (hR : rm.frames + 1 ≤ R.frames ∧ 8 + (3 + 11) + rm.locals ≤ R.locals) : CallW R s args "ScaleShopModel" RX11 188 yX11_isSquare cX11_isSquare 3 (some .boolean) (.code yX11_isSquare cX11_isSquare 3 (some .boolean) :: ws0) rm mc ms 1 := cwV 1 hts (zz_gV mw_1399 mw_1401 mw_45 mw_110 mc_yX11_isSquare) rfl hrc hrs (by decide +kernel) hR
theorem csV_171 {R : Room} {s : State} {args : Array Value} {rm : Room} {mc ms : Nat} (hts : ∀ w ∈ ws0, w.before args s = true) (hrc : rm.cells = mc) (hrs : rm.slots = ms) (hR : rm.frames + 1 ≤ R.frames ∧ 8 + (4 + 11) + rm.locals ≤ R.locals) : CallW R s args "ScaleShopModel" RX11 185 yX11_meetsEdge cX11_meetsEdge 4 (some .boolean) (.code yX11_meetsEdge cX11_meetsEdge 4 (some .boolean) :: ws0) rm mc ms 3 := cwV 3 hts (zz_gV mw_1384 mw_1386 mw_44 mw_110 mc_yX11_meetsEdge) rfl hrc hrs (by decide +kernel) hR
theorem csV_172 {R : Room} {s : State} {args : Array Value} {rm : Room} {mc ms : Nat} (hts : ∀ w ∈ ws0, w.before args s = true) (hrc : rm.cells = mc) (hrs : rm.slots = ms) (hR : rm.frames + 1 ≤ R.frames ∧ 8 + (6 + 11) + rm.locals ≤ R.locals) : CallW R s args "ScaleShopModel" RX11 182 yX11_folds cX11_folds 6 (some .boolean) (.code yX11_folds cX11_folds 6 (some .boolean) :: ws0) rm mc ms 3 := cwV 3 hts (zz_gV mw_1377 mw_1379 mw_43 mw_110 mc_yX11_folds) rfl hrc hrs (by decide +kernel) hR
theorem csV_173 {R : Room} {s : State} {args : Array Value} {rm : Room} {mc ms : Nat} (hts : ∀ w ∈ ws0, w.before args s = true) (hrc : rm.cells = mc) (hrs : rm.slots = ms) (hR : rm.frames + 1 ≤ R.frames ∧ 8 + (3 + 11) + rm.locals ≤ R.locals) : CallW R s args "ScaleShopModel" RX11 230 yX11_take cX11_take 3 none (.code yX11_take cX11_take 3 none :: ws0) rm mc ms 1 := cwV 1 hts (zz_gV mw_1498 mw_1500 mw_68 mw_110 mc_yX11_take) rfl hrc hrs (by decide +kernel) hR
theorem csV_174 {R : Room} {s : State} {args : Array Value} {rm : Room} {mc ms : Nat} (hts : ∀ w ∈ ws0, w.before args s = true) (hrc : rm.cells = mc) (hrs : rm.slots = ms) (hR : rm.frames + 1 ≤ R.frames ∧ 8 + (8 + 11) + rm.locals ≤ R.locals) : CallW R s args "ScaleShopModel" RX11 234 yX11_isThree cX11_isThree 8 (some .boolean) (.code yX11_isThree cX11_isThree 8 (some .boolean) :: ws0) rm mc ms 7 := cwV 7 hts (zz_gV mw_1502 mw_1504 mw_69 mw_110 mc_yX11_isThree) rfl hrc hrs (by decide +kernel) hR
theorem csS_175 {R : Room} {s : State} {args : Array Value} {rm : Room} {mc ms : Nat} (hts : ∀ w ∈ ws0, w.before args s = true) (hrc : rm.cells = mc) (hrs : rm.slots = ms) (hR : rm.frames + 1 ≤ R.frames ∧ 8 + (6 + 11) + rm.locals ≤ R.locals) : CallB R s args "ScaleShopModel" 226 yX11_isWithin cX11_isWithin 6 (some .boolean) (.code yX11_isWithin cX11_isWithin 6 (some .boolean) :: ws0) rm mc ms 3 ∧ (Cond.static yX11_isWithin).before args s = true := va_cwS 3 hts (zz_gS mw_1491 mw_1492 mw_110 mc_yX11_isWithin) rfl hrc hrs (by decide +kernel) hR
theorem csV_176 {R : Room} {s : State} {args : Array Value} {rm : Room} {mc ms : Nat} (hts : ∀ w ∈ ws0, w.before args s = true) (hrc : rm.cells = mc) (hrs : rm.slots = ms) (hR : rm.frames + 1 ≤ R.frames ∧ 8 + (5 + 11) + rm.locals ≤ R.locals) : CallW R s args "ScaleShopModel" RX11 241 yX11_isAhead cX11_isAhead 5 (some .boolean) (.code yX11_isAhead cX11_isAhead 5 (some .boolean) :: ws0) rm mc ms 4 := cwV 4 hts (zz_gV mw_1514 mw_1516 mw_72 mw_110 mc_yX11_isAhead) rfl hrc hrs (by decide +kernel) hR
theorem csV_177 {R : Room} {s : State} {args : Array Value} {rm : Room} {mc ms : Nat} (hts : ∀ w ∈ ws0, w.before args s = true) (hrc : rm.cells = mc) (hrs : rm.slots = ms) (hR : rm.frames + 1 ≤ R.frames ∧ 8 + (5 + 11) + rm.locals ≤ R.locals) : CallW R s args "ScaleShopModel" RX11 238 yX11_isOnlyAt cX11_isOnlyAt 5 (some .boolean) (.code yX11_isOnlyAt cX11_isOnlyAt 5 (some .boolean) :: ws0) rm mc ms 2 := cwV 2 hts (zz_gV mw_1510 mw_1512 mw_71 mw_110 mc_yX11_isOnlyAt) rfl hrc hrs (by decide +kernel) hR
theorem csV_178 {R : Room} {s : State} {args : Array Value} {rm : Room} {mc ms : Nat} (hts : ∀ w ∈ ws0, w.before args s = true) (hrc : rm.cells = mc) (hrs : rm.slots = ms) (hR : rm.frames + 1 ≤ R.frames ∧ 8 + (2 + 11) + rm.locals ≤ R.locals) : CallW R s args "ScaleShopModel" RX11 133 yX11_isFeature cX11_isFeature 2 (some .boolean) (.code yX11_isFeature cX11_isFeature 2 (some .boolean) :: ws0) rm mc ms 1 := cwV 1 hts (zz_gV mw_1345 mw_1347 mw_37 mw_110 mc_yX11_isFeature) rfl hrc hrs (by decide +kernel) hR
theorem csV_179 {R : Room} {s : State} {args : Array Value} {rm : Room} {mc ms : Nat} (hts : ∀ w ∈ ws0, w.before args s = true) (hrc : rm.cells = mc) (hrs : rm.slots = ms) (hR : rm.frames + 1 ≤ R.frames ∧ 8 + (2 + 11) + rm.locals ≤ R.locals) : CallW R s args "ScaleShopModel" RX11 197 yX11_is cX11_is 2 (some .boolean) (.code yX11_is cX11_is 2 (some .boolean) :: ws0) rm mc ms 1 := cwV 1 hts (zz_gV mw_1447 mw_1449 mw_56 mw_110 mc_yX11_is) rfl hrc hrs (by decide +kernel) hR
theorem csV_180 {R : Room} {s : State} {args : Array Value} {rm : Room} {mc ms : Nat} (hts : ∀ w ∈ ws0, w.before args s = true) (hrc : rm.cells = mc) (hrs : rm.slots = ms) (hR : rm.frames + 1 ≤ R.frames ∧ 8 + (5 + 11) + rm.locals ≤ R.locals) : CallW R s args "ScaleShopModel" RX11 200 yX11_isMet cX11_isMet 5 (some .boolean) (.code yX11_isMet cX11_isMet 5 (some .boolean) :: ws0) rm mc ms 2 := cwV 2 hts (zz_gV mw_1467 mw_1469 mw_61 mw_110 mc_yX11_isMet) rfl hrc hrs (by decide +kernel) hR
theorem csV_181 {R : Room} {s : State} {args : Array Value} {rm : Room} {mc ms : Nat} (hts : ∀ w ∈ ws0, w.before args s = true) (hrc : rm.cells = mc) (hrs : rm.slots = ms) (hR : rm.frames + 1 ≤ R.frames ∧ 8 + (8 + 11) + rm.locals ≤ R.locals) : CallW R s args "ScaleShopModel" RX11 223 yX11_isFreeWay cX11_isFreeWay 8 (some .boolean) (.code yX11_isFreeWay cX11_isFreeWay 8 (some .boolean) :: ws0) rm mc ms 2 := cwV 2 hts (zz_gV mw_1506 mw_1508 mw_70 mw_110 mc_yX11_isFreeWay) rfl hrc hrs (by decide +kernel) hR
theorem csV_182 {R : Room} {s : State} {args : Array Value} {rm : Room} {mc ms : Nat} (hts : ∀ w ∈ ws0, w.before args s = true) (hrc : rm.cells = mc) (hrs : rm.slots = ms) (hR : rm.frames + 1 ≤ R.frames ∧ 8 + (6 + 11) + rm.locals ≤ R.locals) : CallW R s args "ScaleShopModel" RX11 217 yX11_isSweptBy cX11_isSweptBy 6 (some .boolean) (.code yX11_isSweptBy cX11_isSweptBy 6 (some .boolean) :: ws0) rm mc ms 3 := cwV 3 hts (zz_gV mw_1487 mw_1489 mw_66 mw_110 mc_yX11_isSweptBy) rfl hrc hrs (by decide +kernel) hR
theorem csV_183 {R : Room} {s : State} {args : Array Value} {rm : Room} {mc ms : Nat} (hts : ∀ w ∈ ws0, w.before args s = true) (hrc : rm.cells = mc) (hrs : rm.slots = ms) (hR : rm.frames + 1 ≤ R.frames ∧ 8 + (8 + 11) + rm.locals ≤ R.locals) : CallW R s args "ScaleShopModel" RX11 204 yX11_isInside cX11_isInside 8 (some .boolean) (.code yX11_isInside cX11_isInside 8 (some .boolean) :: ws0) rm mc ms 3 := cwV 3 hts (zz_gV mw_1471 mw_1473 mw_62 mw_110 mc_yX11_isInside) rfl hrc hrs (by decide +kernel) hR
theorem csV_184 {R : Room} {s : State} {args : Array Value} {rm : Room} {mc ms : Nat} (hts : ∀ w ∈ ws0, w.before args s = true) (hrc : rm.cells = mc) (hrs : rm.slots = ms) (hR : rm.frames + 1 ≤ R.frames ∧ 8 + (8 + 11) + rm.locals ≤ R.locals) : CallW R s args "ScaleShopModel" RX11 220 yX11_isSwept cX11_isSwept 8 (some .boolean) (.code yX11_isSwept cX11_isSwept 8 (some .boolean) :: ws0) rm mc ms 3 := cwV 3 hts (zz_gV mw_1494 mw_1496 mw_67 mw_110 mc_yX11_isSwept) rfl hrc hrs (by decide +kernel) hR
theorem csV_185 {R : Room} {s : State} {args : Array Value} {rm : Room} {mc ms : Nat} (hts : ∀ w ∈ ws0, w.before args s = true) (hrc : rm.cells = mc) (hrs : rm.slots = ms) (hR : rm.frames + 1 ≤ R.frames ∧ 8 + (2 + 11) + rm.locals ≤ R.locals) : CallW R s args "ScaleShopModel" RX11 126 yX11_refuse cX11_refuse 2 (some .int) (.code yX11_refuse cX11_refuse 2 (some .int) :: ws0) rm mc ms 1 := cwV 1 hts (zz_gV mw_1329 mw_1331 mw_34 mw_110 mc_yX11_refuse) rfl hrc hrs (by decide +kernel) hR
theorem csV_186 {R : Room} {s : State} {args : Array Value} {rm : Room} {mc ms : Nat} (hts : ∀ w ∈ ws0, w.before args s = true) (hrc : rm.cells = mc) (hrs : rm.slots = ms) (hR : rm.frames + 1 ≤ R.frames ∧ 8 + (5 + 11) + rm.locals ≤ R.locals) : CallW R s args "ScaleShopModel" RX11 207 yX11_arePlaces cX11_arePlaces 5 (some .boolean) (.code yX11_arePlaces cX11_arePlaces 5 (some .boolean) :: ws0) rm mc ms 1 := cwV 1 hts (zz_gV mw_1479 mw_1481 mw_64 mw_110 mc_yX11_arePlaces) rfl hrc hrs (by decide +kernel) hR
theorem csV_187 {R : Room} {s : State} {args : Array Value} {rm : Room} {mc ms : Nat} (hts : ∀ w ∈ ws0, w.before args s = true) (hrc : rm.cells = mc) (hrs : rm.slots = ms) (hR : rm.frames + 1 ≤ R.frames ∧ 8 + (8 + 11) + rm.locals ≤ R.locals) : CallW R s args "ScaleShopModel" RX11 210 yX11_isSimple cX11_isSimple 8 (some .boolean) (.code yX11_isSimple cX11_isSimple 8 (some .boolean) :: ws0) rm mc ms 1 := cwV 1 hts (zz_gV mw_1361 mw_1363 mw_39 mw_110 mc_yX11_isSimple) rfl hrc hrs (by decide +kernel) hR
theorem csV_188 {R : Room} {s : State} {args : Array Value} {rm : Room} {mc ms : Nat} (hts : ∀ w ∈ ws0, w.before args s = true) (hrc : rm.cells = mc) (hrs : rm.slots = ms) (hR : rm.frames + 1 ≤ R.frames ∧ 8 + (8 + 11) + rm.locals ≤ R.locals) : CallW R s args "ScaleShopModel" RX11 213 yX11_isLawfulTo cX11_isLawfulTo 8 (some .boolean) (.code yX11_isLawfulTo cX11_isLawfulTo 8 (some .boolean) :: ws0) rm mc ms 4 := cwV 4 hts (zz_gV mw_1483 mw_1485 mw_65 mw_110 mc_yX11_isLawfulTo) rfl hrc hrs (by decide +kernel) hR
theorem csV_189 {R : Room} {s : State} {args : Array Value} {rm : Room} {mc ms : Nat} (hts : ∀ w ∈ ws0, w.before args s = true) (hrc : rm.cells = mc) (hrs : rm.slots = ms) (hR : rm.frames + 1 ≤ R.frames ∧ 8 + (5 + 11) + rm.locals ≤ R.locals) : CallW R s args "ScaleShopModel" RX11 282 yX11_isHeld cX11_isHeld 5 (some .boolean) (.code yX11_isHeld cX11_isHeld 5 (some .boolean) :: ws0) rm mc ms 3 := cwV 3 hts (zz_gV mw_1443 mw_1445 mw_55 mw_110 mc_yX11_isHeld) rfl hrc hrs (by decide +kernel) hR
theorem csV_190 {R : Room} {s : State} {args : Array Value} {rm : Room} {mc ms : Nat} (hts : ∀ w ∈ ws0, w.before args s = true) (hrc : rm.cells = mc) (hrs : rm.slots = ms) (hR : rm.frames + 1 ≤ R.frames ∧ 8 + (4 + 11) + rm.locals ≤ R.locals) : CallW R s args "ScaleShopModel" RX11 285 yX11_remember cX11_remember 4 none (.code yX11_remember cX11_remember 4 none :: ws0) rm mc ms 1 := cwV 1 hts (zz_gV mw_1463 mw_1465 mw_60 mw_110 mc_yX11_remember) rfl hrc hrs (by decide +kernel) hR
theorem csV_191 {R : Room} {s : State} {args : Array Value} {rm : Room} {mc ms : Nat} (hts : ∀ w ∈ ws0, w.before args s = true) (hrc : rm.cells = mc) (hrs : rm.slots = ms) (hR : rm.frames + 1 ≤ R.frames ∧ 8 + (5 + 11) + rm.locals ≤ R.locals) : CallW R s args "ScaleShopModel" RX11 288 yX11_isLawful cX11_isLawful 5 (some .boolean) (.code yX11_isLawful cX11_isLawful 5 (some .boolean) :: ws0) rm mc ms 3 := cwV 3 hts (zz_gV mw_1475 mw_1477 mw_63 mw_110 mc_yX11_isLawful) rfl hrc hrs (by decide +kernel) hR
theorem csV_192 {R : Room} {s : State} {args : Array Value} {rm : Room} {mc ms : Nat} (hts : ∀ w ∈ ws0, w.before args s = true) (hrc : rm.cells = mc) (hrs : rm.slots = ms) (hR : rm.frames + 1 ≤ R.frames ∧ 8 + (3 + 11) + rm.locals ≤ R.locals) : CallW R s args "ScaleShopModel" RX11 291 yX11_forgetNew cX11_forgetNew 3 none (.code yX11_forgetNew cX11_forgetNew 3 none :: ws0) rm mc ms 1 := cwV 1 hts (zz_gV mw_1518 mw_1520 mw_73 mw_110 mc_yX11_forgetNew) rfl hrc hrs (by decide +kernel) hR
theorem csV_193 {R : Room} {s : State} {args : Array Value} {rm : Room} {mc ms : Nat} (hts : ∀ w ∈ ws0, w.before args s = true) (hrc : rm.cells = mc) (hrs : rm.slots = ms) (hR : rm.frames + 1 ≤ R.frames ∧ 8 + (4 + 11) + rm.locals ≤ R.locals) : CallW R s args "ScaleShopModel" RX11 247 yX11_write cX11_write 4 none (.code yX11_write cX11_write 4 none :: ws0) rm mc ms 1 := cwV 1 hts (zz_gV mw_1427 mw_1429 mw_51 mw_110 mc_yX11_write) rfl hrc hrs (by decide +kernel) hR
theorem csV_194 {R : Room} {s : State} {args : Array Value} {rm : Room} {mc ms : Nat} (hts : ∀ w ∈ ws0, w.before args s = true) (hrc : rm.cells = mc) (hrs : rm.slots = ms) (hR : rm.frames + 1 ≤ R.frames ∧ 8 + (1 + 11) + rm.locals ≤ R.locals) : CallW R s args "ScaleShopModel" RX11 253 yX11_next cX11_next 1 (some .int) (.code yX11_next cX11_next 1 (some .int) :: ws0) rm mc ms 0 := cwV 0 hts (zz_gV mw_1653 mw_1655 mw_96 mw_110 mc_yX11_next) rfl hrc hrs (by decide +kernel) hR
theorem csV_195 {R : Room} {s : State} {args : Array Value} {rm : Room} {mc ms : Nat} (hts : ∀ w ∈ ws0, w.before args s = true) (hrc : rm.cells = mc) (hrs : rm.slots = ms) (hR : rm.frames + 1 ≤ R.frames ∧ 8 + (5 + 11) + rm.locals ≤ R.locals) : CallW R s args "ScaleShopModel" RX11 266 yX11_keep cX11_keep 5 none (.code yX11_keep cX11_keep 5 none :: ws0) rm mc ms 1 := cwV 1 hts (zz_gV mw_1423 mw_1425 mw_50 mw_110 mc_yX11_keep) rfl hrc hrs (by decide +kernel) hR
theorem csV_196 {R : Room} {s : State} {args : Array Value} {rm : Room} {mc ms : Nat} (hts : ∀ w ∈ ws0, w.before args s = true) (hrc : rm.cells = mc) (hrs : rm.slots = ms) (hR : rm.frames + 1 ≤ R.frames ∧ 8 + (6 + 11) + rm.locals ≤ R.locals) : CallW R s args "ScaleShopModel" RX11 269 yX11_begin cX11_begin 6 none (.code yX11_begin cX11_begin 6 none :: ws0) rm mc ms 5 := cwV 5 hts (zz_gV mw_1333 mw_1335 mw_35 mw_110 mc_yX11_begin) rfl hrc hrs (by decide +kernel) hR
theorem csV_197 {R : Room} {s : State} {args : Array Value} {rm : Room} {mc ms : Nat} (hts : ∀ w ∈ ws0, w.before args s = true) (hrc : rm.cells = mc) (hrs : rm.slots = ms) (hR : rm.frames + 1 ≤ R.frames ∧ 8 + (1 + 11) + rm.locals ≤ R.locals) : CallW R s args "ScaleShopModel" RX11 273 yX11_settle cX11_settle 1 none (.code yX11_settle cX11_settle 1 none :: ws0) rm mc ms 0 := cwV 0 hts (zz_gV mw_1337 mw_1339 mw_36 mw_110 mc_yX11_settle) rfl hrc hrs (by decide +kernel) hR
theorem csV_198 {R : Room} {s : State} {args : Array Value} {rm : Room} {mc ms : Nat} (hts : ∀ w ∈ ws0, w.before args s = true) (hrc : rm.cells = mc) (hrs : rm.slots = ms) (hR : rm.frames + 1 ≤ R.frames ∧ 8 + (2 + 11) + rm.locals ≤ R.locals) : CallW R s args "ScaleShopModel" RX11 276 yX11_no cX11_no 2 (some .boolean) (.code yX11_no cX11_no 2 (some .boolean) :: ws0) rm mc ms 1 := cwV 1 hts (zz_gV mw_1353 mw_1355 mw_38 mw_110 mc_yX11_no) rfl hrc hrs (by decide +kernel) hR
theorem csV_199 {R : Room} {s : State} {args : Array Value} {rm : Room} {mc ms : Nat} (hts : ∀ w ∈ ws0, w.before args s = true) (hrc : rm.cells = mc) (hrs : rm.slots = ms) (hR : rm.frames + 1 ≤ R.frames ∧ 8 + (5 + 11) + rm.locals ≤ R.locals) : CallW R s args "ScaleShopModel" RX11 419 yX11_restore cX11_restore 5 none (.code yX11_restore cX11_restore 5 none :: ws0) rm mc ms 1 := cwV 1 hts (zz_gV mw_1649 mw_1651 mw_95 mw_110 mc_yX11_restore) rfl hrc hrs (by decide +kernel) hR
theorem csV_200 {R : Room} {s : State} {args : Array Value} {rm : Room} {mc ms : Nat} (hts : ∀ w ∈ ws0, w.before args s = true) (hrc : rm.cells = mc) (hrs : rm.slots = ms) (hR : rm.frames + 1 ≤ R.frames ∧ 8 + (4 + 11) + rm.locals ≤ R.locals) : CallW R s args "ScaleShopModel" RX11 301 yX11_goes cX11_goes 4 (some .boolean) (.code yX11_goes cX11_goes 4 (some .boolean) :: ws0) rm mc ms 2 := cwV 2 hts (zz_gV mw_1459 mw_1461 mw_59 mw_110 mc_yX11_goes) rfl hrc hrs (by decide +kernel) hR
theorem csV_201 {R : Room} {s : State} {args : Array Value} {rm : Room} {mc ms : Nat} (hts : ∀ w ∈ ws0, w.before args s = true) (hrc : rm.cells = mc) (hrs : rm.slots = ms) (hR : rm.frames + 1 ≤ R.frames ∧ 8 + (11 + 11) + rm.locals ≤ R.locals) : CallW R s args "ScaleShopModel" RX11 304 yX11_lose cX11_lose 11 none (.code yX11_lose cX11_lose 11 none :: ws0) rm mc ms 4 := cwV 4 hts (zz_gV mw_1522 mw_1524 mw_74 mw_110 mc_yX11_lose) rfl hrc hrs (by decide +kernel) hR
theorem csV_202 {R : Room} {s : State} {args : Array Value} {rm : Room} {mc ms : Nat} (hts : ∀ w ∈ ws0, w.before args s = true) (hrc : rm.cells = mc) (hrs : rm.slots = ms) (hR : rm.frames + 1 ≤ R.frames ∧ 8 + (9 + 11) + rm.locals ≤ R.locals) : CallW R s args "ScaleShopModel" RX11 297 yX11_triangle cX11_triangle 9 (some .long) (.code yX11_triangle cX11_triangle 9 (some .long) :: ws0) rm mc ms 2 := cwV 2 hts (zz_gV mw_1455 mw_1457 mw_58 mw_110 mc_yX11_triangle) rfl hrc hrs (by decide +kernel) hR
theorem csV_203 {R : Room} {s : State} {args : Array Value} {rm : Room} {mc ms : Nat} (hts : ∀ w ∈ ws0, w.before args s = true) (hrc : rm.cells = mc) (hrs : rm.slots = ms) (hR : rm.frames + 1 ≤ R.frames ∧ 8 + (3 + 11) + rm.locals ≤ R.locals) : CallW R s args "ScaleShopModel" RX11 294 yX11_mayGo cX11_mayGo 3 (some .boolean) (.code yX11_mayGo cX11_mayGo 3 (some .boolean) :: ws0) rm mc ms 2 := cwV 2 hts (zz_gV mw_1439 mw_1441 mw_54 mw_110 mc_yX11_mayGo) rfl hrc hrs (by decide +kernel) hR
theorem csV_204 {R : Room} {s : State} {args : Array Value} {rm : Room} {mc ms : Nat} (hts : ∀ w ∈ ws0, w.before args s = true) (hrc : rm.cells = mc) (hrs : rm.slots = ms) (hR : rm.frames + 1 ≤ R.frames ∧ 8 + (8 + 11) + rm.locals ≤ R.locals) : CallW R s args "ScaleShopModel" RX11 308 yX11_plain cX11_plain 8 (some .boolean) (.code yX11_plain cX11_plain 8 (some .boolean) :: ws0) rm mc ms 3 := cwV 3 hts (zz_gV mw_1435 mw_1437 mw_53 mw_110 mc_yX11_plain) rfl hrc hrs (by decide +kernel) hR
theorem csV_205 {R : Room} {s : State} {args : Array Value} {rm : Room} {mc ms : Nat} (hts : ∀ w ∈ ws0, w.before args s = true) (hrc : rm.cells = mc) (hrs : rm.slots = ms) (hR : rm.frames + 1 ≤ R.frames ∧ 8 + (1 + 11) + rm.locals ≤ R.locals) : CallW R s args "ScaleShopModel" RX11 322 yX11_begins cX11_begins 1 none (.code yX11_begins cX11_begins 1 none :: ws0) rm mc ms 0 := cwV 0 hts (zz_gV mw_1419 mw_1421 mw_49 mw_110 mc_yX11_begins) rfl hrc hrs (by decide +kernel) hR
theorem csV_206 {R : Room} {s : State} {args : Array Value} {rm : Room} {mc ms : Nat} (hts : ∀ w ∈ ws0, w.before args s = true) (hrc : rm.cells = mc) (hrs : rm.slots = ms) (hR : rm.frames + 1 ≤ R.frames ∧ 8 + (3 + 11) + rm.locals ≤ R.locals) : CallW R s args "ScaleShopModel" RX11 334 yX11_give cX11_give 3 none (.code yX11_give cX11_give 3 none :: ws0) rm mc ms 1 := cwV 1 hts (zz_gV mw_1550 mw_1552 mw_79 mw_110 mc_yX11_give) rfl hrc hrs (by decide +kernel) hR
theorem csV_207 {R : Room} {s : State} {args : Array Value} {rm : Room} {mc ms : Nat} (hts : ∀ w ∈ ws0, w.before args s = true) (hrc : rm.cells = mc) (hrs : rm.slots = ms) (hR : rm.frames + 1 ≤ R.frames ∧ 8 + (4 + 11) + rm.locals ≤ R.locals) : CallW R s args "ScaleShopModel" RX11 328 yX11_squeeze cX11_squeeze 4 none (.code yX11_squeeze cX11_squeeze 4 none :: ws0) rm mc ms 1 := cwV 1 hts (zz_gV mw_1526 mw_1528 mw_75 mw_110 mc_yX11_squeeze) rfl hrc hrs (by decide +kernel) hR
theorem csV_208 {R : Room} {s : State} {args : Array Value} {rm : Room} {mc ms : Nat} (hts : ∀ w ∈ ws0, w.before args s = true) (hrc : rm.cells = mc) (hrs : rm.slots = ms) (hR : rm.frames + 1 ≤ R.frames ∧ 8 + (4 + 11) + rm.locals ≤ R.locals) : CallW R s args "ScaleShopModel" RX11 331 yX11_ends cX11_ends 4 (some .int) (.code yX11_ends cX11_ends 4 (some .int) :: ws0) rm mc ms 3 := cwV 3 hts (zz_gV mw_1530 mw_1532 mw_76 mw_110 mc_yX11_ends) rfl hrc hrs (by decide +kernel) hR
theorem csV_209 {R : Room} {s : State} {args : Array Value} {rm : Room} {mc ms : Nat} (hts : ∀ w ∈ ws0, w.before args s = true) (hrc : rm.cells = mc) (hrs : rm.slots = ms) (hR : rm.frames + 1 ≤ R.frames ∧ 8 + (2 + 11) + rm.locals ≤ R.locals) : CallW R s args "ScaleShopModel" RX11 312 yX11_wrong cX11_wrong 2 (some .int) (.code yX11_wrong cX11_wrong 2 (some .int) :: ws0) rm mc ms 1 := cwV 1 hts (zz_gV mw_1407 mw_1409 mw_46 mw_110 mc_yX11_wrong) rfl hrc hrs (by decide +kernel) hR
theorem csV_210 {R : Room} {s : State} {args : Array Value} {rm : Room} {mc ms : Nat} (hts : ∀ w ∈ ws0, w.before args s = true) (hrc : rm.cells = mc) (hrs : rm.slots = ms) (hR : rm.frames + 1 ≤ R.frames ∧ 8 + (2 + 11) + rm.locals ≤ R.locals) : CallW R s args "ScaleShopModel" RX11 315 yX11_isPlainable cX11_isPlainable 2 (some .boolean) (.code yX11_isPlainable cX11_isPlainable 2 (some .boolean) :: ws0) rm mc ms 1 := cwV 1 hts (zz_gV mw_1411 mw_1413 mw_47 mw_110 mc_yX11_isPlainable) rfl hrc hrs (by decide +kernel) hR
theorem csV_211 {R : Room} {s : State} {args : Array Value} {rm : Room} {mc ms : Nat} (hts : ∀ w ∈ ws0, w.before args s = true) (hrc : rm.cells = mc) (hrs : rm.slots = ms) (hR : rm.frames + 1 ≤ R.frames ∧ 8 + (3 + 11) + rm.locals ≤ R.locals) : CallW R s args "ScaleShopModel" RX11 337 yX11_moves cX11_moves 3 (some .boolean) (.code yX11_moves cX11_moves 3 (some .boolean) :: ws0) rm mc ms 1 := cwV 1 hts (zz_gV mw_1542 mw_1544 mw_77 mw_110 mc_yX11_moves) rfl hrc hrs (by decide +kernel) hR
theorem csV_212 {R : Room} {s : State} {args : Array Value} {rm : Room} {mc ms : Nat} (hts : ∀ w ∈ ws0, w.before args s = true) (hrc : rm.cells = mc) (hrs : rm.slots = ms) (hR : rm.frames + 1 ≤ R.frames ∧ 8 + (5 + 11) + rm.locals ≤ R.locals) : CallW R s args "ScaleShopModel" RX11 340 yX11_changes cX11_changes 5 (some .boolean) (.code yX11_changes cX11_changes 5 (some .boolean) :: ws0) rm mc ms 2 := cwV 2 hts (zz_gV mw_1546 mw_1548 mw_78 mw_110 mc_yX11_changes) rfl hrc hrs (by decide +kernel) hR
theorem csV_213 {R : Room} {s : State} {args : Array Value} {rm : Room} {mc ms : Nat} (hts : ∀ w ∈ ws0, w.before args s = true) (hrc : rm.cells = mc) (hrs : rm.slots = ms) (hR : rm.frames + 1 ≤ R.frames ∧ 8 + (3 + 11) + rm.locals ≤ R.locals) : CallW R s args "ScaleShopModel" RX11 393 yX11_gone cX11_gone 3 none (.code yX11_gone cX11_gone 3 none :: ws0) rm mc ms 2 := cwV 2 hts (zz_gV mw_1604 mw_1606 mw_88 mw_110 mc_yX11_gone) rfl hrc hrs (by decide +kernel) hR
theorem csV_214 {R : Room} {s : State} {args : Array Value} {rm : Room} {mc ms : Nat} (hts : ∀ w ∈ ws0, w.before args s = true) (hrc : rm.cells = mc) (hrs : rm.slots = ms) (hR : rm.frames + 1 ≤ R.frames ∧ 8 + (5 + 11) + rm.locals ≤ R.locals) : CallW R s args "ScaleShopModel" RX11 325 yX11_plainAll cX11_plainAll 5 (some .int) (.code yX11_plainAll cX11_plainAll 5 (some .int) :: ws0) rm mc ms 3 := cwV 3 hts (zz_gV mw_1431 mw_1433 mw_52 mw_110 mc_yX11_plainAll) rfl hrc hrs (by decide +kernel) hR
theorem csV_215 {R : Room} {s : State} {args : Array Value} {rm : Room} {mc ms : Nat} (hts : ∀ w ∈ ws0, w.before args s = true) (hrc : rm.cells = mc) (hrs : rm.slots = ms) (hR : rm.frames + 1 ≤ R.frames ∧ 8 + (9 + 11) + rm.locals ≤ R.locals) : CallW R s args "ScaleShopModel" RX11 318 yX11_tell cX11_tell 9 (some .int) (.code yX11_tell cX11_tell 9 (some .int) :: ws0) rm mc ms 3 := cwV 3 hts (zz_gV mw_1415 mw_1417 mw_48 mw_110 mc_yX11_tell) rfl hrc hrs (by decide +kernel) hR
theorem csV_216 {R : Room} {s : State} {args : Array Value} {rm : Room} {mc ms : Nat} (hts : ∀ w ∈ ws0, w.before args s = true) (hrc : rm.cells = mc) (hrs : rm.slots = ms) (hR : rm.frames + 1 ≤ R.frames ∧ 8 + (5 + 11) + rm.locals ≤ R.locals) : CallW R s args "ScaleShopModel" RX11 343 yX11_wayOf cX11_wayOf 5 (some .int) (.code yX11_wayOf cX11_wayOf 5 (some .int) :: ws0) rm mc ms 3 := cwV 3 hts (zz_gV mw_1558 mw_1560 mw_80 mw_110 mc_yX11_wayOf) rfl hrc hrs (by decide +kernel) hR
theorem csV_217 {R : Room} {s : State} {args : Array Value} {rm : Room} {mc ms : Nat} (hts : ∀ w ∈ ws0, w.before args s = true) (hrc : rm.cells = mc) (hrs : rm.slots = ms) (hR : rm.frames + 1 ≤ R.frames ∧ 8 + (9 + 11) + rm.locals ≤ R.locals) : CallW R s args "ScaleShopModel" RX11 378 yX11_isLess cX11_isLess 9 (some .boolean) (.code yX11_isLess cX11_isLess 9 (some .boolean) :: ws0) rm mc ms 4 := cwV 4 hts (zz_gV mw_1596 mw_1598 mw_86 mw_110 mc_yX11_isLess) rfl hrc hrs (by decide +kernel) hR
theorem csV_218 {R : Room} {s : State} {args : Array Value} {rm : Room} {mc ms : Nat} (hts : ∀ w ∈ ws0, w.before args s = true) (hrc : rm.cells = mc) (hrs : rm.slots = ms) (hR : rm.frames + 1 ≤ R.frames ∧ 8 + (5 + 11) + rm.locals ≤ R.locals) : CallW R s args "ScaleShopModel" RX11 364 yX11_area cX11_area 5 (some .long) (.code yX11_area cX11_area 5 (some .long) :: ws0) rm mc ms 1 := cwV 1 hts (zz_gV mw_1576 mw_1578 mw_82 mw_110 mc_yX11_area) rfl hrc hrs (by decide +kernel) hR
theorem csV_219 {R : Room} {s : State} {args : Array Value} {rm : Room} {mc ms : Nat} (hts : ∀ w ∈ ws0, w.before args s = true) (hrc : rm.cells = mc) (hrs : rm.slots = ms) (hR : rm.frames + 1 ≤ R.frames ∧ 8 + (4 + 11) + rm.locals ≤ R.locals) : CallW R s args "ScaleShopModel" RX11 401 yX11_dropMarked cX11_dropMarked 4 (some .int) (.code yX11_dropMarked cX11_dropMarked 4 (some .int) :: ws0) rm mc ms 1 := cwV 1 hts (zz_gV mw_1621 mw_1623 mw_90 mw_110 mc_yX11_dropMarked) rfl hrc hrs (by decide +kernel) hR
theorem csV_220 {R : Room} {s : State} {args : Array Value} {rm : Room} {mc ms : Nat} (hts : ∀ w ∈ ws0, w.before args s = true) (hrc : rm.cells = mc) (hrs : rm.slots = ms) (hR : rm.frames + 1 ≤ R.frames ∧ 8 + (3 + 11) + rm.locals ≤ R.locals) : CallW R s args "ScaleShopModel" RX11 396 yX11_isSmall cX11_isSmall 3 (some .boolean) (.code yX11_isSmall cX11_isSmall 3 (some .boolean) :: ws0) rm mc ms 2 := cwV 2 hts (zz_gV mw_1616 mw_1618 mw_89 mw_110 mc_yX11_isSmall) rfl hrc hrs (by decide +kernel) hR
theorem csV_221 {R : Room} {s : State} {args : Array Value} {rm : Room} {mc ms : Nat} (hts : ∀ w ∈ ws0, w.before args s = true) (hrc : rm.cells = mc) (hrs : rm.slots = ms) (hR : rm.frames + 1 ≤ R.frames ∧ 8 + (7 + 11) + rm.locals ≤ R.locals) : CallW R s args "ScaleShopModel" RX11 358 yX11_box cX11_box 7 none (.code yX11_box cX11_box 7 none :: ws0) rm mc ms 2 := cwV 2 hts (zz_gV mw_1571 mw_1573 mw_81 mw_110 mc_yX11_box) rfl hrc hrs (by decide +kernel) hR
theorem csV_222 {R : Room} {s : State} {args : Array Value} {rm : Room} {mc ms : Nat} (hts : ∀ w ∈ ws0, w.before args s = true) (hrc : rm.cells = mc) (hrs : rm.slots = ms) (hR : rm.frames + 1 ≤ R.frames ∧ 8 + (3 + 11) + rm.locals ≤ R.locals) : CallW R s args "ScaleShopModel" RX11 368 yX11_layBox cX11_layBox 3 none (.code yX11_layBox cX11_layBox 3 none :: ws0) rm mc ms 1 := cwV 1 hts (zz_gV mw_1580 mw_1582 mw_83 mw_110 mc_yX11_layBox) rfl hrc hrs (by decide +kernel) hR
theorem csV_223 {R : Room} {s : State} {args : Array Value} {rm : Room} {mc ms : Nat} (hts : ∀ w ∈ ws0, w.before args s = true) (hrc : rm.cells = mc) (hrs : rm.slots = ms) (hR : rm.frames + 1 ≤ R.frames ∧ 8 + (5 + 11) + rm.locals ≤ R.locals) : CallW R s args "ScaleShopModel" RX11 407 yX11_lengthOf cX11_lengthOf 5 (some .long) (.code yX11_lengthOf cX11_lengthOf 5 (some .long) :: ws0) rm mc ms 1 := cwV 1 hts (zz_gV mw_1637 mw_1639 mw_93 mw_110 mc_yX11_lengthOf) rfl hrc hrs (by decide +kernel) hR
theorem csV_224 {R : Room} {s : State} {args : Array Value} {rm : Room} {mc ms : Nat} (hts : ∀ w ∈ ws0, w.before args s = true) (hrc : rm.cells = mc) (hrs : rm.slots = ms) (hR : rm.frames + 1 ≤ R.frames ∧ 8 + (7 + 11) + rm.locals ≤ R.locals) : CallW R s args "ScaleShopModel" RX11 386 yX11_plainFraction cX11_plainFraction 7 none (.code yX11_plainFraction cX11_plainFraction 7 none :: ws0) rm mc ms 0 := cwV 0 hts (zz_gV mw_1600 mw_1602 mw_87 mw_110 mc_yX11_plainFraction) rfl hrc hrs (by decide +kernel) hR
theorem csV_225 {R : Room} {s : State} {args : Array Value} {rm : Room} {mc ms : Nat} (hts : ∀ w ∈ ws0, w.before args s = true) (hrc : rm.cells = mc) (hrs : rm.slots = ms) (hR : rm.frames + 1 ≤ R.frames ∧ 8 + (23 + 11) + rm.locals ≤ R.locals) : CallW R s args "ScaleShopModel" RX11 382 yX11_nearer cX11_nearer 23 none (.code yX11_nearer cX11_nearer 23 none :: ws0) rm mc ms 4 := cwV 4 hts (zz_gV mw_1592 mw_1594 mw_85 mw_110 mc_yX11_nearer) rfl hrc hrs (by decide +kernel) hR
theorem csV_226 {R : Room} {s : State} {args : Array Value} {rm : Room} {mc ms : Nat} (hts : ∀ w ∈ ws0, w.before args s = true) (hrc : rm.cells = mc) (hrs : rm.slots = ms) (hR : rm.frames + 1 ≤ R.frames ∧ 8 + (5 + 11) + rm.locals ≤ R.locals) : CallW R s args "ScaleShopModel" RX11 389 yX11_distance cX11_distance 5 none (.code yX11_distance cX11_distance 5 none :: ws0) rm mc ms 2 := cwV 2 hts (zz_gV mw_1588 mw_1590 mw_84 mw_110 mc_yX11_distance) rfl hrc hrs (by decide +kernel) hR
theorem csV_227 {R : Room} {s : State} {args : Array Value} {rm : Room} {mc ms : Nat} (hts : ∀ w ∈ ws0, w.before args s = true) (hrc : rm.cells = mc) (hrs : rm.slots = ms) (hR : rm.frames + 1 ≤ R.frames ∧ 8 + (4 + 11) + rm.locals ≤ R.locals) : CallW R s args "ScaleShopModel" RX11 416 yX11_placeOf cX11_placeOf 4 (some .int) (.code yX11_placeOf cX11_placeOf 4 (some .int) :: ws0) rm mc ms 2 := cwV 2 hts (zz_gV mw_1641 mw_1643 mw_94 mw_110 mc_yX11_placeOf) rfl hrc hrs (by decide +kernel) hR
theorem csV_228 {R : Room} {s : State} {args : Array Value} {rm : Room} {mc ms : Nat} (hts : ∀ w ∈ ws0, w.before args s = true) (hrc : rm.cells = mc) (hrs : rm.slots = ms) (hR : rm.frames + 1 ≤ R.frames ∧ 8 + (2 + 11) + rm.locals ≤ R.locals) : CallW R s args "ScaleShopModel" RX11 413 yX11_weight cX11_weight 2 (some .long) (.code yX11_weight cX11_weight 2 (some .long) :: ws0) rm mc ms 1 := cwV 1 hts (zz_gV mw_1633 mw_1635 mw_92 mw_110 mc_yX11_weight) rfl hrc hrs (by decide +kernel) hR
theorem csV_229 {R : Room} {s : State} {args : Array Value} {rm : Room} {mc ms : Nat} (hts : ∀ w ∈ ws0, w.before args s = true) (hrc : rm.cells = mc) (hrs : rm.slots = ms) (hR : rm.frames + 1 ≤ R.frames ∧ 8 + (2 + 11) + rm.locals ≤ R.locals) : CallW R s args "ScaleShopModel" RX11 410 yX11_isRoad cX11_isRoad 2 (some .boolean) (.code yX11_isRoad cX11_isRoad 2 (some .boolean) :: ws0) rm mc ms 1 := cwV 1 hts (zz_gV mw_1629 mw_1631 mw_91 mw_110 mc_yX11_isRoad) rfl hrc hrs (by decide +kernel) hR
theorem csV_230 {R : Room} {s : State} {args : Array Value} {rm : Room} {mc ms : Nat} (hts : ∀ w ∈ ws0, w.before args s = true) (hrc : rm.cells = mc) (hrs : rm.slots = ms) (hR : rm.frames + 1 ≤ R.frames ∧ 8 + (6 + 11) + rm.locals ≤ R.locals) : CallW R s args "ScaleShopModel" RX11 424 yX11_isClash cX11_isClash 6 (some .boolean) (.code yX11_isClash cX11_isClash 6 (some .boolean) :: ws0) rm mc ms 3 := cwV 3 hts (zz_gV mw_1681 mw_1683 mw_97 mw_110 mc_yX11_isClash) rfl hrc hrs (by decide +kernel) hR
theorem csV_231 {R : Room} {s : State} {args : Array Value} {rm : Room} {mc ms : Nat} (hts : ∀ w ∈ ws0, w.before args s = true) (hrc : rm.cells = mc) (hrs : rm.slots = ms) (hR : rm.frames + 1 ≤ R.frames ∧ 8 + (6 + 11) + rm.locals ≤ R.locals) : CallW R s args "ScaleShopLaw" RX10 18 yX10_corner cX10_corner 6 (some .int) (.code yX10_corner cX10_corner 6 (some .int) :: ws0) rm mc ms 3 := cwV 3 hts (zz_gV mw_494 mw_495 mw_496 mw_99 mc_yX10_corner) rfl hrc hrs (by decide +kernel) hR
theorem csV_232 {R : Room} {s : State} {args : Array Value} {rm : Room} {mc ms : Nat} (hts : ∀ w ∈ ws0, w.before args s = true) (hrc : rm.cells = mc) (hrs : rm.slots = ms) (hR : rm.frames + 1 ≤ R.frames ∧ 8 + (4 + 11) + rm.locals ≤ R.locals) : CallW R s args "ScaleShopLaw" RX11 22 yX11_corner cX11_corner 4 (some .int) (.code yX11_corner cX11_corner 4 (some .int) :: ws0) rm mc ms 3 := cwV 3 hts (zz_gV mw_1341 mw_1342 mw_1343 mw_110 mc_yX11_corner) rfl hrc hrs (by decide +kernel) hR
theorem csV_233 {R : Room} {s : State} {args : Array Value} {rm : Room} {mc ms : Nat} (hts : ∀ w ∈ ws0, w.before args s = true) (hrc : rm.cells = mc) (hrs : rm.slots = ms) (hR : rm.frames + 1 ≤ R.frames ∧ 8 + (3 + 11) + rm.locals ≤ R.locals) : CallW R s args "ScaleShopLaw" RX10 23 yX10_tear cX10_tear 3 (some .boolean) (.code yX10_tear cX10_tear 3 (some .boolean) :: ws0) rm mc ms 1 := cwV 1 hts (zz_gV mw_509 mw_510 mw_511 mw_99 mc_yX10_tear) rfl hrc hrs (by decide +kernel) hR
theorem csV_234 {R : Room} {s : State} {args : Array Value} {rm : Room} {mc ms : Nat} (hts : ∀ w ∈ ws0, w.before args s = true) (hrc : rm.cells = mc) (hrs : rm.slots = ms) (hR : rm.frames + 1 ≤ R.frames ∧ 8 + (2 + 11) + rm.locals ≤ R.locals) : CallW R s args "ScaleShopLaw" RX11 27 yX11_tear cX11_tear 2 (some .boolean) (.code yX11_tear cX11_tear 2 (some .boolean) :: ws0) rm mc ms 1 := cwV 1 hts (zz_gV mw_1349 mw_1350 mw_1351 mw_110 mc_yX11_tear) rfl hrc hrs (by decide +kernel) hR
theorem csV_235 {R : Room} {s : State} {args : Array Value} {rm : Room} {mc ms : Nat} (hts : ∀ w ∈ ws0, w.before args s = true) (hrc : rm.cells = mc) (hrs : rm.slots = ms) (hR : rm.frames + 1 ≤ R.frames ∧ 8 + (4 + 11) + rm.locals ≤ R.locals) : CallW R s args "ScaleShopLaw" RX10 28 yX10_done cX10_done 4 (some .boolean) (.code yX10_done cX10_done 4 (some .boolean) :: ws0) rm mc ms 1 := cwV 1 hts (zz_gV mw_517 mw_518 mw_519 mw_99 mc_yX10_done) rfl hrc hrs (by decide +kernel) hR
theorem csV_236 {R : Room} {s : State} {args : Array Value} {rm : Room} {mc ms : Nat} (hts : ∀ w ∈ ws0, w.before args s = true) (hrc : rm.cells = mc) (hrs : rm.slots = ms) (hR : rm.frames + 1 ≤ R.frames ∧ 8 + (2 + 11) + rm.locals ≤ R.locals) : CallW R s args "ScaleShopLaw" RX11 31 yX11_done cX11_done 2 (some .boolean) (.code yX11_done cX11_done 2 (some .boolean) :: ws0) rm mc ms 1 := cwV 1 hts (zz_gV mw_1357 mw_1358 mw_1359 mw_110 mc_yX11_done) rfl hrc hrs (by decide +kernel) hR
theorem csV_237 {R : Room} {s : State} {args : Array Value} {rm : Room} {mc ms : Nat} (hts : ∀ w ∈ ws0, w.before args s = true) (hrc : rm.cells = mc) (hrs : rm.slots = ms) (hR : rm.frames + 1 ≤ R.frames ∧ 8 + (5 + 11) + rm.locals ≤ R.locals) : CallW R s args "ScaleShopLaw" RX10 32 yX10_plainer cX10_plainer 5 (some .int) (.code yX10_plainer cX10_plainer 5 (some .int) :: ws0) rm mc ms 2 := cwV 2 hts (zz_gV mw_560 mw_561 mw_562 mw_99 mc_yX10_plainer) rfl hrc hrs (by decide +kernel) hR
theorem csV_238 {R : Room} {s : State} {args : Array Value} {rm : Room} {mc ms : Nat} (hts : ∀ w ∈ ws0, w.before args s = true) (hrc : rm.cells = mc) (hrs : rm.slots = ms) (hR : rm.frames + 1 ≤ R.frames ∧ 8 + (4 + 11) + rm.locals ≤ R.locals) : CallW R s args "ScaleShopLaw" RX11 36 yX11_plainer cX11_plainer 4 (some .int) (.code yX11_plainer cX11_plainer 4 (some .int) :: ws0) rm mc ms 2 := cwV 2 hts (zz_gV mw_1403 mw_1404 mw_1405 mw_110 mc_yX11_plainer) rfl hrc hrs (by decide +kernel) hR
theorem csV_239 {R : Room} {s : State} {args : Array Value} {rm : Room} {mc ms : Nat} (hts : ∀ w ∈ ws0, w.before args s = true) (hrc : rm.cells = mc) (hrs : rm.slots = ms) (hR : rm.frames + 1 ≤ R.frames ∧ 8 + (4 + 11) + rm.locals ≤ R.locals) : CallW R s args "ScaleShopLaw" RX10 37 yX10_smooth cX10_smooth 4 (some .boolean) (.code yX10_smooth cX10_smooth 4 (some .boolean) :: ws0) rm mc ms 1 := cwV 1 hts (zz_gV mw_863 mw_864 mw_865 mw_99 mc_yX10_smooth) rfl hrc hrs (by decide +kernel) hR
theorem csV_240 {R : Room} {s : State} {args : Array Value} {rm : Room} {mc ms : Nat} (hts : ∀ w ∈ ws0, w.before args s = true) (hrc : rm.cells = mc) (hrs : rm.slots = ms) (hR : rm.frames + 1 ≤ R.frames ∧ 8 + (6 + 11) + rm.locals ≤ R.locals) : CallW R s args "ScaleShopLaw" RX11 40 yX11_smooth cX11_smooth 6 (some .boolean) (.code yX11_smooth cX11_smooth 6 (some .boolean) :: ws0) rm mc ms 1 := cwV 1 hts (zz_gV mw_1538 mw_1539 mw_1540 mw_110 mc_yX11_smooth) rfl hrc hrs (by decide +kernel) hR
theorem csV_241 {R : Room} {s : State} {args : Array Value} {rm : Room} {mc ms : Nat} (hts : ∀ w ∈ ws0, w.before args s = true) (hrc : rm.cells = mc) (hrs : rm.slots = ms) (hR : rm.frames + 1 ≤ R.frames ∧ 8 + (8 + 11) + rm.locals ≤ R.locals) : CallW R s args "ScaleShopLaw" RX10 41 yX10_shift cX10_shift 8 (some .boolean) (.code yX10_shift cX10_shift 8 (some .boolean) :: ws0) rm mc ms 5 := cwV 5 hts (zz_gV mw_882 mw_883 mw_884 mw_99 mc_yX10_shift) rfl hrc hrs (by decide +kernel) hR
theorem csV_242 {R : Room} {s : State} {args : Array Value} {rm : Room} {mc ms : Nat} (hts : ∀ w ∈ ws0, w.before args s = true) (hrc : rm.cells = mc) (hrs : rm.slots = ms) (hR : rm.frames + 1 ≤ R.frames ∧ 8 + (13 + 11) + rm.locals ≤ R.locals) : CallW R s args "ScaleShopLaw" RX11 45 yX11_shift cX11_shift 13 (some .boolean) (.code yX11_shift cX11_shift 13 (some .boolean) :: ws0) rm mc ms 5 := cwV 5 hts (zz_gV mw_1554 mw_1555 mw_1556 mw_110 mc_yX11_shift) rfl hrc hrs (by decide +kernel) hR
theorem csV_243 {R : Room} {s : State} {args : Array Value} {rm : Room} {mc ms : Nat} (hts : ∀ w ∈ ws0, w.before args s = true) (hrc : rm.cells = mc) (hrs : rm.slots = ms) (hR : rm.frames + 1 ≤ R.frames ∧ 8 + (4 + 11) + rm.locals ≤ R.locals) : CallW R s args "ScaleShopLaw" RX10 46 yX10_grow cX10_grow 4 (some .boolean) (.code yX10_grow cX10_grow 4 (some .boolean) :: ws0) rm mc ms 1 := cwV 1 hts (zz_gV mw_900 mw_901 mw_902 mw_99 mc_yX10_grow) rfl hrc hrs (by decide +kernel) hR
theorem csV_244 {R : Room} {s : State} {args : Array Value} {rm : Room} {mc ms : Nat} (hts : ∀ w ∈ ws0, w.before args s = true) (hrc : rm.cells = mc) (hrs : rm.slots = ms) (hR : rm.frames + 1 ≤ R.frames ∧ 8 + (4 + 11) + rm.locals ≤ R.locals) : CallW R s args "ScaleShopLaw" RX11 49 yX11_grow cX11_grow 4 (some .boolean) (.code yX11_grow cX11_grow 4 (some .boolean) :: ws0) rm mc ms 1 := cwV 1 hts (zz_gV mw_1563 mw_1564 mw_1565 mw_110 mc_yX11_grow) rfl hrc hrs (by decide +kernel) hR
theorem csV_245 {R : Room} {s : State} {args : Array Value} {rm : Room} {mc ms : Nat} (hts : ∀ w ∈ ws0, w.before args s = true) (hrc : rm.cells = mc) (hrs : rm.slots = ms) (hR : rm.frames + 1 ≤ R.frames ∧ 8 + (5 + 11) + rm.locals ≤ R.locals) : CallW R s args "ScaleShopLaw" RX10 50 yX10_square cX10_square 5 (some .boolean) (.code yX10_square cX10_square 5 (some .boolean) :: ws0) rm mc ms 2 := cwV 2 hts (zz_gV mw_908 mw_909 mw_910 mw_99 mc_yX10_square) rfl hrc hrs (by decide +kernel) hR
theorem csV_246 {R : Room} {s : State} {args : Array Value} {rm : Room} {mc ms : Nat} (hts : ∀ w ∈ ws0, w.before args s = true) (hrc : rm.cells = mc) (hrs : rm.slots = ms) (hR : rm.frames + 1 ≤ R.frames ∧ 8 + (6 + 11) + rm.locals ≤ R.locals) : CallW R s args "ScaleShopLaw" RX11 54 yX11_square cX11_square 6 (some .boolean) (.code yX11_square cX11_square 6 (some .boolean) :: ws0) rm mc ms 2 := cwV 2 hts (zz_gV mw_1567 mw_1568 mw_1569 mw_110 mc_yX11_square) rfl hrc hrs (by decide +kernel) hR
theorem csV_247 {R : Room} {s : State} {args : Array Value} {rm : Room} {mc ms : Nat} (hts : ∀ w ∈ ws0, w.before args s = true) (hrc : rm.cells = mc) (hrs : rm.slots = ms) (hR : rm.frames + 1 ≤ R.frames ∧ 8 + (3 + 11) + rm.locals ≤ R.locals) : CallW R s args "ScaleShopLaw" RX10 59 yX10_drop cX10_drop 3 (some .boolean) (.code yX10_drop cX10_drop 3 (some .boolean) :: ws0) rm mc ms 1 := cwV 1 hts (zz_gV mw_971 mw_972 mw_973 mw_99 mc_yX10_drop) rfl hrc hrs (by decide +kernel) hR
theorem csV_248 {R : Room} {s : State} {args : Array Value} {rm : Room} {mc ms : Nat} (hts : ∀ w ∈ ws0, w.before args s = true) (hrc : rm.cells = mc) (hrs : rm.slots = ms) (hR : rm.frames + 1 ≤ R.frames ∧ 8 + (4 + 11) + rm.locals ≤ R.locals) : CallW R s args "ScaleShopLaw" RX11 62 yX11_drop cX11_drop 4 (some .boolean) (.code yX11_drop cX11_drop 4 (some .boolean) :: ws0) rm mc ms 1 := cwV 1 hts (zz_gV mw_1608 mw_1609 mw_1610 mw_110 mc_yX11_drop) rfl hrc hrs (by decide +kernel) hR
theorem csV_249 {R : Room} {s : State} {args : Array Value} {rm : Room} {mc ms : Nat} (hts : ∀ w ∈ ws0, w.before args s = true) (hrc : rm.cells = mc) (hrs : rm.slots = ms) (hR : rm.frames + 1 ≤ R.frames ∧ 8 + (6 + 11) + rm.locals ≤ R.locals) : CallW R s args "ScaleShopLaw" RX10 13 yX10_feature cX10_feature 6 (some .int) (.code yX10_feature cX10_feature 6 (some .int) :: ws0) rm mc ms 4 := cwV 4 hts (zz_gV mw_349 mw_350 mw_351 mw_99 mc_yX10_feature) rfl hrc hrs (by decide +kernel) hR
theorem csV_250 {R : Room} {s : State} {args : Array Value} {rm : Room} {mc ms : Nat} (hts : ∀ w ∈ ws0, w.before args s = true) (hrc : rm.cells = mc) (hrs : rm.slots = ms) (hR : rm.frames + 1 ≤ R.frames ∧ 8 + (6 + 11) + rm.locals ≤ R.locals) : CallW R s args "ScaleShopLaw" RX11 17 yX11_feature cX11_feature 6 (some .int) (.code yX11_feature cX11_feature 6 (some .int) :: ws0) rm mc ms 4 := cwV 4 hts (zz_gV mw_1325 mw_1326 mw_1327 mw_110 mc_yX11_feature) rfl hrc hrs (by decide +kernel) hR
theorem csV_251 {R : Room} {s : State} {args : Array Value} {rm : Room} {mc ms : Nat} (hts : ∀ w ∈ ws0, w.before args s = true) (hrc : rm.cells = mc) (hrs : rm.slots = ms) (hR : rm.frames + 1 ≤ R.frames ∧ 8 + (2 + 11) + rm.locals ≤ R.locals) : CallW R s args "ScaleShopLaw" RX10 77 yX10_undo cX10_undo 2 (some .int) (.code yX10_undo cX10_undo 2 (some .int) :: ws0) rm mc ms 0 := cwV 0 hts (zz_gV mw_1028 mw_1029 mw_1030 mw_99 mc_yX10_undo) rfl hrc hrs (by decide +kernel) hR
theorem csV_252 {R : Room} {s : State} {args : Array Value} {rm : Room} {mc ms : Nat} (hts : ∀ w ∈ ws0, w.before args s = true) (hrc : rm.cells = mc) (hrs : rm.slots = ms) (hR : rm.frames + 1 ≤ R.frames ∧ 8 + (1 + 11) + rm.locals ≤ R.locals) : CallW R s args "ScaleShopLaw" RX11 80 yX11_undo cX11_undo 1 (some .int) (.code yX11_undo cX11_undo 1 (some .int) :: ws0) rm mc ms 0 := cwV 0 hts (zz_gV mw_1645 mw_1646 mw_1647 mw_110 mc_yX11_undo) rfl hrc hrs (by decide +kernel) hR
theorem csV_253 {R : Room} {s : State} {args : Array Value} {rm : Room} {mc ms : Nat} (hts : ∀ w ∈ ws0, w.before args s = true) (hrc : rm.cells = mc) (hrs : rm.slots = ms) (hR : rm.frames + 1 ≤ R.frames ∧ 8 + (2 + 11) + rm.locals ≤ R.locals) : CallW R s args "ScaleShopLaw" RX10 81 yX10_redo cX10_redo 2 (some .int) (.code yX10_redo cX10_redo 2 (some .int) :: ws0) rm mc ms 0 := cwV 0 hts (zz_gV mw_1049 mw_1050 mw_1051 mw_99 mc_yX10_redo) rfl hrc hrs (by decide +kernel) hR
theorem csV_254 {R : Room} {s : State} {args : Array Value} {rm : Room} {mc ms : Nat} (hts : ∀ w ∈ ws0, w.before args s = true) (hrc : rm.cells = mc) (hrs : rm.slots = ms) (hR : rm.frames + 1 ≤ R.frames ∧ 8 + (1 + 11) + rm.locals ≤ R.locals) : CallW R s args "ScaleShopLaw" RX11 84 yX11_redo cX11_redo 1 (some .int) (.code yX11_redo cX11_redo 1 (some .int) :: ws0) rm mc ms 0 := cwV 0 hts (zz_gV mw_1657 mw_1658 mw_1659 mw_110 mc_yX11_redo) rfl hrc hrs (by decide +kernel) hR
theorem csV_255 {R : Room} {s : State} {args : Array Value} {rm : Room} {mc ms : Nat} (hts : ∀ w ∈ ws0, w.before args s = true) (hrc : rm.cells = mc) (hrs : rm.slots = ms) (hR : rm.frames + 1 ≤ R.frames ∧ 8 + (6 + 11) + rm.locals ≤ R.locals) : CallW R s args "ScaleShopLaw" RX10 63 yX10_few cX10_few 6 (some .int) (.code yX10_few cX10_few 6 (some .int) :: ws0) rm mc ms 2 := cwV 2 hts (zz_gV mw_975 mw_976 mw_977 mw_99 mc_yX10_few) rfl hrc hrs (by decide +kernel) hR
theorem csV_256 {R : Room} {s : State} {args : Array Value} {rm : Room} {mc ms : Nat} (hts : ∀ w ∈ ws0, w.before args s = true) (hrc : rm.cells = mc) (hrs : rm.slots = ms) (hR : rm.frames + 1 ≤ R.frames ∧ 8 + (9 + 11) + rm.locals ≤ R.locals) : CallW R s args "ScaleShopLaw" RX11 66 yX11_few cX11_few 9 (some .int) (.code yX11_few cX11_few 9 (some .int) :: ws0) rm mc ms 2 := cwV 2 hts (zz_gV mw_1612 mw_1613 mw_1614 mw_110 mc_yX11_few) rfl hrc hrs (by decide +kernel) hR
theorem csV_257 {R : Room} {s : State} {args : Array Value} {rm : Room} {mc ms : Nat} (hts : ∀ w ∈ ws0, w.before args s = true) (hrc : rm.cells = mc) (hrs : rm.slots = ms) (hR : rm.frames + 1 ≤ R.frames ∧ 8 + (2 + 11) + rm.locals ≤ R.locals) : CallW R s args "ScaleShopLaw" RX10 67 yX10_choose cX10_choose 2 (some .int) (.code yX10_choose cX10_choose 2 (some .int) :: ws0) rm mc ms 0 := cwV 0 hts (zz_gV mw_992 mw_993 mw_994 mw_99 mc_yX10_choose) rfl hrc hrs (by decide +kernel) hR
theorem csV_258 {R : Room} {s : State} {args : Array Value} {rm : Room} {mc ms : Nat} (hts : ∀ w ∈ ws0, w.before args s = true) (hrc : rm.cells = mc) (hrs : rm.slots = ms) (hR : rm.frames + 1 ≤ R.frames ∧ 8 + (7 + 11) + rm.locals ≤ R.locals) : CallW R s args "ScaleShopLaw" RX11 71 yX11_choose cX11_choose 7 (some .int) (.code yX11_choose cX11_choose 7 (some .int) :: ws0) rm mc ms 0 := cwV 0 hts (zz_gV mw_1625 mw_1626 mw_1627 mw_110 mc_yX11_choose) rfl hrc hrs (by decide +kernel) hR
theorem csV_259 {R : Room} {s : State} {args : Array Value} {rm : Room} {mc ms : Nat} (hts : ∀ w ∈ ws0, w.before args s = true) (hrc : rm.cells = mc) (hrs : rm.slots = ms) (hR : rm.frames + 1 ≤ R.frames ∧ 8 + (7 + 11) + rm.locals ≤ R.locals) : CallW R s args "ScaleShopLaw" RX10 72 yX10_run cX10_run 7 (some .int) (.code yX10_run cX10_run 7 (some .int) :: ws0) rm mc ms 1 := cwV 1 hts (zz_gV mw_1023 mw_1024 mw_1025 mw_99 mc_yX10_run) rfl hrc hrs (by decide +kernel) hR
theorem csV_260 {R : Room} {s : State} {args : Array Value} {rm : Room} {mc ms : Nat} (hts : ∀ w ∈ ws0, w.before args s = true) (hrc : rm.cells = mc) (hrs : rm.slots = ms) (hR : rm.frames + 1 ≤ R.frames ∧ 8 + (2 + 11) + rm.locals ≤ R.locals) : CallW R s args "ScaleShopLaw" RX11 76 yX11_run cX11_run 2 (some .int) (.code yX11_run cX11_run 2 (some .int) :: ws0) rm mc ms 1 := cwV 1 hts (zz_gV mw_1534 mw_1535 mw_1536 mw_110 mc_yX11_run) rfl hrc hrs (by decide +kernel) hR
theorem csV_261 {R : Room} {s : State} {args : Array Value} {rm : Room} {mc ms : Nat} (hts : ∀ w ∈ ws0, w.before args s = true) (hrc : rm.cells = mc) (hrs : rm.slots = ms) (hR : rm.frames + 1 ≤ R.frames ∧ 8 + (8 + 11) + rm.locals ≤ R.locals) : CallW R s args "ScaleShopLaw" RX10 55 yX10_join cX10_join 8 (some .int) (.code yX10_join cX10_join 8 (some .int) :: ws0) rm mc ms 3 := cwV 3 hts (zz_gV mw_921 mw_922 mw_923 mw_99 mc_yX10_join) rfl hrc hrs (by decide +kernel) hR
theorem csV_262 {R : Room} {s : State} {args : Array Value} {rm : Room} {mc ms : Nat} (hts : ∀ w ∈ ws0, w.before args s = true) (hrc : rm.cells = mc) (hrs : rm.slots = ms) (hR : rm.frames + 1 ≤ R.frames ∧ 8 + (9 + 11) + rm.locals ≤ R.locals) : CallW R s args "ScaleShopLaw" RX11 58 yX11_join cX11_join 9 (some .int) (.code yX11_join cX11_join 9 (some .int) :: ws0) rm mc ms 3 := cwV 3 hts (zz_gV mw_1584 mw_1585 mw_1586 mw_110 mc_yX11_join) rfl hrc hrs (by decide +kernel) hR
theorem csV_263 {R : Room} {s : State} {args : Array Value} {rm : Room} {mc ms : Nat} (hts : ∀ w ∈ ws0, w.before args s = true) (hrc : rm.cells = mc) (hrs : rm.slots = ms) (hR : rm.frames + 1 ≤ R.frames ∧ 8 + (5 + 11) + rm.locals ≤ R.locals) : CallW R s args "ScaleShopLaw" RX10 89 yX10_inside cX10_inside 5 (some .int) (.code yX10_inside cX10_inside 5 (some .int) :: ws0) rm mc ms 3 := cwV 3 hts (zz_gV mw_1062 mw_1063 mw_1064 mw_99 mc_yX10_inside) rfl hrc hrs (by decide +kernel) hR
theorem csV_264 {R : Room} {s : State} {args : Array Value} {rm : Room} {mc ms : Nat} (hts : ∀ w ∈ ws0, w.before args s = true) (hrc : rm.cells = mc) (hrs : rm.slots = ms) (hR : rm.frames + 1 ≤ R.frames ∧ 8 + (4 + 11) + rm.locals ≤ R.locals) : CallW R s args "ScaleShopLaw" RX11 92 yX11_inside cX11_inside 4 (some .int) (.code yX11_inside cX11_inside 4 (some .int) :: ws0) rm mc ms 3 := cwV 3 hts (zz_gV mw_1665 mw_1666 mw_1667 mw_110 mc_yX11_inside) rfl hrc hrs (by decide +kernel) hR
theorem csV_265 {R : Room} {s : State} {args : Array Value} {rm : Room} {mc ms : Nat} (hts : ∀ w ∈ ws0, w.before args s = true) (hrc : rm.cells = mc) (hrs : rm.slots = ms) (hR : rm.frames + 1 ≤ R.frames ∧ 8 + (8 + 11) + rm.locals ≤ R.locals) : CallW R s args "ScaleShopLaw" RX10 93 yX10_side cX10_side 8 (some .int) (.code yX10_side cX10_side 8 (some .int) :: ws0) rm mc ms 4 := cwV 4 hts (zz_gV mw_1067 mw_1068 mw_1069 mw_99 mc_yX10_side) rfl hrc hrs (by decide +kernel) hR
theorem csV_266 {R : Room} {s : State} {args : Array Value} {rm : Room} {mc ms : Nat} (hts : ∀ w ∈ ws0, w.before args s = true) (hrc : rm.cells = mc) (hrs : rm.slots = ms) (hR : rm.frames + 1 ≤ R.frames ∧ 8 + (6 + 11) + rm.locals ≤ R.locals) : CallW R s args "ScaleShopLaw" RX11 96 yX11_side cX11_side 6 (some .int) (.code yX11_side cX11_side 6 (some .int) :: ws0) rm mc ms 4 := cwV 4 hts (zz_gV mw_1669 mw_1670 mw_1671 mw_110 mc_yX11_side) rfl hrc hrs (by decide +kernel) hR
theorem csV_267 {R : Room} {s : State} {args : Array Value} {rm : Room} {mc ms : Nat} (hts : ∀ w ∈ ws0, w.before args s = true) (hrc : rm.cells = mc) (hrs : rm.slots = ms) (hR : rm.frames + 1 ≤ R.frames ∧ 8 + (6 + 11) + rm.locals ≤ R.locals) : CallW R s args "ScaleShopLaw" RX10 110 yX10_far cX10_far 6 (some .long) (.code yX10_far cX10_far 6 (some .long) :: ws0) rm mc ms 2 := cwV 2 hts (zz_gV mw_1105 mw_1106 mw_1107 mw_99 mc_yX10_far) rfl hrc hrs (by decide +kernel) hR
theorem csV_268 {R : Room} {s : State} {args : Array Value} {rm : Room} {mc ms : Nat} (hts : ∀ w ∈ ws0, w.before args s = true) (hrc : rm.cells = mc) (hrs : rm.slots = ms) (hR : rm.frames + 1 ≤ R.frames ∧ 8 + (9 + 11) + rm.locals ≤ R.locals) : CallW R s args "ScaleShopLaw" RX11 114 yX11_far cX11_far 9 (some .long) (.code yX11_far cX11_far 9 (some .long) :: ws0) rm mc ms 2 := cwV 2 hts (zz_gV mw_1690 mw_1691 mw_1692 mw_110 mc_yX11_far) rfl hrc hrs (by decide +kernel) hR
theorem csV_269 {R : Room} {s : State} {args : Array Value} {rm : Room} {mc ms : Nat} (hts : ∀ w ∈ ws0, w.before args s = true) (hrc : rm.cells = mc) (hrs : rm.slots = ms) (hR : rm.frames + 1 ≤ R.frames ∧ 8 + (3 + 11) + rm.locals ≤ R.locals) : CallW R s args "ScaleShopLaw" RX10 115 yX10_size cX10_size 3 (some .long) (.code yX10_size cX10_size 3 (some .long) :: ws0) rm mc ms 1 := cwV 1 hts (zz_gV mw_1116 mw_1117 mw_1118 mw_99 mc_yX10_size) rfl hrc hrs (by decide +kernel) hR
theorem csV_270 {R : Room} {s : State} {args : Array Value} {rm : Room} {mc ms : Nat} (hts : ∀ w ∈ ws0, w.before args s = true) (hrc : rm.cells = mc) (hrs : rm.slots = ms) (hR : rm.frames + 1 ≤ R.frames ∧ 8 + (2 + 11) + rm.locals ≤ R.locals) : CallW R s args "ScaleShopLaw" RX11 119 yX11_size cX11_size 2 (some .long) (.code yX11_size cX11_size 2 (some .long) :: ws0) rm mc ms 1 := cwV 1 hts (zz_gV mw_1694 mw_1695 mw_1696 mw_110 mc_yX11_size) rfl hrc hrs (by decide +kernel) hR
theorem csV_271 {R : Room} {s : State} {args : Array Value} {rm : Room} {mc ms : Nat} (hts : ∀ w ∈ ws0, w.before args s = true) (hrc : rm.cells = mc) (hrs : rm.slots = ms) (hR : rm.frames + 1 ≤ R.frames ∧ 8 + (6 + 11) + rm.locals ≤ R.locals) : CallW R s args "ScaleShopLaw" RX10 120 yX10_at cX10_at 6 (some .int) (.code yX10_at cX10_at 6 (some .int) :: ws0) rm mc ms 3 := cwV 3 hts (zz_gV mw_1121 mw_1122 mw_1123 mw_99 mc_yX10_at) rfl hrc hrs (by decide +kernel) hR
theorem csV_272 {R : Room} {s : State} {args : Array Value} {rm : Room} {mc ms : Nat} (hts : ∀ w ∈ ws0, w.before args s = true) (hrc : rm.cells = mc) (hrs : rm.slots = ms) (hR : rm.frames + 1 ≤ R.frames ∧ 8 + (4 + 11) + rm.locals ≤ R.locals) : CallW R s args "ScaleShopLaw" RX11 123 yX11_at cX11_at 4 (some .int) (.code yX11_at cX11_at 4 (some .int) :: ws0) rm mc ms 3 := cwV 3 hts (zz_gV mw_1698 mw_1699 mw_1700 mw_110 mc_yX11_at) rfl hrc hrs (by decide +kernel) hR
theorem csV_273 {R : Room} {s : State} {args : Array Value} {rm : Room} {mc ms : Nat} (hts : ∀ w ∈ ws0, w.before args s = true) (hrc : rm.cells = mc) (hrs : rm.slots = ms) (hR : rm.frames + 1 ≤ R.frames ∧ 8 + (4 + 11) + rm.locals ≤ R.locals) : CallW R s args "ScaleShopLaw" RX10 124 yX10_told cX10_told 4 (some .int) (.code yX10_told cX10_told 4 (some .int) :: ws0) rm mc ms 2 := cwV 2 hts (zz_gV mw_1125 mw_1126 mw_1127 mw_99 mc_yX10_told) rfl hrc hrs (by decide +kernel) hR
theorem csV_274 {R : Room} {s : State} {args : Array Value} {rm : Room} {mc ms : Nat} (hts : ∀ w ∈ ws0, w.before args s = true) (hrc : rm.cells = mc) (hrs : rm.slots = ms) (hR : rm.frames + 1 ≤ R.frames ∧ 8 + (3 + 11) + rm.locals ≤ R.locals) : CallW R s args "ScaleShopLaw" RX11 127 yX11_told cX11_told 3 (some .int) (.code yX11_told cX11_told 3 (some .int) :: ws0) rm mc ms 2 := cwV 2 hts (zz_gV mw_1702 mw_1703 mw_1704 mw_110 mc_yX11_told) rfl hrc hrs (by decide +kernel) hR
theorem csV_275 {R : Room} {s : State} {args : Array Value} {rm : Room} {mc ms : Nat} (hts : ∀ w ∈ ws0, w.before args s = true) (hrc : rm.cells = mc) (hrs : rm.slots = ms) (hR : rm.frames + 1 ≤ R.frames ∧ 8 + (5 + 11) + rm.locals ≤ R.locals) : CallW R s args "ScaleShopLaw" RX10 85 yX10_meets cX10_meets 5 (some .boolean) (.code yX10_meets cX10_meets 5 (some .boolean) :: ws0) rm mc ms 2 := cwV 2 hts (zz_gV mw_1057 mw_1058 mw_1059 mw_99 mc_yX10_meets) rfl hrc hrs (by decide +kernel) hR
theorem csV_276 {R : Room} {s : State} {args : Array Value} {rm : Room} {mc ms : Nat} (hts : ∀ w ∈ ws0, w.before args s = true) (hrc : rm.cells = mc) (hrs : rm.slots = ms) (hR : rm.frames + 1 ≤ R.frames ∧ 8 + (3 + 11) + rm.locals ≤ R.locals) : CallW R s args "ScaleShopLaw" RX11 88 yX11_meets cX11_meets 3 (some .boolean) (.code yX11_meets cX11_meets 3 (some .boolean) :: ws0) rm mc ms 2 := cwV 2 hts (zz_gV mw_1661 mw_1662 mw_1663 mw_110 mc_yX11_meets) rfl hrc hrs (by decide +kernel) hR
theorem csV_277 {R : Room} {s : State} {args : Array Value} {rm : Room} {mc ms : Nat} (hts : ∀ w ∈ ws0, w.before args s = true) (hrc : rm.cells = mc) (hrs : rm.slots = ms) (hR : rm.frames + 1 ≤ R.frames ∧ 8 + (6 + 11) + rm.locals ≤ R.locals) : CallW R s args "ScaleShopLaw" RX10 97 yX10_near cX10_near 6 (some .long) (.code yX10_near cX10_near 6 (some .long) :: ws0) rm mc ms 3 := cwV 3 hts (zz_gV mw_1073 mw_1074 mw_1075 mw_99 mc_yX10_near) rfl hrc hrs (by decide +kernel) hR
theorem csV_278 {R : Room} {s : State} {args : Array Value} {rm : Room} {mc ms : Nat} (hts : ∀ w ∈ ws0, w.before args s = true) (hrc : rm.cells = mc) (hrs : rm.slots = ms) (hR : rm.frames + 1 ≤ R.frames ∧ 8 + (4 + 11) + rm.locals ≤ R.locals) : CallW R s args "ScaleShopLaw" RX11 101 yX11_near cX11_near 4 (some .long) (.code yX11_near cX11_near 4 (some .long) :: ws0) rm mc ms 3 := cwV 3 hts (zz_gV mw_1673 mw_1674 mw_1675 mw_110 mc_yX11_near) rfl hrc hrs (by decide +kernel) hR
theorem csV_279 {R : Room} {s : State} {args : Array Value} {rm : Room} {mc ms : Nat} (hts : ∀ w ∈ ws0, w.before args s = true) (hrc : rm.cells = mc) (hrs : rm.slots = ms) (hR : rm.frames + 1 ≤ R.frames ∧ 8 + (5 + 11) + rm.locals ≤ R.locals) : CallW R s args "ScaleShopLaw" RX10 102 yX10_clashes cX10_clashes 5 (some .int) (.code yX10_clashes cX10_clashes 5 (some .int) :: ws0) rm mc ms 1 := cwV 1 hts (zz_gV mw_1082 mw_1083 mw_1084 mw_99 mc_yX10_clashes) rfl hrc hrs (by decide +kernel) hR
theorem csV_280 {R : Room} {s : State} {args : Array Value} {rm : Room} {mc ms : Nat} (hts : ∀ w ∈ ws0, w.before args s = true) (hrc : rm.cells = mc) (hrs : rm.slots = ms) (hR : rm.frames + 1 ≤ R.frames ∧ 8 + (5 + 11) + rm.locals ≤ R.locals) : CallW R s args "ScaleShopLaw" RX11 105 yX11_clashes cX11_clashes 5 (some .int) (.code yX11_clashes cX11_clashes 5 (some .int) :: ws0) rm mc ms 1 := cwV 1 hts (zz_gV mw_1677 mw_1678 mw_1679 mw_110 mc_yX11_clashes) rfl hrc hrs (by decide +kernel) hR
theorem csV_281 {R : Room} {s : State} {args : Array Value} {rm : Room} {mc ms : Nat} (hts : ∀ w ∈ ws0, w.before args s = true) (hrc : rm.cells = mc) (hrs : rm.slots = ms) (hR : rm.frames + 1 ≤ R.frames ∧ 8 + (6 + 11) + rm.locals ≤ R.locals) : CallW R s args "ScaleShopLaw" RX10 106 yX10_clash cX10_clash 6 (some .int) (.code yX10_clash cX10_clash 6 (some .int) :: ws0) rm mc ms 3 := cwV 3 hts (zz_gV mw_1101 mw_1102 mw_1103 mw_99 mc_yX10_clash) rfl hrc hrs (by decide +kernel) hR
theorem csV_282 {R : Room} {s : State} {args : Array Value} {rm : Room} {mc ms : Nat} (hts : ∀ w ∈ ws0, w.before args s = true) (hrc : rm.cells = mc) (hrs : rm.slots = ms) (hR : rm.frames + 1 ≤ R.frames ∧ 8 + (7 + 11) + rm.locals ≤ R.locals) : CallW R s args "ScaleShopLaw" RX11 109 yX11_clash cX11_clash 7 (some .int) (.code yX11_clash cX11_clash 7 (some .int) :: ws0) rm mc ms 3 := cwV 3 hts (zz_gV mw_1686 mw_1687 mw_1688 mw_110 mc_yX11_clash) rfl hrc hrs (by decide +kernel) hR
theorem csV_283 {R : Room} {s : State} {args : Array Value} {rm : Room} {mc ms : Nat} (hts : ∀ w ∈ ws0, w.before args s = true) (hrc : rm.cells = mc) (hrs : rm.slots = ms) (hR : rm.frames + 1 ≤ R.frames ∧ 8 + (4 + 11) + rm.locals ≤ R.locals) : CallW R s args "ScaleShopLaw" RX10 128 yX10_step cX10_step 4 (some .int) (.code yX10_step cX10_step 4 (some .int) :: ws0) rm mc ms 2 := cwV 2 hts (zz_gV mw_1129 mw_1130 mw_1131 mw_99 mc_yX10_step) rfl hrc hrs (by decide +kernel) hR
theorem csV_284 {R : Room} {s : State} {args : Array Value} {rm : Room} {mc ms : Nat} (hts : ∀ w ∈ ws0, w.before args s = true) (hrc : rm.cells = mc) (hrs : rm.slots = ms) (hR : rm.frames + 1 ≤ R.frames ∧ 8 + (3 + 11) + rm.locals ≤ R.locals) : CallW R s args "ScaleShopLaw" RX11 131 yX11_step cX11_step 3 (some .int) (.code yX11_step cX11_step 3 (some .int) :: ws0) rm mc ms 2 := cwV 2 hts (zz_gV mw_1706 mw_1707 mw_1708 mw_110 mc_yX11_step) rfl hrc hrs (by decide +kernel) hR
theorem csV_285 {R : Room} {s : State} {args : Array Value} {rm : Room} {mc ms : Nat} (hts : ∀ w ∈ ws0, w.before args s = true) (hrc : rm.cells = mc) (hrs : rm.slots = ms) (hR : rm.frames + 1 ≤ R.frames ∧ 8 + (2 + 11) + rm.locals ≤ R.locals) : CallW R s args "ScaleShopLaw" RX10 132 yX10_count cX10_count 2 (some .int) (.code yX10_count cX10_count 2 (some .int) :: ws0) rm mc ms 1 := cwV 1 hts (zz_gV mw_1133 mw_1134 mw_1135 mw_99 mc_yX10_count) rfl hrc hrs (by decide +kernel) hR
theorem csV_286 {R : Room} {s : State} {args : Array Value} {rm : Room} {mc ms : Nat} (hts : ∀ w ∈ ws0, w.before args s = true) (hrc : rm.cells = mc) (hrs : rm.slots = ms) (hR : rm.frames + 1 ≤ R.frames ∧ 8 + (7 + 11) + rm.locals ≤ R.locals) : CallW R s args "ScaleShopLaw" RX11 135 yX11_count cX11_count 7 (some .int) (.code yX11_count cX11_count 7 (some .int) :: ws0) rm mc ms 1 := cwV 1 hts (zz_gV mw_1710 mw_1711 mw_1712 mw_110 mc_yX11_count) rfl hrc hrs (by decide +kernel) hR
theorem csV_287 {R : Room} {s : State} {args : Array Value} {rm : Room} {mc ms : Nat} (hts : ∀ w ∈ ws0, w.before args s = true) (hrc : rm.cells = mc) (hrs : rm.slots = ms) (hR : rm.frames + 1 ≤ R.frames ∧ 8 + (1 + 11) + rm.locals ≤ R.locals) : CallW R s args "ScaleShopLaw" RX10 136 yX10_status cX10_status 1 (some .int) (.code yX10_status cX10_status 1 (some .int) :: ws0) rm mc ms 0 := cwV 0 hts (zz_gV mw_1149 mw_1150 mw_1151 mw_99 mc_yX10_status) rfl hrc hrs (by decide +kernel) hR
theorem csV_288 {R : Room} {s : State} {args : Array Value} {rm : Room} {mc ms : Nat} (hts : ∀ w ∈ ws0, w.before args s = true) (hrc : rm.cells = mc) (hrs : rm.slots = ms) (hR : rm.frames + 1 ≤ R.frames ∧ 8 + (1 + 11) + rm.locals ≤ R.locals) : CallW R s args "ScaleShopLaw" RX11 139 yX11_status cX11_status 1 (some .int) (.code yX11_status cX11_status 1 (some .int) :: ws0) rm mc ms 0 := cwV 0 hts (zz_gV mw_1714 mw_1715 mw_1716 mw_110 mc_yX11_status) rfl hrc hrs (by decide +kernel) hR
end
section
set_option maxHeartbeats 4000000 in
set_option maxRecDepth 100000 in
theorem k_Row_next (l : Launch) (dC : Nat → ClassId) (dI : Nat → Nat → Nat) (cI cZ cF : ClassId) (sz : Nat) (r : Nat) (rx : Nat) (ry : Nat) (n : Nat) (cap : Nat) (X : Nat → Int32) (Y : Nat → Int32) (rg : Int32) (i : Nat) (hn : n ≤ cap) (hcap : cap ≤ 1000) (hi : i < n) : zM l yX7_next cX7_next 2 (some .int) ({ frames := 0, cells := 0, slots := 0, locals := 0 } : Room) [.ref r, .int (nI i)] (dC, dI) (zTy cI cZ cF) [(oc6 r (.ref rx) (.ref ry) (nI n) rg), (oa rx cI cap X), (oa ry cI cap Y)] sz (some (.int (nI (nxt n i)))) (fun A t => zPD (dC, dI) classes A [(oc6 r (.ref rx) (.ref ry) (nI n) rg), (oa rx cI cap X), (oa ry cI cap Y)] t.heap) 0 0 := by
  refine zIn (own := "ScaleShop$Row") (loc := [(0, .ref r), (1, .int (nI i))]) rfl rfl rfl rfl (fun p e s m below meth c hx hb hr hts hown hlocks hml hnm9 A hA hS hP hD hK hXN Q9 hQ9 ls hl => ?_)
  refine lv_iload_n hx hb dX7_next_0 rfl (lv_at hl 1 rfl) ?_
  refine lv_iconst (v := 1) hx hb dX7_next_1 rfl ?_
  refine lv_iadd hx hb dX7_next_2 ?_
  refine zz_i (v := nI (i + 1)) (nI_add i 1) ?_
  refine lv_aload_n hx hb dX7_next_3 rfl (lv_at hl 0 rfl) ?_
  refine va_get (D := (dC, dI)) (ci := 6) (v := .int (nI n)) (C := RX7) (T := TX7) (N := 4) hx hb hts inX7 hown hK hP 0 rfl rfl 2 (Nat.le_of_ble_eq_true rfl) (hts _ mw_175) (fun _ h9 => h9) rfl dX7_next_4 ?_
  have hj_1 : W p l e ({ frames := 0, cells := 0, slots := 0, locals := 0 } : Room) s m ([.ref r, .int (nI i)] : List Value).toArray below meth c s.heap [] 0 0 Q9 (F0 m 17 ls [.int (nI (nxt n i))]) := by
    obtain ⟨hP9, hD9⟩ := zu_sub (wc := [_, _, _]) hP hD [true, true, true] rfl rfl
    rw [hQ9]
    exact W.iret (v := nI (nxt n i)) hx hb hr (fun t ht hW => ⟨⟨rfl, by rw [ht]; exact hP9, hD9⟩, hS.F ht⟩) hS.2.2 dX7_next_17
  have b9_3 : (i + 1) < 2147483648 := by omega
  have b9_4 : n < 2147483648 := by omega
  refine lv_icmp_ge (tgt := 16) hx hb dX7_next_7 rfl (fun c_2 => ?_) (fun c_2 => ?_)
  · have c_2 : ((n : Nat) : Int) ≤ ((i + 1 : Nat) : Int) := zc_le (nI_toInt b9_4) (nI_toInt b9_3) c_2
    refine lv_iconst (v := 0) hx hb dX7_next_16 rfl ?_
    refine zz_i (v := nI (nxt n i)) (by first | (rw [nxt, if_pos (by omega)]) | (rw [nxt, if_neg (by omega)]; first | done | rfl)) ?_
    exact hj_1 
  · have c_2 : ((i + 1 : Nat) : Int) < ((n : Nat) : Int) := zc_nle (nI_toInt b9_4) (nI_toInt b9_3) c_2
    refine lv_iload_n hx hb dX7_next_10 rfl (lv_at hl 1 rfl) ?_
    refine lv_iconst (v := 1) hx hb dX7_next_11 rfl ?_
    refine lv_iadd hx hb dX7_next_12 ?_
    refine zz_i (v := nI (i + 1)) (nI_add i 1) ?_
    refine lv_goto (tgt := 17) hx hb dX7_next_13 rfl ?_
    refine zz_i (v := nI (nxt n i)) (by first | (rw [nxt, if_pos (by omega)]) | (rw [nxt, if_neg (by omega)]; first | done | rfl)) ?_
    exact hj_1 
set_option maxHeartbeats 4000000 in
set_option maxRecDepth 100000 in
theorem k_Row_previous (l : Launch) (dC : Nat → ClassId) (dI : Nat → Nat → Nat) (cI cZ cF : ClassId) (sz : Nat) (r : Nat) (rx : Nat) (ry : Nat) (n : Nat) (cap : Nat) (X : Nat → Int32) (Y : Nat → Int32) (rg : Int32) (i : Nat) (hn : n ≤ cap) (hcap : cap ≤ 1000) (hi : i < n) : zM l yX7_previous cX7_previous 2 (some .int) ({ frames := 0, cells := 0, slots := 0, locals := 0 } : Room) [.ref r, .int (nI i)] (dC, dI) (zTy cI cZ cF) [(oc6 r (.ref rx) (.ref ry) (nI n) rg), (oa rx cI cap X), (oa ry cI cap Y)] sz (some (.int (nI (prv n i)))) (fun A t => zPD (dC, dI) classes A [(oc6 r (.ref rx) (.ref ry) (nI n) rg), (oa rx cI cap X), (oa ry cI cap Y)] t.heap) 0 0 := by
  refine zIn (own := "ScaleShop$Row") (loc := [(0, .ref r), (1, .int (nI i))]) rfl rfl rfl rfl (fun p e s m below meth c hx hb hr hts hown hlocks hml hnm9 A hA hS hP hD hK hXN Q9 hQ9 ls hl => ?_)
  refine lv_iload_n hx hb dX7_previous_0 rfl (lv_at hl 1 rfl) ?_
  have b9_2 : i < 2147483648 := by omega
  refine lv_if_le (tgt := 10) hx hb dX7_previous_1 rfl (fun c_1 => ?_) (fun c_1 => ?_)
  · have c_1 : ((i : Nat) : Int) ≤ 0 := zc_le (nI_toInt b9_2) rfl c_1
    refine lv_aload_n hx hb dX7_previous_10 rfl (lv_at hl 0 rfl) ?_
    refine va_get (D := (dC, dI)) (ci := 6) (v := .int (nI n)) (C := RX7) (T := TX7) (N := 4) hx hb hts inX7 hown hK hP 0 rfl rfl 2 (Nat.le_of_ble_eq_true rfl) (hts _ mw_175) (fun _ h9 => h9) rfl dX7_previous_11 ?_
    refine lv_iconst (v := 1) hx hb dX7_previous_14 rfl ?_
    refine lv_isub hx hb dX7_previous_15 ?_
    refine zz_i (v := nI (n - 1)) (pk_sub (a := n) (b := 1) (by omega)) ?_
    obtain ⟨hP9, hD9⟩ := zu_sub (wc := [_, _, _]) hP hD [true, true, true] rfl rfl
    rw [hQ9]
    exact W.iret (v := nI (n - 1)) hx hb hr (fun t ht hW => ⟨⟨congrArg (fun z => Outcome.returned (some (Value.int z))) (show (nI (n - 1) : Int32) = nI (prv n i) from zn_eq (by unfold prv; split <;> omega)), by rw [ht]; exact hP9, hD9⟩, hS.F ht⟩) hS.2.2 dX7_previous_16
  · have c_1 : 0 < ((i : Nat) : Int) := zc_nle (nI_toInt b9_2) rfl c_1
    refine lv_iload_n hx hb dX7_previous_4 rfl (lv_at hl 1 rfl) ?_
    refine lv_iconst (v := 1) hx hb dX7_previous_5 rfl ?_
    refine lv_isub hx hb dX7_previous_6 ?_
    refine zz_i (v := nI (i - 1)) (pk_sub (a := i) (b := 1) (by omega)) ?_
    refine lv_goto (tgt := 16) hx hb dX7_previous_7 rfl ?_
    obtain ⟨hP9, hD9⟩ := zu_sub (wc := [_, _, _]) hP hD [true, true, true] rfl rfl
    rw [hQ9]
    exact W.iret (v := nI (i - 1)) hx hb hr (fun t ht hW => ⟨⟨congrArg (fun z => Outcome.returned (some (Value.int z))) (show (nI (i - 1) : Int32) = nI (prv n i) from zn_eq (by unfold prv; split <;> omega)), by rw [ht]; exact hP9, hD9⟩, hS.F ht⟩) hS.2.2 dX7_previous_16
set_option maxHeartbeats 4000000 in
set_option maxRecDepth 100000 in
theorem k_Row_edges (l : Launch) (dC : Nat → ClassId) (dI : Nat → Nat → Nat) (cI cZ cF : ClassId) (sz : Nat) (r : Nat) (rx : Nat) (ry : Nat) (n : Nat) (cap : Nat) (X : Nat → Int32) (Y : Nat → Int32) (rg : Int32) (hn : n ≤ cap) (hcap : cap ≤ 1000) : zM l yX7_edges cX7_edges 1 (some .int) ({ frames := 0, cells := 0, slots := 0, locals := 0 } : Room) [.ref r] (dC, dI) (zTy cI cZ cF) [(oc6 r (.ref rx) (.ref ry) (nI n) rg), (oa rx cI cap X), (oa ry cI cap Y)] sz (some (.int (nI (edg n rg)))) (fun A t => zPD (dC, dI) classes A [(oc6 r (.ref rx) (.ref ry) (nI n) rg), (oa rx cI cap X), (oa ry cI cap Y)] t.heap) 0 0 := by
  refine zIn (own := "ScaleShop$Row") (loc := [(0, .ref r)]) rfl rfl rfl rfl (fun p e s m below meth c hx hb hr hts hown hlocks hml hnm9 A hA hS hP hD hK hXN Q9 hQ9 ls hl => ?_)
  refine lv_aload_n hx hb dX7_edges_0 rfl (lv_at hl 0 rfl) ?_
  refine va_get (D := (dC, dI)) (ci := 6) (v := .int (nI n)) (C := RX7) (T := TX7) (N := 4) hx hb hts inX7 hown hK hP 0 rfl rfl 2 (Nat.le_of_ble_eq_true rfl) (hts _ mw_175) (fun _ h9 => h9) rfl dX7_edges_1 ?_
  refine lv_iconst (v := 2) hx hb dX7_edges_4 rfl ?_
  have b9_2 : n < 2147483648 := by omega
  refine lv_icmp_ge (tgt := 10) hx hb dX7_edges_5 rfl (fun c_1 => ?_) (fun c_1 => ?_)
  · have c_1 : 2 ≤ ((n : Nat) : Int) := zc_le rfl (nI_toInt b9_2) c_1
    refine lv_aload_n hx hb dX7_edges_10 rfl (lv_at hl 0 rfl) ?_
    refine va_get (D := (dC, dI)) (ci := 6) (v := .int rg) (C := RX7) (T := TX7) (N := 4) hx hb hts inX7 hown hK hP 0 rfl rfl 3 (Nat.le_of_ble_eq_true rfl) (hts _ mw_183) (fun _ h9 => h9) rfl dX7_edges_11 ?_
    refine lv_if_eq (tgt := 24) hx hb dX7_edges_14 rfl (fun c_3 => ?_) (fun c_3 => ?_)
    · have c_3 : rg.toInt = 0 := zc_eq rfl rfl c_3
      refine lv_aload_n hx hb dX7_edges_24 rfl (lv_at hl 0 rfl) ?_
      refine va_get (D := (dC, dI)) (ci := 6) (v := .int (nI n)) (C := RX7) (T := TX7) (N := 4) hx hb hts inX7 hown hK hP 0 rfl rfl 2 (Nat.le_of_ble_eq_true rfl) (hts _ mw_175) (fun _ h9 => h9) rfl dX7_edges_25 ?_
      refine lv_iconst (v := 1) hx hb dX7_edges_28 rfl ?_
      refine lv_isub hx hb dX7_edges_29 ?_
      refine zz_i (v := nI (n - 1)) (pk_sub (a := n) (b := 1) (by omega)) ?_
      obtain ⟨hP9, hD9⟩ := zu_sub (wc := [_, _, _]) hP hD [true, true, true] rfl rfl
      rw [hQ9]
      exact W.iret (v := nI (n - 1)) hx hb hr (fun t ht hW => ⟨⟨congrArg (fun z => Outcome.returned (some (Value.int z))) (show (nI (n - 1) : Int32) = nI (edg n rg) from zn_eq (by unfold edg; split <;> (try split) <;> omega)), by rw [ht]; exact hP9, hD9⟩, hS.F ht⟩) hS.2.2 dX7_edges_30
    · have c_3 : ¬ rg.toInt = 0 := zc_ne rfl rfl c_3
      refine lv_aload_n hx hb dX7_edges_17 rfl (lv_at hl 0 rfl) ?_
      refine va_get (D := (dC, dI)) (ci := 6) (v := .int (nI n)) (C := RX7) (T := TX7) (N := 4) hx hb hts inX7 hown hK hP 0 rfl rfl 2 (Nat.le_of_ble_eq_true rfl) (hts _ mw_175) (fun _ h9 => h9) rfl dX7_edges_18 ?_
      refine lv_goto (tgt := 30) hx hb dX7_edges_21 rfl ?_
      obtain ⟨hP9, hD9⟩ := zu_sub (wc := [_, _, _]) hP hD [true, true, true] rfl rfl
      rw [hQ9]
      exact W.iret (v := nI n) hx hb hr (fun t ht hW => ⟨⟨congrArg (fun z => Outcome.returned (some (Value.int z))) (show (nI n : Int32) = nI (edg n rg) from zn_eq (by unfold edg; split <;> (try split) <;> omega)), by rw [ht]; exact hP9, hD9⟩, hS.F ht⟩) hS.2.2 dX7_edges_30
  · have c_1 : ((n : Nat) : Int) < 2 := zc_nle rfl (nI_toInt b9_2) c_1
    refine lv_iconst (v := 0) hx hb dX7_edges_8 rfl ?_
    obtain ⟨hP9, hD9⟩ := zu_sub (wc := [_, _, _]) hP hD [true, true, true] rfl rfl
    rw [hQ9]
    exact W.iret (v := 0) hx hb hr (fun t ht hW => ⟨⟨congrArg (fun z => Outcome.returned (some (Value.int z))) (show (0 : Int32) = nI (edg n rg) from zn_eq (by unfold edg; split <;> (try split) <;> omega)), by rw [ht]; exact hP9, hD9⟩, hS.F ht⟩) hS.2.2 dX7_edges_9
set_option maxHeartbeats 4000000 in
set_option maxRecDepth 100000 in
theorem k_Row_parts (l : Launch) (dC : Nat → ClassId) (dI : Nat → Nat → Nat) (cI cZ cF : ClassId) (sz : Nat) (r : Nat) (rx : Nat) (ry : Nat) (n : Nat) (cap : Nat) (X : Nat → Int32) (Y : Nat → Int32) (rg : Int32) (hn : n ≤ cap) (hcap : cap ≤ 1000) : zM l yX7_parts cX7_parts 1 (some .int) ({ frames := 1, cells := 0, slots := 0, locals := 20 } : Room) [.ref r] (dC, dI) (zTy cI cZ cF) [(oc6 r (.ref rx) (.ref ry) (nI n) rg), (oa rx cI cap X), (oa ry cI cap Y)] sz (some (.int (nI (prt n rg)))) (fun A t => zPD (dC, dI) classes A [(oc6 r (.ref rx) (.ref ry) (nI n) rg), (oa rx cI cap X), (oa ry cI cap Y)] t.heap) 0 0 := by
  refine zIn (own := "ScaleShop$Row") (loc := [(0, .ref r)]) rfl rfl rfl rfl (fun p e s m below meth c hx hb hr hts hown hlocks hml hnm9 A hA hS hP hD hK hXN Q9 hQ9 ls hl => ?_)
  refine lv_aload_n hx hb dX7_parts_0 rfl (lv_at hl 0 rfl) ?_
  refine va_get (D := (dC, dI)) (ci := 6) (v := .int (nI n)) (C := RX7) (T := TX7) (N := 4) hx hb hts inX7 hown hK hP 0 rfl rfl 2 (Nat.le_of_ble_eq_true rfl) (hts _ mw_175) (fun _ h9 => h9) rfl dX7_parts_1 ?_
  refine lv_iconst (v := 1) hx hb dX7_parts_4 rfl ?_
  have b9_2 : n < 2147483648 := by omega
  refine lv_icmp_ne (tgt := 12) hx hb dX7_parts_5 rfl (fun c_1 => ?_) (fun c_1 => ?_)
  · have c_1 : ¬ ((n : Nat) : Int) = 1 := zc_ne (nI_toInt b9_2) rfl c_1
    refine lv_aload_n hx hb dX7_parts_12 rfl (lv_at hl 0 rfl) ?_
    obtain ⟨hPc, hDc, hFc⟩ := zo_sub (wc := [_, _, _]) hP hD hS hA [0, 1, 2] rfl rfl
    refine zcall (st1 := [.int (nI (edg n rg))]) (va_runV (As := []) (rest := []) ⟨hx, hb, hml, hown, hts⟩ (k_Row_edges l dC dI cI cZ cF s.heap.size r rx ry n cap X Y rg (by first | with_reducible assumption | omega) (by first | with_reducible assumption | omega)) (csV_0 hts rfl rfl ⟨Nat.le_of_ble_eq_true rfl, Nat.le_of_ble_eq_true rfl⟩) (zPV2 (q0 := 0) (ci := 6) hPc hDc hK hXN rfl rfl) rfl rfl hl.1 rfl (lv_room (Nat.le_of_ble_eq_true rfl)) dX7_parts_13 ⟨Nat.le_of_ble_eq_true rfl, Nat.le_of_ble_eq_true rfl⟩) hS hFc hFc rfl (fun t H locs ht hB hk1 hS => ?_)
    obtain ⟨hP1, hD1⟩ := hB
    rw [ht] at hP1
    obtain ⟨hP, hD⟩ := zn (W2 := [_, _, _]) hP hD hk1 hFc hP1 hD1 [0, 1, 2] [] [false, false, false] [0, 1, 2] (by decide +kernel) rfl rfl rfl rfl rfl
    clear hk1 hPc hDc hFc hP1 hD1 ht
    obtain ⟨hP9, hD9⟩ := zu_sub (wc := [_, _, _]) hP hD [true, true, true] rfl rfl
    rw [hQ9]
    exact W.iret (v := nI (edg n rg)) hx hb hr (fun t ht hW => ⟨⟨congrArg (fun z => Outcome.returned (some (Value.int z))) (show (nI (edg n rg) : Int32) = nI (prt n rg) from zn_eq (by unfold prt; split <;> omega)), by rw [ht]; exact hP9, hD9⟩, hS.F ht⟩) hS.2.2 dX7_parts_16
  · have c_1 : ((n : Nat) : Int) = 1 := zc_eq (nI_toInt b9_2) rfl c_1
    refine lv_iconst (v := 1) hx hb dX7_parts_8 rfl ?_
    refine lv_goto (tgt := 16) hx hb dX7_parts_9 rfl ?_
    obtain ⟨hP9, hD9⟩ := zu_sub (wc := [_, _, _]) hP hD [true, true, true] rfl rfl
    rw [hQ9]
    exact W.iret (v := 1) hx hb hr (fun t ht hW => ⟨⟨congrArg (fun z => Outcome.returned (some (Value.int z))) (show (1 : Int32) = nI (prt n rg) from zn_eq (by unfold prt; split <;> omega)), by rw [ht]; exact hP9, hD9⟩, hS.F ht⟩) hS.2.2 dX7_parts_16
set_option maxHeartbeats 4000000 in
set_option maxRecDepth 100000 in
theorem k_Row_isEnd (l : Launch) (dC : Nat → ClassId) (dI : Nat → Nat → Nat) (cI cZ cF : ClassId) (sz : Nat) (r : Nat) (rx : Nat) (ry : Nat) (n : Nat) (cap : Nat) (X : Nat → Int32) (Y : Nat → Int32) (rg : Int32) (i : Nat) (hn : n ≤ cap) (hcap : cap ≤ 1000) (hi : i < n) : zM l yX7_isEnd cX7_isEnd 2 (some .boolean) ({ frames := 0, cells := 0, slots := 0, locals := 0 } : Room) [.ref r, .int (nI i)] (dC, dI) (zTy cI cZ cF) [(oc6 r (.ref rx) (.ref ry) (nI n) rg), (oa rx cI cap X), (oa ry cI cap Y)] sz (some (.int (pI (rg.toInt = 0 ∧ (i = 0 ∨ i = n - 1))))) (fun A t => zPD (dC, dI) classes A [(oc6 r (.ref rx) (.ref ry) (nI n) rg), (oa rx cI cap X), (oa ry cI cap Y)] t.heap) 0 0 := by
  refine zIn (own := "ScaleShop$Row") (loc := [(0, .ref r), (1, .int (nI i))]) rfl rfl rfl rfl (fun p e s m below meth c hx hb hr hts hown hlocks hml hnm9 A hA hS hP hD hK hXN Q9 hQ9 ls hl => ?_)
  refine lv_aload_n hx hb dX7_isEnd_0 rfl (lv_at hl 0 rfl) ?_
  refine va_get (D := (dC, dI)) (ci := 6) (v := .int rg) (C := RX7) (T := TX7) (N := 4) hx hb hts inX7 hown hK hP 0 rfl rfl 3 (Nat.le_of_ble_eq_true rfl) (hts _ mw_183) (fun _ h9 => h9) rfl dX7_isEnd_1 ?_
  refine lv_if_ne (tgt := 25) hx hb dX7_isEnd_4 rfl (fun c_1 => ?_) (fun c_1 => ?_)
  · have c_1 : ¬ rg.toInt = 0 := zc_ne rfl rfl c_1
    refine lv_iconst (v := 0) hx hb dX7_isEnd_25 rfl ?_
    obtain ⟨hP9, hD9⟩ := zu_sub (wc := [_, _, _]) hP hD [true, true, true] rfl rfl
    rw [hQ9]
    exact W.zret (ty := .boolean) (v := 0) hx hb hr (rfl) (fun t ht hW => ⟨⟨congrArg (fun z => Outcome.returned (some (Value.int z))) (show (0 : Int32) = pI (rg.toInt = 0 ∧ (i = 0 ∨ i = n - 1)) from (zp_f (by omega)).symm), by rw [ht]; exact hP9, hD9⟩, hS.F ht⟩) hS.2.2 dX7_isEnd_26
  · have c_1 : rg.toInt = 0 := zc_eq rfl rfl c_1
    refine lv_iload_n hx hb dX7_isEnd_7 rfl (lv_at hl 1 rfl) ?_
    have b9_3 : i < 2147483648 := by omega
    refine lv_if_eq (tgt := 21) hx hb dX7_isEnd_8 rfl (fun c_2 => ?_) (fun c_2 => ?_)
    · have c_2 : ((i : Nat) : Int) = 0 := zc_eq (nI_toInt b9_3) rfl c_2
      refine lv_iconst (v := 1) hx hb dX7_isEnd_21 rfl ?_
      refine lv_goto (tgt := 26) hx hb dX7_isEnd_22 rfl ?_
      obtain ⟨hP9, hD9⟩ := zu_sub (wc := [_, _, _]) hP hD [true, true, true] rfl rfl
      rw [hQ9]
      exact W.zret (ty := .boolean) (v := 1) hx hb hr (rfl) (fun t ht hW => ⟨⟨congrArg (fun z => Outcome.returned (some (Value.int z))) (show (1 : Int32) = pI (rg.toInt = 0 ∧ (i = 0 ∨ i = n - 1)) from (zp_t (by omega)).symm), by rw [ht]; exact hP9, hD9⟩, hS.F ht⟩) hS.2.2 dX7_isEnd_26
    · have c_2 : ¬ ((i : Nat) : Int) = 0 := zc_ne (nI_toInt b9_3) rfl c_2
      refine lv_iload_n hx hb dX7_isEnd_11 rfl (lv_at hl 1 rfl) ?_
      refine lv_aload_n hx hb dX7_isEnd_12 rfl (lv_at hl 0 rfl) ?_
      refine va_get (D := (dC, dI)) (ci := 6) (v := .int (nI n)) (C := RX7) (T := TX7) (N := 4) hx hb hts inX7 hown hK hP 0 rfl rfl 2 (Nat.le_of_ble_eq_true rfl) (hts _ mw_175) (fun _ h9 => h9) rfl dX7_isEnd_13 ?_
      refine lv_iconst (v := 1) hx hb dX7_isEnd_16 rfl ?_
      refine lv_isub hx hb dX7_isEnd_17 ?_
      refine zz_i (v := nI (n - 1)) (pk_sub (a := n) (b := 1) (by omega)) ?_
      have b9_5 : (n - 1) < 2147483648 := by omega
      refine lv_icmp_ne (tgt := 25) hx hb dX7_isEnd_18 rfl (fun c_4 => ?_) (fun c_4 => ?_)
      · have c_4 : ¬ ((i : Nat) : Int) = ((n - 1 : Nat) : Int) := zc_ne (nI_toInt b9_3) (nI_toInt b9_5) c_4
        refine lv_iconst (v := 0) hx hb dX7_isEnd_25 rfl ?_
        obtain ⟨hP9, hD9⟩ := zu_sub (wc := [_, _, _]) hP hD [true, true, true] rfl rfl
        rw [hQ9]
        exact W.zret (ty := .boolean) (v := 0) hx hb hr (rfl) (fun t ht hW => ⟨⟨congrArg (fun z => Outcome.returned (some (Value.int z))) (show (0 : Int32) = pI (rg.toInt = 0 ∧ (i = 0 ∨ i = n - 1)) from (zp_f (by omega)).symm), by rw [ht]; exact hP9, hD9⟩, hS.F ht⟩) hS.2.2 dX7_isEnd_26
      · have c_4 : ((i : Nat) : Int) = ((n - 1 : Nat) : Int) := zc_eq (nI_toInt b9_3) (nI_toInt b9_5) c_4
        refine lv_iconst (v := 1) hx hb dX7_isEnd_21 rfl ?_
        refine lv_goto (tgt := 26) hx hb dX7_isEnd_22 rfl ?_
        obtain ⟨hP9, hD9⟩ := zu_sub (wc := [_, _, _]) hP hD [true, true, true] rfl rfl
        rw [hQ9]
        exact W.zret (ty := .boolean) (v := 1) hx hb hr (rfl) (fun t ht hW => ⟨⟨congrArg (fun z => Outcome.returned (some (Value.int z))) (show (1 : Int32) = pI (rg.toInt = 0 ∧ (i = 0 ∨ i = n - 1)) from (zp_t (by omega)).symm), by rw [ht]; exact hP9, hD9⟩, hS.F ht⟩) hS.2.2 dX7_isEnd_26
set_option maxHeartbeats 4000000 in
set_option maxRecDepth 100000 in
theorem k_Row_turn (l : Launch) (dC : Nat → ClassId) (dI : Nat → Nat → Nat) (cI cZ cF : ClassId) (sz : Nat) (r : Nat) (rx : Nat) (ry : Nat) (n : Nat) (cap : Nat) (X : Nat → Int32) (Y : Nat → Int32) (rg : Int32) (i : Nat) (px : Int32) (py : Int32) (hn : n ≤ cap) (hcap : cap ≤ 1000) (hp : pls n X Y) (hi : i < n) (hpx : pl px) (hpy : pl py) : zM l yX7_turn cX7_turn 5 (some .int) ({ frames := 0, cells := 0, slots := 0, locals := 0 } : Room) [.ref r, .int (nI i), .int px, .int py] (dC, dI) (zTy cI cZ cF) [(oc6 r (.ref rx) (.ref ry) (nI n) rg), (oa rx cI cap X), (oa ry cI cap Y)] sz (some (.int (iI (eCr n X Y i px.toInt py.toInt)))) (fun A t => zPD (dC, dI) classes A [(oc6 r (.ref rx) (.ref ry) (nI n) rg), (oa rx cI cap X), (oa ry cI cap Y)] t.heap) 0 0 := by
  refine zIn (own := "ScaleShop$Row") (loc := [(0, .ref r), (1, .int (nI i)), (2, .int px), (3, .int py)]) rfl rfl rfl rfl (fun p e s m below meth c hx hb hr hts hown hlocks hml hnm9 A hA hS hP hD hK hXN Q9 hQ9 ls hl => ?_)
  refine lv_iload_n hx hb dX7_turn_0 rfl (lv_at hl 1 rfl) ?_
  refine lv_iconst (v := 1) hx hb dX7_turn_1 rfl ?_
  refine lv_iadd hx hb dX7_turn_2 ?_
  refine zz_i (v := nI (i + 1)) (nI_add i 1) ?_
  refine lv_aload_n hx hb dX7_turn_3 rfl (lv_at hl 0 rfl) ?_
  refine va_get (D := (dC, dI)) (ci := 6) (v := .int (nI n)) (C := RX7) (T := TX7) (N := 4) hx hb hts inX7 hown hK hP 0 rfl rfl 2 (Nat.le_of_ble_eq_true rfl) (hts _ mw_175) (fun _ h9 => h9) rfl dX7_turn_4 ?_
  have hj_1 : W p l e ({ frames := 0, cells := 0, slots := 0, locals := 0 } : Room) s m ([.ref r, .int (nI i), .int px, .int py] : List Value).toArray below meth c s.heap [] 0 0 Q9 (F0 m 17 ls [.int (nI (nxt n i))]) := by
    have hnx := nxt_lt (n := n) (i := i) (by omega)
    refine lv_istore (lv' := [(4, .int (nI (nxt n i))), (0, .ref r), (1, .int (nI i)), (2, .int px), (3, .int py)]) hx hb dX7_turn_17 hl (Nat.le_of_ble_eq_true rfl) rfl (fun ls hl => ?_)
    refine lv_aload_n hx hb dX7_turn_19 rfl (lv_at hl 1 rfl) ?_
    refine va_get (D := (dC, dI)) (ci := 6) (v := .ref rx) (C := RX7) (T := TX7) (N := 4) hx hb hts inX7 hown hK hP 0 rfl rfl 0 (Nat.le_of_ble_eq_true rfl) (hts _ mw_161) (fun _ h9 => h9) rfl dX7_turn_20 ?_
    refine lv_iload hx hb dX7_turn_23 (lv_at hl 0 rfl) ?_
    have b9_2 : nxt n i < cap := by omega
    have b9_3 : cap < 2147483648 := by omega
    refine z_iald hx hb hK hP 1 0 rfl rfl (e := nxt n i) rfl b9_2 b9_3 dX7_turn_25 ?_
    refine lv_aload_n hx hb dX7_turn_26 rfl (lv_at hl 1 rfl) ?_
    refine va_get (D := (dC, dI)) (ci := 6) (v := .ref rx) (C := RX7) (T := TX7) (N := 4) hx hb hts inX7 hown hK hP 0 rfl rfl 0 (Nat.le_of_ble_eq_true rfl) (hts _ mw_161) (fun _ h9 => h9) rfl dX7_turn_27 ?_
    refine lv_iload_n hx hb dX7_turn_30 rfl (lv_at hl 2 rfl) ?_
    have b9_4 : i < cap := by omega
    refine z_iald hx hb hK hP 1 0 rfl rfl (e := i) rfl b9_4 b9_3 dX7_turn_31 ?_
    refine lv_isub hx hb dX7_turn_32 ?_
    refine lv_iload_n hx hb dX7_turn_33 rfl (lv_at hl 4 rfl) ?_
    refine lv_aload_n hx hb dX7_turn_34 rfl (lv_at hl 1 rfl) ?_
    refine va_get (D := (dC, dI)) (ci := 6) (v := .ref ry) (C := RX7) (T := TX7) (N := 4) hx hb hts inX7 hown hK hP 0 rfl rfl 1 (Nat.le_of_ble_eq_true rfl) (hts _ mw_168) (fun _ h9 => h9) rfl dX7_turn_35 ?_
    refine lv_iload_n hx hb dX7_turn_38 rfl (lv_at hl 2 rfl) ?_
    refine z_iald hx hb hK hP 2 0 rfl rfl (e := i) rfl b9_4 b9_3 dX7_turn_39 ?_
    refine lv_isub hx hb dX7_turn_40 ?_
    refine lv_imul hx hb dX7_turn_41 ?_
    refine lv_aload_n hx hb dX7_turn_42 rfl (lv_at hl 1 rfl) ?_
    refine va_get (D := (dC, dI)) (ci := 6) (v := .ref ry) (C := RX7) (T := TX7) (N := 4) hx hb hts inX7 hown hK hP 0 rfl rfl 1 (Nat.le_of_ble_eq_true rfl) (hts _ mw_168) (fun _ h9 => h9) rfl dX7_turn_43 ?_
    refine lv_iload hx hb dX7_turn_46 (lv_at hl 0 rfl) ?_
    refine z_iald hx hb hK hP 2 0 rfl rfl (e := nxt n i) rfl b9_2 b9_3 dX7_turn_48 ?_
    refine lv_aload_n hx hb dX7_turn_49 rfl (lv_at hl 1 rfl) ?_
    refine va_get (D := (dC, dI)) (ci := 6) (v := .ref ry) (C := RX7) (T := TX7) (N := 4) hx hb hts inX7 hown hK hP 0 rfl rfl 1 (Nat.le_of_ble_eq_true rfl) (hts _ mw_168) (fun _ h9 => h9) rfl dX7_turn_50 ?_
    refine lv_iload_n hx hb dX7_turn_53 rfl (lv_at hl 2 rfl) ?_
    refine z_iald hx hb hK hP 2 0 rfl rfl (e := i) rfl b9_4 b9_3 dX7_turn_54 ?_
    refine lv_isub hx hb dX7_turn_55 ?_
    refine lv_iload_n hx hb dX7_turn_56 rfl (lv_at hl 3 rfl) ?_
    refine lv_aload_n hx hb dX7_turn_57 rfl (lv_at hl 1 rfl) ?_
    refine va_get (D := (dC, dI)) (ci := 6) (v := .ref rx) (C := RX7) (T := TX7) (N := 4) hx hb hts inX7 hown hK hP 0 rfl rfl 0 (Nat.le_of_ble_eq_true rfl) (hts _ mw_161) (fun _ h9 => h9) rfl dX7_turn_58 ?_
    refine lv_iload_n hx hb dX7_turn_61 rfl (lv_at hl 2 rfl) ?_
    refine z_iald hx hb hK hP 1 0 rfl rfl (e := i) rfl b9_4 b9_3 dX7_turn_62 ?_
    refine lv_isub hx hb dX7_turn_63 ?_
    refine lv_imul hx hb dX7_turn_64 ?_
    refine lv_isub hx hb dX7_turn_65 ?_
    obtain ⟨hP9, hD9⟩ := zu_sub (wc := [_, _, _]) hP hD [true, true, true] rfl rfl
    rw [hQ9]
    exact W.iret (v := (((X (nxt n i)) - (X i)) * (py - (Y i))) - (((Y (nxt n i)) - (Y i)) * (px - (X i)))) hx hb hr (fun t ht hW => ⟨⟨congrArg (fun z => Outcome.returned (some (Value.int z))) (show ((((X (nxt n i)) - (X i)) * (py - (Y i))) - (((Y (nxt n i)) - (Y i)) * (px - (X i))) : Int32) = iI (eCr n X Y i px.toInt py.toInt) from crI (hp i hi).1 (hp i hi).2 (hp _ hnx).1 (hp _ hnx).2 hpx hpy), by rw [ht]; exact hP9, hD9⟩, hS.F ht⟩) hS.2.2 dX7_turn_66
  have b9_6 : (i + 1) < 2147483648 := by omega
  have b9_7 : n < 2147483648 := by omega
  refine lv_icmp_ge (tgt := 16) hx hb dX7_turn_7 rfl (fun c_5 => ?_) (fun c_5 => ?_)
  · have c_5 : ((n : Nat) : Int) ≤ ((i + 1 : Nat) : Int) := zc_le (nI_toInt b9_7) (nI_toInt b9_6) c_5
    refine lv_iconst (v := 0) hx hb dX7_turn_16 rfl ?_
    refine zz_i (v := nI (nxt n i)) (by first | (rw [nxt, if_pos (by omega)]) | (rw [nxt, if_neg (by omega)]; first | done | rfl)) ?_
    exact hj_1 
  · have c_5 : ((i + 1 : Nat) : Int) < ((n : Nat) : Int) := zc_nle (nI_toInt b9_7) (nI_toInt b9_6) c_5
    refine lv_iload_n hx hb dX7_turn_10 rfl (lv_at hl 1 rfl) ?_
    refine lv_iconst (v := 1) hx hb dX7_turn_11 rfl ?_
    refine lv_iadd hx hb dX7_turn_12 ?_
    refine zz_i (v := nI (i + 1)) (nI_add i 1) ?_
    refine lv_goto (tgt := 17) hx hb dX7_turn_13 rfl ?_
    refine zz_i (v := nI (nxt n i)) (by first | (rw [nxt, if_pos (by omega)]) | (rw [nxt, if_neg (by omega)]; first | done | rfl)) ?_
    exact hj_1 
set_option maxHeartbeats 4000000 in
set_option maxRecDepth 100000 in
theorem k_Row_isOn (l : Launch) (dC : Nat → ClassId) (dI : Nat → Nat → Nat) (cI cZ cF : ClassId) (sz : Nat) (r : Nat) (rx : Nat) (ry : Nat) (n : Nat) (cap : Nat) (X : Nat → Int32) (Y : Nat → Int32) (rg : Int32) (i : Nat) (px : Int32) (py : Int32) (hn : n ≤ cap) (hcap : cap ≤ 1000) (hp : pls n X Y) (hi : i < n) (hpx : pl px) (hpy : pl py) : zM l yX7_isOn cX7_isOn 5 (some .boolean) ({ frames := 1, cells := 0, slots := 0, locals := 24 } : Room) [.ref r, .int (nI i), .int px, .int py] (dC, dI) (zTy cI cZ cF) [(oc6 r (.ref rx) (.ref ry) (nI n) rg), (oa rx cI cap X), (oa ry cI cap Y)] sz (some (.int (pI (eOn n X Y i px.toInt py.toInt)))) (fun A t => zPD (dC, dI) classes A [(oc6 r (.ref rx) (.ref ry) (nI n) rg), (oa rx cI cap X), (oa ry cI cap Y)] t.heap) 0 0 := by
  refine zIn (own := "ScaleShop$Row") (loc := [(0, .ref r), (1, .int (nI i)), (2, .int px), (3, .int py)]) rfl rfl rfl rfl (fun p e s m below meth c hx hb hr hts hown hlocks hml hnm9 A hA hS hP hD hK hXN Q9 hQ9 ls hl => ?_)
  refine lv_iload_n hx hb dX7_isOn_0 rfl (lv_at hl 1 rfl) ?_
  refine lv_iconst (v := 1) hx hb dX7_isOn_1 rfl ?_
  refine lv_iadd hx hb dX7_isOn_2 ?_
  refine zz_i (v := nI (i + 1)) (nI_add i 1) ?_
  refine lv_aload_n hx hb dX7_isOn_3 rfl (lv_at hl 0 rfl) ?_
  refine va_get (D := (dC, dI)) (ci := 6) (v := .int (nI n)) (C := RX7) (T := TX7) (N := 4) hx hb hts inX7 hown hK hP 0 rfl rfl 2 (Nat.le_of_ble_eq_true rfl) (hts _ mw_175) (fun _ h9 => h9) rfl dX7_isOn_4 ?_
  have hj_1 : W p l e ({ frames := 1, cells := 0, slots := 0, locals := 24 } : Room) s m ([.ref r, .int (nI i), .int px, .int py] : List Value).toArray below meth c s.heap [] 0 0 Q9 (F0 m 17 ls [.int (nI (nxt n i))]) := by
    have hnx := nxt_lt (n := n) (i := i) (by omega)
    refine lv_istore (lv' := [(4, .int (nI (nxt n i))), (0, .ref r), (1, .int (nI i)), (2, .int px), (3, .int py)]) hx hb dX7_isOn_17 hl (Nat.le_of_ble_eq_true rfl) rfl (fun ls hl => ?_)
    have hj_2 : (min (X i).toInt (X (nxt n i)).toInt ≤ px.toInt ∧ px.toInt ≤ max (X i).toInt (X (nxt n i)).toInt) → W p l e ({ frames := 1, cells := 0, slots := 0, locals := 24 } : Room) s m ([.ref r, .int (nI i), .int px, .int py] : List Value).toArray below meth c s.heap [] 0 0 Q9 (F0 m 63 ls []) := by
      intro hx1
      have hj_3 : (min (Y i).toInt (Y (nxt n i)).toInt ≤ py.toInt ∧ py.toInt ≤ max (Y i).toInt (Y (nxt n i)).toInt) → W p l e ({ frames := 1, cells := 0, slots := 0, locals := 24 } : Room) s m ([.ref r, .int (nI i), .int px, .int py] : List Value).toArray below meth c s.heap [] 0 0 Q9 (F0 m 107 ls []) := by
        intro hy1
        have hcB := crBp (hp i hi).1 (hp i hi).2 (hp _ hnx).1 (hp _ hnx).2 hpx hpy
        have hcB : -2000000 ≤ eCr n X Y i px.toInt py.toInt ∧ eCr n X Y i px.toInt py.toInt ≤ 2000000 := hcB
        refine lv_aload_n hx hb dX7_isOn_107 rfl (lv_at hl 1 rfl) ?_
        refine lv_iload_n hx hb dX7_isOn_108 rfl (lv_at hl 2 rfl) ?_
        refine lv_iload_n hx hb dX7_isOn_109 rfl (lv_at hl 3 rfl) ?_
        refine lv_iload_n hx hb dX7_isOn_110 rfl (lv_at hl 4 rfl) ?_
        obtain ⟨hPc, hDc, hFc⟩ := zo_sub (wc := [_, _, _]) hP hD hS hA [0, 1, 2] rfl rfl
        refine zcall (st1 := [.int (iI (eCr n X Y i px.toInt py.toInt))]) (va_runV (As := [.int (nI i), .int px, .int py]) (rest := []) ⟨hx, hb, hml, hown, hts⟩ (k_Row_turn l dC dI cI cZ cF s.heap.size r rx ry n cap X Y rg i px py (by first | with_reducible assumption | omega) (by first | with_reducible assumption | omega) (by first | with_reducible assumption | assumption) (by first | with_reducible assumption | omega) (by first | with_reducible assumption | assumption) (by first | with_reducible assumption | assumption)) (csV_1 hts rfl rfl ⟨Nat.le_of_ble_eq_true rfl, Nat.le_of_ble_eq_true rfl⟩) (zPV2 (q0 := 0) (ci := 6) hPc hDc hK hXN rfl rfl) rfl rfl hl.1 rfl (lv_room (Nat.le_of_ble_eq_true rfl)) dX7_isOn_111 ⟨Nat.le_of_ble_eq_true rfl, Nat.le_of_ble_eq_true rfl⟩) hS hFc hFc rfl (fun t H locs ht hB hk1 hS => ?_)
        obtain ⟨hP1, hD1⟩ := hB
        rw [ht] at hP1
        obtain ⟨hP, hD⟩ := zn (W2 := [_, _, _]) hP hD hk1 hFc hP1 hD1 [0, 1, 2] [] [false, false, false] [0, 1, 2] (by decide +kernel) rfl rfl rfl rfl rfl
        clear hk1 hPc hDc hFc hP1 hD1 ht
        refine lv_if_ne (tgt := 121) hx hb dX7_isOn_114 rfl (fun c_4 => ?_) (fun c_4 => ?_)
        · have c_4 : ¬ (eCr n X Y i px.toInt py.toInt) = 0 := zc_ne (iI_toInt (by omega)) rfl c_4
          refine lv_iconst (v := 0) hx hb dX7_isOn_121 rfl ?_
          obtain ⟨hP9, hD9⟩ := zu_sub (wc := [_, _, _]) hP hD [true, true, true] rfl rfl
          rw [hQ9]
          exact W.zret (ty := .boolean) (v := 0) hx hb hr (rfl) (fun t ht hW => ⟨⟨congrArg (fun z => Outcome.returned (some (Value.int z))) (show (0 : Int32) = pI (eOn n X Y i px.toInt py.toInt) from (zp_f (by unfold eOn onS; first | exact ⟨by assumption, hx1.1, hx1.2, hy1.1, hy1.2⟩ | exact fun h => absurd h.1 (by first | with_reducible assumption | assumption))).symm), by rw [ht]; exact hP9, hD9⟩, hS.F ht⟩) hS.2.2 dX7_isOn_122
        · have c_4 : (eCr n X Y i px.toInt py.toInt) = 0 := zc_eq (iI_toInt (by omega)) rfl c_4
          refine lv_iconst (v := 1) hx hb dX7_isOn_117 rfl ?_
          refine lv_goto (tgt := 122) hx hb dX7_isOn_118 rfl ?_
          obtain ⟨hP9, hD9⟩ := zu_sub (wc := [_, _, _]) hP hD [true, true, true] rfl rfl
          rw [hQ9]
          exact W.zret (ty := .boolean) (v := 1) hx hb hr (rfl) (fun t ht hW => ⟨⟨congrArg (fun z => Outcome.returned (some (Value.int z))) (show (1 : Int32) = pI (eOn n X Y i px.toInt py.toInt) from (zp_t (by unfold eOn onS; first | exact ⟨by assumption, hx1.1, hx1.2, hy1.1, hy1.2⟩ | exact fun h => absurd h.1 (by first | with_reducible assumption | assumption))).symm), by rw [ht]; exact hP9, hD9⟩, hS.F ht⟩) hS.2.2 dX7_isOn_122
      refine lv_iload_n hx hb dX7_isOn_63 rfl (lv_at hl 4 rfl) ?_
      refine lv_aload_n hx hb dX7_isOn_64 rfl (lv_at hl 1 rfl) ?_
      refine va_get (D := (dC, dI)) (ci := 6) (v := .ref ry) (C := RX7) (T := TX7) (N := 4) hx hb hts inX7 hown hK hP 0 rfl rfl 1 (Nat.le_of_ble_eq_true rfl) (hts _ mw_168) (fun _ h9 => h9) rfl dX7_isOn_65 ?_
      refine lv_iload_n hx hb dX7_isOn_68 rfl (lv_at hl 2 rfl) ?_
      have b9_5 : i < cap := by omega
      have b9_6 : cap < 2147483648 := by omega
      refine z_iald hx hb hK hP 2 0 rfl rfl (e := i) rfl b9_5 b9_6 dX7_isOn_69 ?_
      refine lv_icmp_ge (tgt := 84) hx hb dX7_isOn_70 rfl (fun c_7 => ?_) (fun c_7 => ?_)
      · have c_7 : (Y i).toInt ≤ py.toInt := zc_le rfl rfl c_7
        refine lv_iload_n hx hb dX7_isOn_84 rfl (lv_at hl 4 rfl) ?_
        refine lv_aload_n hx hb dX7_isOn_85 rfl (lv_at hl 1 rfl) ?_
        refine va_get (D := (dC, dI)) (ci := 6) (v := .ref ry) (C := RX7) (T := TX7) (N := 4) hx hb hts inX7 hown hK hP 0 rfl rfl 1 (Nat.le_of_ble_eq_true rfl) (hts _ mw_168) (fun _ h9 => h9) rfl dX7_isOn_86 ?_
        refine lv_iload_n hx hb dX7_isOn_89 rfl (lv_at hl 2 rfl) ?_
        refine z_iald hx hb hK hP 2 0 rfl rfl (e := i) rfl b9_5 b9_6 dX7_isOn_90 ?_
        refine lv_icmp_le (tgt := 107) hx hb dX7_isOn_91 rfl (fun c_8 => ?_) (fun c_8 => ?_)
        · have c_8 : py.toInt ≤ (Y i).toInt := zc_le rfl rfl c_8
          exact hj_3 (by omega)
        · have c_8 : (Y i).toInt < py.toInt := zc_nle rfl rfl c_8
          refine lv_iload_n hx hb dX7_isOn_94 rfl (lv_at hl 4 rfl) ?_
          refine lv_aload_n hx hb dX7_isOn_95 rfl (lv_at hl 1 rfl) ?_
          refine va_get (D := (dC, dI)) (ci := 6) (v := .ref ry) (C := RX7) (T := TX7) (N := 4) hx hb hts inX7 hown hK hP 0 rfl rfl 1 (Nat.le_of_ble_eq_true rfl) (hts _ mw_168) (fun _ h9 => h9) rfl dX7_isOn_96 ?_
          refine lv_iload hx hb dX7_isOn_99 (lv_at hl 0 rfl) ?_
          have b9_9 : nxt n i < cap := by omega
          refine z_iald hx hb hK hP 2 0 rfl rfl (e := nxt n i) rfl b9_9 b9_6 dX7_isOn_101 ?_
          refine lv_icmp_le (tgt := 107) hx hb dX7_isOn_102 rfl (fun c_10 => ?_) (fun c_10 => ?_)
          · have c_10 : py.toInt ≤ (Y (nxt n i)).toInt := zc_le rfl rfl c_10
            exact hj_3 (by omega)
          · have c_10 : (Y (nxt n i)).toInt < py.toInt := zc_nle rfl rfl c_10
            refine lv_iconst (v := 0) hx hb dX7_isOn_105 rfl ?_
            obtain ⟨hP9, hD9⟩ := zu_sub (wc := [_, _, _]) hP hD [true, true, true] rfl rfl
            rw [hQ9]
            exact W.zret (ty := .boolean) (v := 0) hx hb hr (rfl) (fun t ht hW => ⟨⟨congrArg (fun z => Outcome.returned (some (Value.int z))) (show (0 : Int32) = pI (eOn n X Y i px.toInt py.toInt) from (zp_f (by unfold eOn onS; omega)).symm), by rw [ht]; exact hP9, hD9⟩, hS.F ht⟩) hS.2.2 dX7_isOn_106
      · have c_7 : py.toInt < (Y i).toInt := zc_nle rfl rfl c_7
        refine lv_iload_n hx hb dX7_isOn_73 rfl (lv_at hl 4 rfl) ?_
        refine lv_aload_n hx hb dX7_isOn_74 rfl (lv_at hl 1 rfl) ?_
        refine va_get (D := (dC, dI)) (ci := 6) (v := .ref ry) (C := RX7) (T := TX7) (N := 4) hx hb hts inX7 hown hK hP 0 rfl rfl 1 (Nat.le_of_ble_eq_true rfl) (hts _ mw_168) (fun _ h9 => h9) rfl dX7_isOn_75 ?_
        refine lv_iload hx hb dX7_isOn_78 (lv_at hl 0 rfl) ?_
        have b9_11 : nxt n i < cap := by omega
        refine z_iald hx hb hK hP 2 0 rfl rfl (e := nxt n i) rfl b9_11 b9_6 dX7_isOn_80 ?_
        refine lv_icmp_lt (tgt := 105) hx hb dX7_isOn_81 rfl (fun c_12 => ?_) (fun c_12 => ?_)
        · have c_12 : py.toInt < (Y (nxt n i)).toInt := zc_lt rfl rfl c_12
          refine lv_iconst (v := 0) hx hb dX7_isOn_105 rfl ?_
          obtain ⟨hP9, hD9⟩ := zu_sub (wc := [_, _, _]) hP hD [true, true, true] rfl rfl
          rw [hQ9]
          exact W.zret (ty := .boolean) (v := 0) hx hb hr (rfl) (fun t ht hW => ⟨⟨congrArg (fun z => Outcome.returned (some (Value.int z))) (show (0 : Int32) = pI (eOn n X Y i px.toInt py.toInt) from (zp_f (by unfold eOn onS; omega)).symm), by rw [ht]; exact hP9, hD9⟩, hS.F ht⟩) hS.2.2 dX7_isOn_106
        · have c_12 : (Y (nxt n i)).toInt ≤ py.toInt := zc_nlt rfl rfl c_12
          refine lv_iload_n hx hb dX7_isOn_84 rfl (lv_at hl 4 rfl) ?_
          refine lv_aload_n hx hb dX7_isOn_85 rfl (lv_at hl 1 rfl) ?_
          refine va_get (D := (dC, dI)) (ci := 6) (v := .ref ry) (C := RX7) (T := TX7) (N := 4) hx hb hts inX7 hown hK hP 0 rfl rfl 1 (Nat.le_of_ble_eq_true rfl) (hts _ mw_168) (fun _ h9 => h9) rfl dX7_isOn_86 ?_
          refine lv_iload_n hx hb dX7_isOn_89 rfl (lv_at hl 2 rfl) ?_
          refine z_iald hx hb hK hP 2 0 rfl rfl (e := i) rfl b9_5 b9_6 dX7_isOn_90 ?_
          refine lv_icmp_le (tgt := 107) hx hb dX7_isOn_91 rfl (fun c_13 => ?_) (fun c_13 => ?_)
          · have c_13 : py.toInt ≤ (Y i).toInt := zc_le rfl rfl c_13
            exact hj_3 (by omega)
          · have c_13 : (Y i).toInt < py.toInt := zc_nle rfl rfl c_13
            refine lv_iload_n hx hb dX7_isOn_94 rfl (lv_at hl 4 rfl) ?_
            refine lv_aload_n hx hb dX7_isOn_95 rfl (lv_at hl 1 rfl) ?_
            refine va_get (D := (dC, dI)) (ci := 6) (v := .ref ry) (C := RX7) (T := TX7) (N := 4) hx hb hts inX7 hown hK hP 0 rfl rfl 1 (Nat.le_of_ble_eq_true rfl) (hts _ mw_168) (fun _ h9 => h9) rfl dX7_isOn_96 ?_
            refine lv_iload hx hb dX7_isOn_99 (lv_at hl 0 rfl) ?_
            refine z_iald hx hb hK hP 2 0 rfl rfl (e := nxt n i) rfl b9_11 b9_6 dX7_isOn_101 ?_
            refine lv_icmp_le (tgt := 107) hx hb dX7_isOn_102 rfl (fun c_14 => ?_) (fun c_14 => ?_)
            · have c_14 : py.toInt ≤ (Y (nxt n i)).toInt := zc_le rfl rfl c_14
              exact hj_3 (by omega)
            · have c_14 : (Y (nxt n i)).toInt < py.toInt := zc_nle rfl rfl c_14
              refine lv_iconst (v := 0) hx hb dX7_isOn_105 rfl ?_
              obtain ⟨hP9, hD9⟩ := zu_sub (wc := [_, _, _]) hP hD [true, true, true] rfl rfl
              rw [hQ9]
              exact W.zret (ty := .boolean) (v := 0) hx hb hr (rfl) (fun t ht hW => ⟨⟨congrArg (fun z => Outcome.returned (some (Value.int z))) (show (0 : Int32) = pI (eOn n X Y i px.toInt py.toInt) from (zp_f (by unfold eOn onS; omega)).symm), by rw [ht]; exact hP9, hD9⟩, hS.F ht⟩) hS.2.2 dX7_isOn_106
    refine lv_iload_n hx hb dX7_isOn_19 rfl (lv_at hl 3 rfl) ?_
    refine lv_aload_n hx hb dX7_isOn_20 rfl (lv_at hl 1 rfl) ?_
    refine va_get (D := (dC, dI)) (ci := 6) (v := .ref rx) (C := RX7) (T := TX7) (N := 4) hx hb hts inX7 hown hK hP 0 rfl rfl 0 (Nat.le_of_ble_eq_true rfl) (hts _ mw_161) (fun _ h9 => h9) rfl dX7_isOn_21 ?_
    refine lv_iload_n hx hb dX7_isOn_24 rfl (lv_at hl 2 rfl) ?_
    have b9_15 : i < cap := by omega
    have b9_16 : cap < 2147483648 := by omega
    refine z_iald hx hb hK hP 1 0 rfl rfl (e := i) rfl b9_15 b9_16 dX7_isOn_25 ?_
    refine lv_icmp_ge (tgt := 40) hx hb dX7_isOn_26 rfl (fun c_17 => ?_) (fun c_17 => ?_)
    · have c_17 : (X i).toInt ≤ px.toInt := zc_le rfl rfl c_17
      refine lv_iload_n hx hb dX7_isOn_40 rfl (lv_at hl 3 rfl) ?_
      refine lv_aload_n hx hb dX7_isOn_41 rfl (lv_at hl 1 rfl) ?_
      refine va_get (D := (dC, dI)) (ci := 6) (v := .ref rx) (C := RX7) (T := TX7) (N := 4) hx hb hts inX7 hown hK hP 0 rfl rfl 0 (Nat.le_of_ble_eq_true rfl) (hts _ mw_161) (fun _ h9 => h9) rfl dX7_isOn_42 ?_
      refine lv_iload_n hx hb dX7_isOn_45 rfl (lv_at hl 2 rfl) ?_
      refine z_iald hx hb hK hP 1 0 rfl rfl (e := i) rfl b9_15 b9_16 dX7_isOn_46 ?_
      refine lv_icmp_le (tgt := 63) hx hb dX7_isOn_47 rfl (fun c_18 => ?_) (fun c_18 => ?_)
      · have c_18 : px.toInt ≤ (X i).toInt := zc_le rfl rfl c_18
        exact hj_2 (by omega)
      · have c_18 : (X i).toInt < px.toInt := zc_nle rfl rfl c_18
        refine lv_iload_n hx hb dX7_isOn_50 rfl (lv_at hl 3 rfl) ?_
        refine lv_aload_n hx hb dX7_isOn_51 rfl (lv_at hl 1 rfl) ?_
        refine va_get (D := (dC, dI)) (ci := 6) (v := .ref rx) (C := RX7) (T := TX7) (N := 4) hx hb hts inX7 hown hK hP 0 rfl rfl 0 (Nat.le_of_ble_eq_true rfl) (hts _ mw_161) (fun _ h9 => h9) rfl dX7_isOn_52 ?_
        refine lv_iload hx hb dX7_isOn_55 (lv_at hl 0 rfl) ?_
        have b9_19 : nxt n i < cap := by omega
        refine z_iald hx hb hK hP 1 0 rfl rfl (e := nxt n i) rfl b9_19 b9_16 dX7_isOn_57 ?_
        refine lv_icmp_le (tgt := 63) hx hb dX7_isOn_58 rfl (fun c_20 => ?_) (fun c_20 => ?_)
        · have c_20 : px.toInt ≤ (X (nxt n i)).toInt := zc_le rfl rfl c_20
          exact hj_2 (by omega)
        · have c_20 : (X (nxt n i)).toInt < px.toInt := zc_nle rfl rfl c_20
          refine lv_iconst (v := 0) hx hb dX7_isOn_61 rfl ?_
          obtain ⟨hP9, hD9⟩ := zu_sub (wc := [_, _, _]) hP hD [true, true, true] rfl rfl
          rw [hQ9]
          exact W.zret (ty := .boolean) (v := 0) hx hb hr (rfl) (fun t ht hW => ⟨⟨congrArg (fun z => Outcome.returned (some (Value.int z))) (show (0 : Int32) = pI (eOn n X Y i px.toInt py.toInt) from (zp_f (by unfold eOn onS; omega)).symm), by rw [ht]; exact hP9, hD9⟩, hS.F ht⟩) hS.2.2 dX7_isOn_62
    · have c_17 : px.toInt < (X i).toInt := zc_nle rfl rfl c_17
      refine lv_iload_n hx hb dX7_isOn_29 rfl (lv_at hl 3 rfl) ?_
      refine lv_aload_n hx hb dX7_isOn_30 rfl (lv_at hl 1 rfl) ?_
      refine va_get (D := (dC, dI)) (ci := 6) (v := .ref rx) (C := RX7) (T := TX7) (N := 4) hx hb hts inX7 hown hK hP 0 rfl rfl 0 (Nat.le_of_ble_eq_true rfl) (hts _ mw_161) (fun _ h9 => h9) rfl dX7_isOn_31 ?_
      refine lv_iload hx hb dX7_isOn_34 (lv_at hl 0 rfl) ?_
      have b9_21 : nxt n i < cap := by omega
      refine z_iald hx hb hK hP 1 0 rfl rfl (e := nxt n i) rfl b9_21 b9_16 dX7_isOn_36 ?_
      refine lv_icmp_lt (tgt := 61) hx hb dX7_isOn_37 rfl (fun c_22 => ?_) (fun c_22 => ?_)
      · have c_22 : px.toInt < (X (nxt n i)).toInt := zc_lt rfl rfl c_22
        refine lv_iconst (v := 0) hx hb dX7_isOn_61 rfl ?_
        obtain ⟨hP9, hD9⟩ := zu_sub (wc := [_, _, _]) hP hD [true, true, true] rfl rfl
        rw [hQ9]
        exact W.zret (ty := .boolean) (v := 0) hx hb hr (rfl) (fun t ht hW => ⟨⟨congrArg (fun z => Outcome.returned (some (Value.int z))) (show (0 : Int32) = pI (eOn n X Y i px.toInt py.toInt) from (zp_f (by unfold eOn onS; omega)).symm), by rw [ht]; exact hP9, hD9⟩, hS.F ht⟩) hS.2.2 dX7_isOn_62
      · have c_22 : (X (nxt n i)).toInt ≤ px.toInt := zc_nlt rfl rfl c_22
        refine lv_iload_n hx hb dX7_isOn_40 rfl (lv_at hl 3 rfl) ?_
        refine lv_aload_n hx hb dX7_isOn_41 rfl (lv_at hl 1 rfl) ?_
        refine va_get (D := (dC, dI)) (ci := 6) (v := .ref rx) (C := RX7) (T := TX7) (N := 4) hx hb hts inX7 hown hK hP 0 rfl rfl 0 (Nat.le_of_ble_eq_true rfl) (hts _ mw_161) (fun _ h9 => h9) rfl dX7_isOn_42 ?_
        refine lv_iload_n hx hb dX7_isOn_45 rfl (lv_at hl 2 rfl) ?_
        refine z_iald hx hb hK hP 1 0 rfl rfl (e := i) rfl b9_15 b9_16 dX7_isOn_46 ?_
        refine lv_icmp_le (tgt := 63) hx hb dX7_isOn_47 rfl (fun c_23 => ?_) (fun c_23 => ?_)
        · have c_23 : px.toInt ≤ (X i).toInt := zc_le rfl rfl c_23
          exact hj_2 (by omega)
        · have c_23 : (X i).toInt < px.toInt := zc_nle rfl rfl c_23
          refine lv_iload_n hx hb dX7_isOn_50 rfl (lv_at hl 3 rfl) ?_
          refine lv_aload_n hx hb dX7_isOn_51 rfl (lv_at hl 1 rfl) ?_
          refine va_get (D := (dC, dI)) (ci := 6) (v := .ref rx) (C := RX7) (T := TX7) (N := 4) hx hb hts inX7 hown hK hP 0 rfl rfl 0 (Nat.le_of_ble_eq_true rfl) (hts _ mw_161) (fun _ h9 => h9) rfl dX7_isOn_52 ?_
          refine lv_iload hx hb dX7_isOn_55 (lv_at hl 0 rfl) ?_
          refine z_iald hx hb hK hP 1 0 rfl rfl (e := nxt n i) rfl b9_21 b9_16 dX7_isOn_57 ?_
          refine lv_icmp_le (tgt := 63) hx hb dX7_isOn_58 rfl (fun c_24 => ?_) (fun c_24 => ?_)
          · have c_24 : px.toInt ≤ (X (nxt n i)).toInt := zc_le rfl rfl c_24
            exact hj_2 (by omega)
          · have c_24 : (X (nxt n i)).toInt < px.toInt := zc_nle rfl rfl c_24
            refine lv_iconst (v := 0) hx hb dX7_isOn_61 rfl ?_
            obtain ⟨hP9, hD9⟩ := zu_sub (wc := [_, _, _]) hP hD [true, true, true] rfl rfl
            rw [hQ9]
            exact W.zret (ty := .boolean) (v := 0) hx hb hr (rfl) (fun t ht hW => ⟨⟨congrArg (fun z => Outcome.returned (some (Value.int z))) (show (0 : Int32) = pI (eOn n X Y i px.toInt py.toInt) from (zp_f (by unfold eOn onS; omega)).symm), by rw [ht]; exact hP9, hD9⟩, hS.F ht⟩) hS.2.2 dX7_isOn_62
  have b9_26 : (i + 1) < 2147483648 := by omega
  have b9_27 : n < 2147483648 := by omega
  refine lv_icmp_ge (tgt := 16) hx hb dX7_isOn_7 rfl (fun c_25 => ?_) (fun c_25 => ?_)
  · have c_25 : ((n : Nat) : Int) ≤ ((i + 1 : Nat) : Int) := zc_le (nI_toInt b9_27) (nI_toInt b9_26) c_25
    refine lv_iconst (v := 0) hx hb dX7_isOn_16 rfl ?_
    refine zz_i (v := nI (nxt n i)) (by first | (rw [nxt, if_pos (by omega)]) | (rw [nxt, if_neg (by omega)]; first | done | rfl)) ?_
    exact hj_1 
  · have c_25 : ((i + 1 : Nat) : Int) < ((n : Nat) : Int) := zc_nle (nI_toInt b9_27) (nI_toInt b9_26) c_25
    refine lv_iload_n hx hb dX7_isOn_10 rfl (lv_at hl 1 rfl) ?_
    refine lv_iconst (v := 1) hx hb dX7_isOn_11 rfl ?_
    refine lv_iadd hx hb dX7_isOn_12 ?_
    refine zz_i (v := nI (i + 1)) (nI_add i 1) ?_
    refine lv_goto (tgt := 17) hx hb dX7_isOn_13 rfl ?_
    refine zz_i (v := nI (nxt n i)) (by first | (rw [nxt, if_pos (by omega)]) | (rw [nxt, if_neg (by omega)]; first | done | rfl)) ?_
    exact hj_1 
set_option maxHeartbeats 4000000 in
set_option maxRecDepth 100000 in
theorem k_Row_isOnSet (l : Launch) (dC : Nat → ClassId) (dI : Nat → Nat → Nat) (cI cZ cF : ClassId) (sz : Nat) (r : Nat) (rx : Nat) (ry : Nat) (n : Nat) (cap : Nat) (X : Nat → Int32) (Y : Nat → Int32) (rg : Int32) (px : Int32) (py : Int32) (hn : n ≤ cap) (hcap : cap ≤ 1000) (hp : pls n X Y) (hpx : pl px) (hpy : pl py) : zM l yX7_isOnSet cX7_isOnSet 4 (some .boolean) ({ frames := 2, cells := 0, slots := 0, locals := 48 } : Room) [.ref r, .int px, .int py] (dC, dI) (zTy cI cZ cF) [(oc6 r (.ref rx) (.ref ry) (nI n) rg), (oa rx cI cap X), (oa ry cI cap Y)] sz (some (.int (pI (∃ i, i < prt n rg ∧ eOn n X Y i px.toInt py.toInt)))) (fun A t => zPD (dC, dI) classes A [(oc6 r (.ref rx) (.ref ry) (nI n) rg), (oa rx cI cap X), (oa ry cI cap Y)] t.heap) 0 0 := by
  refine zIn (own := "ScaleShop$Row") (loc := [(0, .ref r), (1, .int px), (2, .int py)]) rfl rfl rfl rfl (fun p e s m below meth c hx hb hr hts hown hlocks hml hnm9 A hA hS hP hD hK hXN Q9 hQ9 ls hl => ?_)
  have hpr := prt_le n rg
  refine lv_iconst (v := 0) hx hb dX7_isOnSet_0 rfl ?_
  refine lv_istore_n (lv' := [(3, .int 0), (0, .ref r), (1, .int px), (2, .int py)]) hx hb dX7_isOnSet_1 rfl hl (Nat.le_of_ble_eq_true rfl) rfl (fun ls hl => ?_)
  have hl_2 : ∀ (n9 : Nat) (i : Nat) (H : Heap) (locs : List Loc) (ls : Array Slot), prt n rg - i < n9 → (i ≤ prt n rg) → (∀ k, k < i → ¬ eOn n X Y k px.toInt py.toInt) → va_P (dC, dI) classes [(oc6 r (.ref rx) (.ref ry) (nI n) rg), (oa rx cI cap X), (oa ry cI cap Y)] H → va_D A [(oc6 r (.ref rx) (.ref ry) (nI n) rg), (oa rx cI cap X), (oa ry cI cap Y)] → va_S A s.heap H locs → lv_has ls 4 [(3, .int (nI i)), (0, .ref r), (1, .int px), (2, .int py)] → W p l e ({ frames := 2, cells := 0, slots := 0, locals := 48 } : Room) s m ([.ref r, .int px, .int py] : List Value).toArray below meth c H locs 0 0 Q9 (F0 m 2 ls []) := by
    intro n9
    induction n9 with
    | zero => intro i H locs ls hm; exact absurd hm (Nat.not_lt_zero _)
    | succ n9 ih_2 =>
      intro i H locs ls hm hi hno hP hD hS hl
      have hpr := prt_le n rg
      refine lv_iload_n hx hb dX7_isOnSet_2 rfl (lv_at hl 0 rfl) ?_
      refine lv_aload_n hx hb dX7_isOnSet_3 rfl (lv_at hl 1 rfl) ?_
      obtain ⟨hPc, hDc, hFc⟩ := zo_sub (wc := [_, _, _]) hP hD hS hA [0, 1, 2] rfl rfl
      refine zcall (st1 := [.int (nI (prt n rg)), .int (nI i)]) (va_runV (As := []) (rest := [.int (nI i)]) ⟨hx, hb, hml, hown, hts⟩ (k_Row_parts l dC dI cI cZ cF H.size r rx ry n cap X Y rg (by first | with_reducible assumption | omega) (by first | with_reducible assumption | omega)) (csV_2 hts rfl rfl ⟨Nat.le_of_ble_eq_true rfl, Nat.le_of_ble_eq_true rfl⟩) (zPV2 (q0 := 0) (ci := 6) hPc hDc hK hXN rfl rfl) rfl rfl hl.1 rfl (lv_room (Nat.le_of_ble_eq_true rfl)) dX7_isOnSet_4 ⟨Nat.le_of_ble_eq_true rfl, Nat.le_of_ble_eq_true rfl⟩) hS hFc hFc rfl (fun t H locs ht hB hk1 hS => ?_)
      obtain ⟨hP1, hD1⟩ := hB
      rw [ht] at hP1
      obtain ⟨hP, hD⟩ := zn (W2 := [_, _, _]) hP hD hk1 hFc hP1 hD1 [0, 1, 2] [] [false, false, false] [0, 1, 2] (by decide +kernel) rfl rfl rfl rfl rfl
      clear hk1 hPc hDc hFc hP1 hD1 ht
      have b9_2 : i < 2147483648 := by omega
      have b9_3 : (prt n rg) < 2147483648 := by omega
      refine lv_icmp_ge (tgt := 28) hx hb dX7_isOnSet_7 rfl (fun c_1 => ?_) (fun c_1 => ?_)
      · have c_1 : ((prt n rg : Nat) : Int) ≤ ((i : Nat) : Int) := zc_le (nI_toInt b9_3) (nI_toInt b9_2) c_1
        refine lv_iconst (v := 0) hx hb dX7_isOnSet_28 rfl ?_
        obtain ⟨hP9, hD9⟩ := zu_sub (wc := [_, _, _]) hP hD [true, true, true] rfl rfl
        rw [hQ9]
        exact W.zret (ty := .boolean) (v := 0) hx hb hr (rfl) (fun t ht hW => ⟨⟨congrArg (fun z => Outcome.returned (some (Value.int z))) (show (0 : Int32) = pI (∃ i, i < prt n rg ∧ eOn n X Y i px.toInt py.toInt) from (zp_f (fun ⟨k, hk, h⟩ => hno k (by omega) h)).symm), by rw [ht]; exact hP9, hD9⟩, hS.F ht⟩) hS.2.2 dX7_isOnSet_29
      · have c_1 : ((i : Nat) : Int) < ((prt n rg : Nat) : Int) := zc_nle (nI_toInt b9_3) (nI_toInt b9_2) c_1
        refine lv_aload_n hx hb dX7_isOnSet_10 rfl (lv_at hl 1 rfl) ?_
        refine lv_iload_n hx hb dX7_isOnSet_11 rfl (lv_at hl 0 rfl) ?_
        refine lv_iload_n hx hb dX7_isOnSet_12 rfl (lv_at hl 2 rfl) ?_
        refine lv_iload_n hx hb dX7_isOnSet_13 rfl (lv_at hl 3 rfl) ?_
        obtain ⟨hPc, hDc, hFc⟩ := zo_sub (wc := [_, _, _]) hP hD hS hA [0, 1, 2] rfl rfl
        refine zcall (st1 := [.int (pI (eOn n X Y i px.toInt py.toInt))]) (va_runV (As := [.int (nI i), .int px, .int py]) (rest := []) ⟨hx, hb, hml, hown, hts⟩ (k_Row_isOn l dC dI cI cZ cF H.size r rx ry n cap X Y rg i px py (by first | with_reducible assumption | omega) (by first | with_reducible assumption | omega) (by first | with_reducible assumption | assumption) (by first | with_reducible assumption | omega) (by first | with_reducible assumption | assumption) (by first | with_reducible assumption | assumption)) (csV_3 hts rfl rfl ⟨Nat.le_of_ble_eq_true rfl, Nat.le_of_ble_eq_true rfl⟩) (zPV2 (q0 := 0) (ci := 6) hPc hDc hK hXN rfl rfl) rfl rfl hl.1 rfl (lv_room (Nat.le_of_ble_eq_true rfl)) dX7_isOnSet_14 ⟨Nat.le_of_ble_eq_true rfl, Nat.le_of_ble_eq_true rfl⟩) hS hFc hFc rfl (fun t H locs ht hB hk1 hS => ?_)
        obtain ⟨hP1, hD1⟩ := hB
        rw [ht] at hP1
        obtain ⟨hP, hD⟩ := zn (W2 := [_, _, _]) hP hD hk1 hFc hP1 hD1 [0, 1, 2] [] [false, false, false] [0, 1, 2] (by decide +kernel) rfl rfl rfl rfl rfl
        clear hk1 hPc hDc hFc hP1 hD1 ht
        refine lv_if_eq (tgt := 22) hx hb dX7_isOnSet_17 rfl (fun c_4 => ?_) (fun c_4 => ?_)
        · have c_4 : ¬ (eOn n X Y i px.toInt py.toInt) := zp_0 c_4
          refine lv_iinc (v := nI (i + 1)) (lv' := [(3, .int (nI (i + 1))), (0, .ref r), (1, .int px), (2, .int py)]) hx hb dX7_isOnSet_22 hl (k := 0) rfl (nI_add i 1) (Nat.le_of_ble_eq_true rfl) rfl (fun ls hl => ?_)
          refine lv_goto (tgt := 2) hx hb dX7_isOnSet_25 rfl ?_
          exact ih_2 (i + 1) H locs ls (by first | with_reducible assumption | omega) (by first | with_reducible assumption | omega) (by intro k hk; rcases Nat.lt_or_ge k i with h | h; exact hno k h; have e9 : k = i := (by first | with_reducible assumption | omega); subst e9; assumption) hP hD hS (lv_sub hl [0, 1, 2, 3] rfl)
        · have c_4 : eOn n X Y i px.toInt py.toInt := zp_1 c_4
          refine lv_iconst (v := 1) hx hb dX7_isOnSet_20 rfl ?_
          obtain ⟨hP9, hD9⟩ := zu_sub (wc := [_, _, _]) hP hD [true, true, true] rfl rfl
          rw [hQ9]
          exact W.zret (ty := .boolean) (v := 1) hx hb hr (rfl) (fun t ht hW => ⟨⟨congrArg (fun z => Outcome.returned (some (Value.int z))) (show (1 : Int32) = pI (∃ i, i < prt n rg ∧ eOn n X Y i px.toInt py.toInt) from (zp_t (⟨i, by omega, by assumption⟩)).symm), by rw [ht]; exact hP9, hD9⟩, hS.F ht⟩) hS.2.2 dX7_isOnSet_21
  exact hl_2 _ 0 s.heap [] ls (Nat.lt_succ_self _) (by first | with_reducible assumption | omega) (by intro k hk; omega) hP hD hS (lv_sub hl [0, 1, 2, 3] rfl)
set_option maxHeartbeats 4000000 in
set_option maxRecDepth 100000 in
theorem k_Row_isCorner (l : Launch) (dC : Nat → ClassId) (dI : Nat → Nat → Nat) (cI cZ cF : ClassId) (sz : Nat) (r : Nat) (rx : Nat) (ry : Nat) (n : Nat) (cap : Nat) (X : Nat → Int32) (Y : Nat → Int32) (rg : Int32) (i : Nat) (px : Int32) (py : Int32) (hn : n ≤ cap) (hcap : cap ≤ 1000) (hi : i < n) : zM l yX7_isCorner cX7_isCorner 4 (some .boolean) ({ frames := 0, cells := 0, slots := 0, locals := 0 } : Room) [.ref r, .int (nI i), .int px, .int py] (dC, dI) (zTy cI cZ cF) [(oc6 r (.ref rx) (.ref ry) (nI n) rg), (oa rx cI cap X), (oa ry cI cap Y)] sz (some (.int (pI ((X i).toInt = px.toInt ∧ (Y i).toInt = py.toInt)))) (fun A t => zPD (dC, dI) classes A [(oc6 r (.ref rx) (.ref ry) (nI n) rg), (oa rx cI cap X), (oa ry cI cap Y)] t.heap) 0 0 := by
  refine zIn (own := "ScaleShop$Row") (loc := [(0, .ref r), (1, .int (nI i)), (2, .int px), (3, .int py)]) rfl rfl rfl rfl (fun p e s m below meth c hx hb hr hts hown hlocks hml hnm9 A hA hS hP hD hK hXN Q9 hQ9 ls hl => ?_)
  refine lv_aload_n hx hb dX7_isCorner_0 rfl (lv_at hl 0 rfl) ?_
  refine va_get (D := (dC, dI)) (ci := 6) (v := .ref rx) (C := RX7) (T := TX7) (N := 4) hx hb hts inX7 hown hK hP 0 rfl rfl 0 (Nat.le_of_ble_eq_true rfl) (hts _ mw_161) (fun _ h9 => h9) rfl dX7_isCorner_1 ?_
  refine lv_iload_n hx hb dX7_isCorner_4 rfl (lv_at hl 1 rfl) ?_
  have b9_1 : i < cap := by omega
  have b9_2 : cap < 2147483648 := by omega
  refine z_iald hx hb hK hP 1 0 rfl rfl (e := i) rfl b9_1 b9_2 dX7_isCorner_5 ?_
  refine lv_iload_n hx hb dX7_isCorner_6 rfl (lv_at hl 2 rfl) ?_
  refine lv_icmp_ne (tgt := 24) hx hb dX7_isCorner_7 rfl (fun c_3 => ?_) (fun c_3 => ?_)
  · have c_3 : ¬ (X i).toInt = px.toInt := zc_ne rfl rfl c_3
    refine lv_iconst (v := 0) hx hb dX7_isCorner_24 rfl ?_
    obtain ⟨hP9, hD9⟩ := zu_sub (wc := [_, _, _]) hP hD [true, true, true] rfl rfl
    rw [hQ9]
    exact W.zret (ty := .boolean) (v := 0) hx hb hr (rfl) (fun t ht hW => ⟨⟨congrArg (fun z => Outcome.returned (some (Value.int z))) (show (0 : Int32) = pI ((X i).toInt = px.toInt ∧ (Y i).toInt = py.toInt) from (zp_f (by omega)).symm), by rw [ht]; exact hP9, hD9⟩, hS.F ht⟩) hS.2.2 dX7_isCorner_25
  · have c_3 : (X i).toInt = px.toInt := zc_eq rfl rfl c_3
    refine lv_aload_n hx hb dX7_isCorner_10 rfl (lv_at hl 0 rfl) ?_
    refine va_get (D := (dC, dI)) (ci := 6) (v := .ref ry) (C := RX7) (T := TX7) (N := 4) hx hb hts inX7 hown hK hP 0 rfl rfl 1 (Nat.le_of_ble_eq_true rfl) (hts _ mw_168) (fun _ h9 => h9) rfl dX7_isCorner_11 ?_
    refine lv_iload_n hx hb dX7_isCorner_14 rfl (lv_at hl 1 rfl) ?_
    refine z_iald hx hb hK hP 2 0 rfl rfl (e := i) rfl b9_1 b9_2 dX7_isCorner_15 ?_
    refine lv_iload_n hx hb dX7_isCorner_16 rfl (lv_at hl 3 rfl) ?_
    refine lv_icmp_ne (tgt := 24) hx hb dX7_isCorner_17 rfl (fun c_4 => ?_) (fun c_4 => ?_)
    · have c_4 : ¬ (Y i).toInt = py.toInt := zc_ne rfl rfl c_4
      refine lv_iconst (v := 0) hx hb dX7_isCorner_24 rfl ?_
      obtain ⟨hP9, hD9⟩ := zu_sub (wc := [_, _, _]) hP hD [true, true, true] rfl rfl
      rw [hQ9]
      exact W.zret (ty := .boolean) (v := 0) hx hb hr (rfl) (fun t ht hW => ⟨⟨congrArg (fun z => Outcome.returned (some (Value.int z))) (show (0 : Int32) = pI ((X i).toInt = px.toInt ∧ (Y i).toInt = py.toInt) from (zp_f (by omega)).symm), by rw [ht]; exact hP9, hD9⟩, hS.F ht⟩) hS.2.2 dX7_isCorner_25
    · have c_4 : (Y i).toInt = py.toInt := zc_eq rfl rfl c_4
      refine lv_iconst (v := 1) hx hb dX7_isCorner_20 rfl ?_
      refine lv_goto (tgt := 25) hx hb dX7_isCorner_21 rfl ?_
      obtain ⟨hP9, hD9⟩ := zu_sub (wc := [_, _, _]) hP hD [true, true, true] rfl rfl
      rw [hQ9]
      exact W.zret (ty := .boolean) (v := 1) hx hb hr (rfl) (fun t ht hW => ⟨⟨congrArg (fun z => Outcome.returned (some (Value.int z))) (show (1 : Int32) = pI ((X i).toInt = px.toInt ∧ (Y i).toInt = py.toInt) from (zp_t (by omega)).symm), by rw [ht]; exact hP9, hD9⟩, hS.F ht⟩) hS.2.2 dX7_isCorner_25
set_option maxHeartbeats 4000000 in
set_option maxRecDepth 100000 in
theorem k_Row_partsMeet (l : Launch) (dC : Nat → ClassId) (dI : Nat → Nat → Nat) (cI cZ cF : ClassId) (sz : Nat) (r : Nat) (rx : Nat) (ry : Nat) (n : Nat) (cap : Nat) (X : Nat → Int32) (Y : Nat → Int32) (rg : Int32) (u : Nat) (ux : Nat) (uy : Nat) (m2 : Nat) (cap2 : Nat) (U : Nat → Int32) (V : Nat → Int32) (rh : Int32) (i : Nat) (j : Nat) (hn : n ≤ cap) (hcap : cap ≤ 1000) (hp : pls n X Y) (hm : m2 ≤ cap2) (hcap2 : cap2 ≤ 1000) (hq : pls m2 U V) (hi : i < n) (hj : j < m2) : zM l yX7_partsMeet cX7_partsMeet 18 (some .boolean) ({ frames := 0, cells := 0, slots := 0, locals := 0 } : Room) [.ref r, .int (nI i), .ref u, .int (nI j)] (dC, dI) (zTy cI cZ cF) [(oc6 r (.ref rx) (.ref ry) (nI n) rg), (oa rx cI cap X), (oa ry cI cap Y), (oc6 u (.ref ux) (.ref uy) (nI m2) rh), (oa ux cI cap2 U), (oa uy cI cap2 V)] sz (some (.int (pI (eMt n X Y i m2 U V j)))) (fun A t => zPD (dC, dI) classes A [(oc6 r (.ref rx) (.ref ry) (nI n) rg), (oa rx cI cap X), (oa ry cI cap Y), (oc6 u (.ref ux) (.ref uy) (nI m2) rh), (oa ux cI cap2 U), (oa uy cI cap2 V)] t.heap) 0 0 := by
  refine zIn (own := "ScaleShop$Row") (loc := [(0, .ref r), (1, .int (nI i)), (2, .ref u), (3, .int (nI j))]) rfl rfl rfl rfl (fun p e s m below meth c hx hb hr hts hown hlocks hml hnm9 A hA hS hP hD hK hXN Q9 hQ9 ls hl => ?_)
  refine lv_iload_n hx hb dX7_partsMeet_0 rfl (lv_at hl 1 rfl) ?_
  refine lv_iconst (v := 1) hx hb dX7_partsMeet_1 rfl ?_
  refine lv_iadd hx hb dX7_partsMeet_2 ?_
  refine zz_i (v := nI (i + 1)) (nI_add i 1) ?_
  refine lv_aload_n hx hb dX7_partsMeet_3 rfl (lv_at hl 0 rfl) ?_
  refine va_get (D := (dC, dI)) (ci := 6) (v := .int (nI n)) (C := RX7) (T := TX7) (N := 4) hx hb hts inX7 hown hK hP 0 rfl rfl 2 (Nat.le_of_ble_eq_true rfl) (hts _ mw_175) (fun _ h9 => h9) rfl dX7_partsMeet_4 ?_
  have hj_1 : W p l e ({ frames := 0, cells := 0, slots := 0, locals := 0 } : Room) s m ([.ref r, .int (nI i), .ref u, .int (nI j)] : List Value).toArray below meth c s.heap [] 0 0 Q9 (F0 m 17 ls [.int (nI (nxt n i))]) := by
    have hnx := nxt_lt (n := n) (i := i) (by omega)
    refine lv_istore (lv' := [(4, .int (nI (nxt n i))), (0, .ref r), (1, .int (nI i)), (2, .ref u), (3, .int (nI j))]) hx hb dX7_partsMeet_17 hl (Nat.le_of_ble_eq_true rfl) rfl (fun ls hl => ?_)
    refine lv_iload_n hx hb dX7_partsMeet_19 rfl (lv_at hl 4 rfl) ?_
    refine lv_iconst (v := 1) hx hb dX7_partsMeet_20 rfl ?_
    refine lv_iadd hx hb dX7_partsMeet_21 ?_
    refine zz_i (v := nI (j + 1)) (nI_add j 1) ?_
    refine lv_aload_n hx hb dX7_partsMeet_22 rfl (lv_at hl 3 rfl) ?_
    refine va_get (D := (dC, dI)) (ci := 6) (v := .int (nI m2)) (C := RX7) (T := TX7) (N := 4) hx hb hts inX7 hown hK hP 3 rfl rfl 2 (Nat.le_of_ble_eq_true rfl) (hts _ mw_175) (fun _ h9 => h9) rfl dX7_partsMeet_23 ?_
    have hj_2 : W p l e ({ frames := 0, cells := 0, slots := 0, locals := 0 } : Room) s m ([.ref r, .int (nI i), .ref u, .int (nI j)] : List Value).toArray below meth c s.heap [] 0 0 Q9 (F0 m 36 ls [.int (nI (nxt m2 j))]) := by
      have hnj := nxt_lt (n := m2) (i := j) (by omega)
      refine lv_istore (lv' := [(5, .int (nI (nxt m2 j))), (4, .int (nI (nxt n i))), (0, .ref r), (1, .int (nI i)), (2, .ref u), (3, .int (nI j))]) hx hb dX7_partsMeet_36 hl (Nat.le_of_ble_eq_true rfl) rfl (fun ls hl => ?_)
      refine lv_aload_n hx hb dX7_partsMeet_38 rfl (lv_at hl 2 rfl) ?_
      refine va_get (D := (dC, dI)) (ci := 6) (v := .ref rx) (C := RX7) (T := TX7) (N := 4) hx hb hts inX7 hown hK hP 0 rfl rfl 0 (Nat.le_of_ble_eq_true rfl) (hts _ mw_161) (fun _ h9 => h9) rfl dX7_partsMeet_39 ?_
      refine lv_iload_n hx hb dX7_partsMeet_42 rfl (lv_at hl 3 rfl) ?_
      have b9_3 : i < cap := by omega
      have b9_4 : cap < 2147483648 := by omega
      refine z_iald hx hb hK hP 1 0 rfl rfl (e := i) rfl b9_3 b9_4 dX7_partsMeet_43 ?_
      refine lv_istore (lv' := [(6, .int (X i)), (5, .int (nI (nxt m2 j))), (4, .int (nI (nxt n i))), (0, .ref r), (1, .int (nI i)), (2, .ref u), (3, .int (nI j))]) hx hb dX7_partsMeet_44 hl (Nat.le_of_ble_eq_true rfl) rfl (fun ls hl => ?_)
      refine lv_aload_n hx hb dX7_partsMeet_46 rfl (lv_at hl 3 rfl) ?_
      refine va_get (D := (dC, dI)) (ci := 6) (v := .ref ry) (C := RX7) (T := TX7) (N := 4) hx hb hts inX7 hown hK hP 0 rfl rfl 1 (Nat.le_of_ble_eq_true rfl) (hts _ mw_168) (fun _ h9 => h9) rfl dX7_partsMeet_47 ?_
      refine lv_iload_n hx hb dX7_partsMeet_50 rfl (lv_at hl 4 rfl) ?_
      refine z_iald hx hb hK hP 2 0 rfl rfl (e := i) rfl b9_3 b9_4 dX7_partsMeet_51 ?_
      refine lv_istore (lv' := [(7, .int (Y i)), (6, .int (X i)), (5, .int (nI (nxt m2 j))), (4, .int (nI (nxt n i))), (0, .ref r), (1, .int (nI i)), (2, .ref u), (3, .int (nI j))]) hx hb dX7_partsMeet_52 hl (Nat.le_of_ble_eq_true rfl) rfl (fun ls hl => ?_)
      refine lv_aload_n hx hb dX7_partsMeet_54 rfl (lv_at hl 4 rfl) ?_
      refine va_get (D := (dC, dI)) (ci := 6) (v := .ref rx) (C := RX7) (T := TX7) (N := 4) hx hb hts inX7 hown hK hP 0 rfl rfl 0 (Nat.le_of_ble_eq_true rfl) (hts _ mw_161) (fun _ h9 => h9) rfl dX7_partsMeet_55 ?_
      refine lv_iload hx hb dX7_partsMeet_58 (lv_at hl 3 rfl) ?_
      have b9_5 : nxt n i < cap := by omega
      refine z_iald hx hb hK hP 1 0 rfl rfl (e := nxt n i) rfl b9_5 b9_4 dX7_partsMeet_60 ?_
      refine lv_istore (lv' := [(8, .int (X (nxt n i))), (7, .int (Y i)), (6, .int (X i)), (5, .int (nI (nxt m2 j))), (4, .int (nI (nxt n i))), (0, .ref r), (1, .int (nI i)), (2, .ref u), (3, .int (nI j))]) hx hb dX7_partsMeet_61 hl (Nat.le_of_ble_eq_true rfl) rfl (fun ls hl => ?_)
      refine lv_aload_n hx hb dX7_partsMeet_63 rfl (lv_at hl 5 rfl) ?_
      refine va_get (D := (dC, dI)) (ci := 6) (v := .ref ry) (C := RX7) (T := TX7) (N := 4) hx hb hts inX7 hown hK hP 0 rfl rfl 1 (Nat.le_of_ble_eq_true rfl) (hts _ mw_168) (fun _ h9 => h9) rfl dX7_partsMeet_64 ?_
      refine lv_iload hx hb dX7_partsMeet_67 (lv_at hl 4 rfl) ?_
      refine z_iald hx hb hK hP 2 0 rfl rfl (e := nxt n i) rfl b9_5 b9_4 dX7_partsMeet_69 ?_
      refine lv_istore (lv' := [(9, .int (Y (nxt n i))), (8, .int (X (nxt n i))), (7, .int (Y i)), (6, .int (X i)), (5, .int (nI (nxt m2 j))), (4, .int (nI (nxt n i))), (0, .ref r), (1, .int (nI i)), (2, .ref u), (3, .int (nI j))]) hx hb dX7_partsMeet_70 hl (Nat.le_of_ble_eq_true rfl) rfl (fun ls hl => ?_)
      refine lv_aload_n hx hb dX7_partsMeet_72 rfl (lv_at hl 8 rfl) ?_
      refine va_get (D := (dC, dI)) (ci := 6) (v := .ref ux) (C := RX7) (T := TX7) (N := 4) hx hb hts inX7 hown hK hP 3 rfl rfl 0 (Nat.le_of_ble_eq_true rfl) (hts _ mw_161) (fun _ h9 => h9) rfl dX7_partsMeet_73 ?_
      refine lv_iload_n hx hb dX7_partsMeet_76 rfl (lv_at hl 9 rfl) ?_
      have b9_6 : j < cap2 := by omega
      have b9_7 : cap2 < 2147483648 := by omega
      refine z_iald hx hb hK hP 4 0 rfl rfl (e := j) rfl b9_6 b9_7 dX7_partsMeet_77 ?_
      refine lv_istore (lv' := [(10, .int (U j)), (9, .int (Y (nxt n i))), (8, .int (X (nxt n i))), (7, .int (Y i)), (6, .int (X i)), (5, .int (nI (nxt m2 j))), (4, .int (nI (nxt n i))), (0, .ref r), (1, .int (nI i)), (2, .ref u), (3, .int (nI j))]) hx hb dX7_partsMeet_78 hl (Nat.le_of_ble_eq_true rfl) rfl (fun ls hl => ?_)
      refine lv_aload_n hx hb dX7_partsMeet_80 rfl (lv_at hl 9 rfl) ?_
      refine va_get (D := (dC, dI)) (ci := 6) (v := .ref uy) (C := RX7) (T := TX7) (N := 4) hx hb hts inX7 hown hK hP 3 rfl rfl 1 (Nat.le_of_ble_eq_true rfl) (hts _ mw_168) (fun _ h9 => h9) rfl dX7_partsMeet_81 ?_
      refine lv_iload_n hx hb dX7_partsMeet_84 rfl (lv_at hl 10 rfl) ?_
      refine z_iald hx hb hK hP 5 0 rfl rfl (e := j) rfl b9_6 b9_7 dX7_partsMeet_85 ?_
      refine lv_istore (lv' := [(11, .int (V j)), (10, .int (U j)), (9, .int (Y (nxt n i))), (8, .int (X (nxt n i))), (7, .int (Y i)), (6, .int (X i)), (5, .int (nI (nxt m2 j))), (4, .int (nI (nxt n i))), (0, .ref r), (1, .int (nI i)), (2, .ref u), (3, .int (nI j))]) hx hb dX7_partsMeet_86 hl (Nat.le_of_ble_eq_true rfl) rfl (fun ls hl => ?_)
      refine lv_aload_n hx hb dX7_partsMeet_88 rfl (lv_at hl 10 rfl) ?_
      refine va_get (D := (dC, dI)) (ci := 6) (v := .ref ux) (C := RX7) (T := TX7) (N := 4) hx hb hts inX7 hown hK hP 3 rfl rfl 0 (Nat.le_of_ble_eq_true rfl) (hts _ mw_161) (fun _ h9 => h9) rfl dX7_partsMeet_89 ?_
      refine lv_iload hx hb dX7_partsMeet_92 (lv_at hl 6 rfl) ?_
      have b9_8 : nxt m2 j < cap2 := by omega
      refine z_iald hx hb hK hP 4 0 rfl rfl (e := nxt m2 j) rfl b9_8 b9_7 dX7_partsMeet_94 ?_
      refine lv_istore (lv' := [(12, .int (U (nxt m2 j))), (11, .int (V j)), (10, .int (U j)), (9, .int (Y (nxt n i))), (8, .int (X (nxt n i))), (7, .int (Y i)), (6, .int (X i)), (5, .int (nI (nxt m2 j))), (4, .int (nI (nxt n i))), (0, .ref r), (1, .int (nI i)), (2, .ref u), (3, .int (nI j))]) hx hb dX7_partsMeet_95 hl (Nat.le_of_ble_eq_true rfl) rfl (fun ls hl => ?_)
      refine lv_aload_n hx hb dX7_partsMeet_97 rfl (lv_at hl 11 rfl) ?_
      refine va_get (D := (dC, dI)) (ci := 6) (v := .ref uy) (C := RX7) (T := TX7) (N := 4) hx hb hts inX7 hown hK hP 3 rfl rfl 1 (Nat.le_of_ble_eq_true rfl) (hts _ mw_168) (fun _ h9 => h9) rfl dX7_partsMeet_98 ?_
      refine lv_iload hx hb dX7_partsMeet_101 (lv_at hl 7 rfl) ?_
      refine z_iald hx hb hK hP 5 0 rfl rfl (e := nxt m2 j) rfl b9_8 b9_7 dX7_partsMeet_103 ?_
      refine lv_istore (lv' := [(13, .int (V (nxt m2 j))), (12, .int (U (nxt m2 j))), (11, .int (V j)), (10, .int (U j)), (9, .int (Y (nxt n i))), (8, .int (X (nxt n i))), (7, .int (Y i)), (6, .int (X i)), (5, .int (nI (nxt m2 j))), (4, .int (nI (nxt n i))), (0, .ref r), (1, .int (nI i)), (2, .ref u), (3, .int (nI j))]) hx hb dX7_partsMeet_104 hl (Nat.le_of_ble_eq_true rfl) rfl (fun ls hl => ?_)
      have hj_9 : (¬ (((X i).toInt < (U j).toInt ∧ (X (nxt n i)).toInt < (U j).toInt ∧ (X i).toInt < (U (nxt m2 j)).toInt ∧ (X (nxt n i)).toInt < (U (nxt m2 j)).toInt) ∨ ((U j).toInt < (X i).toInt ∧ (U j).toInt < (X (nxt n i)).toInt ∧ (U (nxt m2 j)).toInt < (X i).toInt ∧ (U (nxt m2 j)).toInt < (X (nxt n i)).toInt))) → W p l e ({ frames := 0, cells := 0, slots := 0, locals := 0 } : Room) s m ([.ref r, .int (nI i), .ref u, .int (nI j)] : List Value).toArray below meth c s.heap [] 0 0 Q9 (F0 m 164 ls []) := by
        intro hbx
        have hj_10 : (¬ (((Y i).toInt < (V j).toInt ∧ (Y (nxt n i)).toInt < (V j).toInt ∧ (Y i).toInt < (V (nxt m2 j)).toInt ∧ (Y (nxt n i)).toInt < (V (nxt m2 j)).toInt) ∨ ((V j).toInt < (Y i).toInt ∧ (V j).toInt < (Y (nxt n i)).toInt ∧ (V (nxt m2 j)).toInt < (Y i).toInt ∧ (V (nxt m2 j)).toInt < (Y (nxt n i)).toInt))) → W p l e ({ frames := 0, cells := 0, slots := 0, locals := 0 } : Room) s m ([.ref r, .int (nI i), .ref u, .int (nI j)] : List Value).toArray below meth c s.heap [] 0 0 Q9 (F0 m 222 ls []) := by
          intro hby
          refine lv_iload hx hb dX7_partsMeet_222 (lv_at hl 5 rfl) ?_
          refine lv_iload hx hb dX7_partsMeet_224 (lv_at hl 7 rfl) ?_
          refine lv_isub hx hb dX7_partsMeet_226 ?_
          refine lv_iload hx hb dX7_partsMeet_227 (lv_at hl 2 rfl) ?_
          refine lv_iload hx hb dX7_partsMeet_229 (lv_at hl 6 rfl) ?_
          refine lv_isub hx hb dX7_partsMeet_231 ?_
          refine lv_imul hx hb dX7_partsMeet_232 ?_
          refine lv_iload hx hb dX7_partsMeet_233 (lv_at hl 4 rfl) ?_
          refine lv_iload hx hb dX7_partsMeet_235 (lv_at hl 6 rfl) ?_
          refine lv_isub hx hb dX7_partsMeet_237 ?_
          refine lv_iload hx hb dX7_partsMeet_238 (lv_at hl 3 rfl) ?_
          refine lv_iload hx hb dX7_partsMeet_240 (lv_at hl 7 rfl) ?_
          refine lv_isub hx hb dX7_partsMeet_242 ?_
          refine lv_imul hx hb dX7_partsMeet_243 ?_
          refine lv_isub hx hb dX7_partsMeet_244 ?_
          refine zz_i (v := iI (cr (X i).toInt (Y i).toInt (X (nxt n i)).toInt (Y (nxt n i)).toInt (U j).toInt (V j).toInt)) (crI (hp i hi).1 (hp i hi).2 (hp _ hnx).1 (hp _ hnx).2 (hq j hj).1 (hq j hj).2) ?_
          have hB1 := crBp (hp i hi).1 (hp i hi).2 (hp _ hnx).1 (hp _ hnx).2 (hq j hj).1 (hq j hj).2
          refine lv_istore (lv' := [(14, .int (iI (cr (X i).toInt (Y i).toInt (X (nxt n i)).toInt (Y (nxt n i)).toInt (U j).toInt (V j).toInt))), (13, .int (V (nxt m2 j))), (12, .int (U (nxt m2 j))), (11, .int (V j)), (10, .int (U j)), (9, .int (Y (nxt n i))), (8, .int (X (nxt n i))), (7, .int (Y i)), (6, .int (X i)), (5, .int (nI (nxt m2 j))), (4, .int (nI (nxt n i))), (0, .ref r), (1, .int (nI i)), (2, .ref u), (3, .int (nI j))]) hx hb dX7_partsMeet_245 hl (Nat.le_of_ble_eq_true rfl) rfl (fun ls hl => ?_)
          refine lv_iload hx hb dX7_partsMeet_247 (lv_at hl 6 rfl) ?_
          refine lv_iload hx hb dX7_partsMeet_249 (lv_at hl 8 rfl) ?_
          refine lv_isub hx hb dX7_partsMeet_251 ?_
          refine lv_iload hx hb dX7_partsMeet_252 (lv_at hl 1 rfl) ?_
          refine lv_iload hx hb dX7_partsMeet_254 (lv_at hl 7 rfl) ?_
          refine lv_isub hx hb dX7_partsMeet_256 ?_
          refine lv_imul hx hb dX7_partsMeet_257 ?_
          refine lv_iload hx hb dX7_partsMeet_258 (lv_at hl 5 rfl) ?_
          refine lv_iload hx hb dX7_partsMeet_260 (lv_at hl 7 rfl) ?_
          refine lv_isub hx hb dX7_partsMeet_262 ?_
          refine lv_iload hx hb dX7_partsMeet_263 (lv_at hl 2 rfl) ?_
          refine lv_iload hx hb dX7_partsMeet_265 (lv_at hl 8 rfl) ?_
          refine lv_isub hx hb dX7_partsMeet_267 ?_
          refine lv_imul hx hb dX7_partsMeet_268 ?_
          refine lv_isub hx hb dX7_partsMeet_269 ?_
          refine zz_i (v := iI (cr (X i).toInt (Y i).toInt (X (nxt n i)).toInt (Y (nxt n i)).toInt (U (nxt m2 j)).toInt (V (nxt m2 j)).toInt)) (crI (hp i hi).1 (hp i hi).2 (hp _ hnx).1 (hp _ hnx).2 (hq _ hnj).1 (hq _ hnj).2) ?_
          have hB2 := crBp (hp i hi).1 (hp i hi).2 (hp _ hnx).1 (hp _ hnx).2 (hq _ hnj).1 (hq _ hnj).2
          refine lv_istore (lv' := [(15, .int (iI (cr (X i).toInt (Y i).toInt (X (nxt n i)).toInt (Y (nxt n i)).toInt (U (nxt m2 j)).toInt (V (nxt m2 j)).toInt))), (14, .int (iI (cr (X i).toInt (Y i).toInt (X (nxt n i)).toInt (Y (nxt n i)).toInt (U j).toInt (V j).toInt))), (13, .int (V (nxt m2 j))), (12, .int (U (nxt m2 j))), (11, .int (V j)), (10, .int (U j)), (9, .int (Y (nxt n i))), (8, .int (X (nxt n i))), (7, .int (Y i)), (6, .int (X i)), (5, .int (nI (nxt m2 j))), (4, .int (nI (nxt n i))), (0, .ref r), (1, .int (nI i)), (2, .ref u), (3, .int (nI j))]) hx hb dX7_partsMeet_270 hl (Nat.le_of_ble_eq_true rfl) rfl (fun ls hl => ?_)
          have hj_11 : (¬ ((0 < cr (X i).toInt (Y i).toInt (X (nxt n i)).toInt (Y (nxt n i)).toInt (U j).toInt (V j).toInt ∧ 0 < cr (X i).toInt (Y i).toInt (X (nxt n i)).toInt (Y (nxt n i)).toInt (U (nxt m2 j)).toInt (V (nxt m2 j)).toInt) ∨ (cr (X i).toInt (Y i).toInt (X (nxt n i)).toInt (Y (nxt n i)).toInt (U j).toInt (V j).toInt < 0 ∧ cr (X i).toInt (Y i).toInt (X (nxt n i)).toInt (Y (nxt n i)).toInt (U (nxt m2 j)).toInt (V (nxt m2 j)).toInt < 0))) → W p l e ({ frames := 0, cells := 0, slots := 0, locals := 0 } : Room) s m ([.ref r, .int (nI i), .ref u, .int (nI j)] : List Value).toArray below meth c s.heap [] 0 0 Q9 (F0 m 294 ls []) := by
            intro hs1
            refine lv_iload hx hb dX7_partsMeet_294 (lv_at hl 3 rfl) ?_
            refine lv_iload hx hb dX7_partsMeet_296 (lv_at hl 5 rfl) ?_
            refine lv_isub hx hb dX7_partsMeet_298 ?_
            refine lv_iload hx hb dX7_partsMeet_299 (lv_at hl 8 rfl) ?_
            refine lv_iload hx hb dX7_partsMeet_301 (lv_at hl 4 rfl) ?_
            refine lv_isub hx hb dX7_partsMeet_303 ?_
            refine lv_imul hx hb dX7_partsMeet_304 ?_
            refine lv_iload hx hb dX7_partsMeet_305 (lv_at hl 2 rfl) ?_
            refine lv_iload hx hb dX7_partsMeet_307 (lv_at hl 4 rfl) ?_
            refine lv_isub hx hb dX7_partsMeet_309 ?_
            refine lv_iload hx hb dX7_partsMeet_310 (lv_at hl 9 rfl) ?_
            refine lv_iload hx hb dX7_partsMeet_312 (lv_at hl 5 rfl) ?_
            refine lv_isub hx hb dX7_partsMeet_314 ?_
            refine lv_imul hx hb dX7_partsMeet_315 ?_
            refine lv_isub hx hb dX7_partsMeet_316 ?_
            refine zz_i (v := iI (cr (U j).toInt (V j).toInt (U (nxt m2 j)).toInt (V (nxt m2 j)).toInt (X i).toInt (Y i).toInt)) (crI (hq j hj).1 (hq j hj).2 (hq _ hnj).1 (hq _ hnj).2 (hp i hi).1 (hp i hi).2) ?_
            have hB3 := crBp (hq j hj).1 (hq j hj).2 (hq _ hnj).1 (hq _ hnj).2 (hp i hi).1 (hp i hi).2
            refine lv_istore (lv' := [(16, .int (iI (cr (U j).toInt (V j).toInt (U (nxt m2 j)).toInt (V (nxt m2 j)).toInt (X i).toInt (Y i).toInt))), (15, .int (iI (cr (X i).toInt (Y i).toInt (X (nxt n i)).toInt (Y (nxt n i)).toInt (U (nxt m2 j)).toInt (V (nxt m2 j)).toInt))), (14, .int (iI (cr (X i).toInt (Y i).toInt (X (nxt n i)).toInt (Y (nxt n i)).toInt (U j).toInt (V j).toInt))), (13, .int (V (nxt m2 j))), (12, .int (U (nxt m2 j))), (11, .int (V j)), (10, .int (U j)), (9, .int (Y (nxt n i))), (8, .int (X (nxt n i))), (7, .int (Y i)), (6, .int (X i)), (5, .int (nI (nxt m2 j))), (4, .int (nI (nxt n i))), (0, .ref r), (1, .int (nI i)), (2, .ref u), (3, .int (nI j))]) hx hb dX7_partsMeet_317 hl (Nat.le_of_ble_eq_true rfl) rfl (fun ls hl => ?_)
            refine lv_iload hx hb dX7_partsMeet_319 (lv_at hl 4 rfl) ?_
            refine lv_iload hx hb dX7_partsMeet_321 (lv_at hl 6 rfl) ?_
            refine lv_isub hx hb dX7_partsMeet_323 ?_
            refine lv_iload hx hb dX7_partsMeet_324 (lv_at hl 7 rfl) ?_
            refine lv_iload hx hb dX7_partsMeet_326 (lv_at hl 5 rfl) ?_
            refine lv_isub hx hb dX7_partsMeet_328 ?_
            refine lv_imul hx hb dX7_partsMeet_329 ?_
            refine lv_iload hx hb dX7_partsMeet_330 (lv_at hl 3 rfl) ?_
            refine lv_iload hx hb dX7_partsMeet_332 (lv_at hl 5 rfl) ?_
            refine lv_isub hx hb dX7_partsMeet_334 ?_
            refine lv_iload hx hb dX7_partsMeet_335 (lv_at hl 8 rfl) ?_
            refine lv_iload hx hb dX7_partsMeet_337 (lv_at hl 6 rfl) ?_
            refine lv_isub hx hb dX7_partsMeet_339 ?_
            refine lv_imul hx hb dX7_partsMeet_340 ?_
            refine lv_isub hx hb dX7_partsMeet_341 ?_
            refine zz_i (v := iI (cr (U j).toInt (V j).toInt (U (nxt m2 j)).toInt (V (nxt m2 j)).toInt (X (nxt n i)).toInt (Y (nxt n i)).toInt)) (crI (hq j hj).1 (hq j hj).2 (hq _ hnj).1 (hq _ hnj).2 (hp _ hnx).1 (hp _ hnx).2) ?_
            have hB4 := crBp (hq j hj).1 (hq j hj).2 (hq _ hnj).1 (hq _ hnj).2 (hp _ hnx).1 (hp _ hnx).2
            refine lv_istore (lv' := [(17, .int (iI (cr (U j).toInt (V j).toInt (U (nxt m2 j)).toInt (V (nxt m2 j)).toInt (X (nxt n i)).toInt (Y (nxt n i)).toInt))), (16, .int (iI (cr (U j).toInt (V j).toInt (U (nxt m2 j)).toInt (V (nxt m2 j)).toInt (X i).toInt (Y i).toInt))), (15, .int (iI (cr (X i).toInt (Y i).toInt (X (nxt n i)).toInt (Y (nxt n i)).toInt (U (nxt m2 j)).toInt (V (nxt m2 j)).toInt))), (14, .int (iI (cr (X i).toInt (Y i).toInt (X (nxt n i)).toInt (Y (nxt n i)).toInt (U j).toInt (V j).toInt))), (13, .int (V (nxt m2 j))), (12, .int (U (nxt m2 j))), (11, .int (V j)), (10, .int (U j)), (9, .int (Y (nxt n i))), (8, .int (X (nxt n i))), (7, .int (Y i)), (6, .int (X i)), (5, .int (nI (nxt m2 j))), (4, .int (nI (nxt n i))), (0, .ref r), (1, .int (nI i)), (2, .ref u), (3, .int (nI j))]) hx hb dX7_partsMeet_342 hl (Nat.le_of_ble_eq_true rfl) rfl (fun ls hl => ?_)
            refine lv_iload hx hb dX7_partsMeet_344 (lv_at hl 1 rfl) ?_
            refine lv_if_le (tgt := 354) hx hb dX7_partsMeet_346 rfl (fun c_12 => ?_) (fun c_12 => ?_)
            · have c_12 : (cr (U j).toInt (V j).toInt (U (nxt m2 j)).toInt (V (nxt m2 j)).toInt (X i).toInt (Y i).toInt) ≤ 0 := zc_le (iI_toInt (by omega)) rfl c_12
              refine lv_iload hx hb dX7_partsMeet_354 (lv_at hl 1 rfl) ?_
              refine lv_if_ge (tgt := 364) hx hb dX7_partsMeet_356 rfl (fun c_13 => ?_) (fun c_13 => ?_)
              · have c_13 : 0 ≤ (cr (U j).toInt (V j).toInt (U (nxt m2 j)).toInt (V (nxt m2 j)).toInt (X i).toInt (Y i).toInt) := zc_le rfl (iI_toInt (by omega)) c_13
                refine lv_iconst (v := 1) hx hb dX7_partsMeet_364 rfl ?_
                refine lv_goto (tgt := 369) hx hb dX7_partsMeet_365 rfl ?_
                obtain ⟨hP9, hD9⟩ := zu_sub (wc := [_, _, _, _, _, _]) hP hD [true, true, true, true, true, true] rfl rfl
                rw [hQ9]
                exact W.zret (ty := .boolean) (v := 1) hx hb hr (rfl) (fun t ht hW => ⟨⟨congrArg (fun z => Outcome.returned (some (Value.int z))) (show (1 : Int32) = pI (eMt n X Y i m2 U V j) from (zp_t (by unfold eMt mtC; first | exact ⟨hbx, hby, hs1, by omega⟩ | exact fun h => h.2.2.2 (by omega))).symm), by rw [ht]; exact hP9, hD9⟩, hS.F ht⟩) hS.2.2 dX7_partsMeet_369
              · have c_13 : (cr (U j).toInt (V j).toInt (U (nxt m2 j)).toInt (V (nxt m2 j)).toInt (X i).toInt (Y i).toInt) < 0 := zc_nle rfl (iI_toInt (by omega)) c_13
                refine lv_iload hx hb dX7_partsMeet_359 (lv_at hl 0 rfl) ?_
                refine lv_if_lt (tgt := 368) hx hb dX7_partsMeet_361 rfl (fun c_14 => ?_) (fun c_14 => ?_)
                · have c_14 : (cr (U j).toInt (V j).toInt (U (nxt m2 j)).toInt (V (nxt m2 j)).toInt (X (nxt n i)).toInt (Y (nxt n i)).toInt) < 0 := zc_lt (iI_toInt (by omega)) rfl c_14
                  refine lv_iconst (v := 0) hx hb dX7_partsMeet_368 rfl ?_
                  obtain ⟨hP9, hD9⟩ := zu_sub (wc := [_, _, _, _, _, _]) hP hD [true, true, true, true, true, true] rfl rfl
                  rw [hQ9]
                  exact W.zret (ty := .boolean) (v := 0) hx hb hr (rfl) (fun t ht hW => ⟨⟨congrArg (fun z => Outcome.returned (some (Value.int z))) (show (0 : Int32) = pI (eMt n X Y i m2 U V j) from (zp_f (by unfold eMt mtC; first | exact ⟨hbx, hby, hs1, by omega⟩ | exact fun h => h.2.2.2 (by omega))).symm), by rw [ht]; exact hP9, hD9⟩, hS.F ht⟩) hS.2.2 dX7_partsMeet_369
                · have c_14 : 0 ≤ (cr (U j).toInt (V j).toInt (U (nxt m2 j)).toInt (V (nxt m2 j)).toInt (X (nxt n i)).toInt (Y (nxt n i)).toInt) := zc_nlt (iI_toInt (by omega)) rfl c_14
                  refine lv_iconst (v := 1) hx hb dX7_partsMeet_364 rfl ?_
                  refine lv_goto (tgt := 369) hx hb dX7_partsMeet_365 rfl ?_
                  obtain ⟨hP9, hD9⟩ := zu_sub (wc := [_, _, _, _, _, _]) hP hD [true, true, true, true, true, true] rfl rfl
                  rw [hQ9]
                  exact W.zret (ty := .boolean) (v := 1) hx hb hr (rfl) (fun t ht hW => ⟨⟨congrArg (fun z => Outcome.returned (some (Value.int z))) (show (1 : Int32) = pI (eMt n X Y i m2 U V j) from (zp_t (by unfold eMt mtC; first | exact ⟨hbx, hby, hs1, by omega⟩ | exact fun h => h.2.2.2 (by omega))).symm), by rw [ht]; exact hP9, hD9⟩, hS.F ht⟩) hS.2.2 dX7_partsMeet_369
            · have c_12 : 0 < (cr (U j).toInt (V j).toInt (U (nxt m2 j)).toInt (V (nxt m2 j)).toInt (X i).toInt (Y i).toInt) := zc_nle (iI_toInt (by omega)) rfl c_12
              refine lv_iload hx hb dX7_partsMeet_349 (lv_at hl 0 rfl) ?_
              refine lv_if_gt (tgt := 368) hx hb dX7_partsMeet_351 rfl (fun c_15 => ?_) (fun c_15 => ?_)
              · have c_15 : 0 < (cr (U j).toInt (V j).toInt (U (nxt m2 j)).toInt (V (nxt m2 j)).toInt (X (nxt n i)).toInt (Y (nxt n i)).toInt) := zc_lt rfl (iI_toInt (by omega)) c_15
                refine lv_iconst (v := 0) hx hb dX7_partsMeet_368 rfl ?_
                obtain ⟨hP9, hD9⟩ := zu_sub (wc := [_, _, _, _, _, _]) hP hD [true, true, true, true, true, true] rfl rfl
                rw [hQ9]
                exact W.zret (ty := .boolean) (v := 0) hx hb hr (rfl) (fun t ht hW => ⟨⟨congrArg (fun z => Outcome.returned (some (Value.int z))) (show (0 : Int32) = pI (eMt n X Y i m2 U V j) from (zp_f (by unfold eMt mtC; first | exact ⟨hbx, hby, hs1, by omega⟩ | exact fun h => h.2.2.2 (by omega))).symm), by rw [ht]; exact hP9, hD9⟩, hS.F ht⟩) hS.2.2 dX7_partsMeet_369
              · have c_15 : (cr (U j).toInt (V j).toInt (U (nxt m2 j)).toInt (V (nxt m2 j)).toInt (X (nxt n i)).toInt (Y (nxt n i)).toInt) ≤ 0 := zc_nlt rfl (iI_toInt (by omega)) c_15
                refine lv_iload hx hb dX7_partsMeet_354 (lv_at hl 1 rfl) ?_
                refine lv_if_ge (tgt := 364) hx hb dX7_partsMeet_356 rfl (fun c_16 => ?_) (fun c_16 => ?_)
                · have c_16 : 0 ≤ (cr (U j).toInt (V j).toInt (U (nxt m2 j)).toInt (V (nxt m2 j)).toInt (X i).toInt (Y i).toInt) := zc_le rfl (iI_toInt (by omega)) c_16
                  refine lv_iconst (v := 1) hx hb dX7_partsMeet_364 rfl ?_
                  refine lv_goto (tgt := 369) hx hb dX7_partsMeet_365 rfl ?_
                  obtain ⟨hP9, hD9⟩ := zu_sub (wc := [_, _, _, _, _, _]) hP hD [true, true, true, true, true, true] rfl rfl
                  rw [hQ9]
                  exact W.zret (ty := .boolean) (v := 1) hx hb hr (rfl) (fun t ht hW => ⟨⟨congrArg (fun z => Outcome.returned (some (Value.int z))) (show (1 : Int32) = pI (eMt n X Y i m2 U V j) from (zp_t (by unfold eMt mtC; first | exact ⟨hbx, hby, hs1, by omega⟩ | exact fun h => h.2.2.2 (by omega))).symm), by rw [ht]; exact hP9, hD9⟩, hS.F ht⟩) hS.2.2 dX7_partsMeet_369
                · have c_16 : (cr (U j).toInt (V j).toInt (U (nxt m2 j)).toInt (V (nxt m2 j)).toInt (X i).toInt (Y i).toInt) < 0 := zc_nle rfl (iI_toInt (by omega)) c_16
                  refine lv_iload hx hb dX7_partsMeet_359 (lv_at hl 0 rfl) ?_
                  refine lv_if_lt (tgt := 368) hx hb dX7_partsMeet_361 rfl (fun c_17 => ?_) (fun c_17 => ?_)
                  · have c_17 : (cr (U j).toInt (V j).toInt (U (nxt m2 j)).toInt (V (nxt m2 j)).toInt (X (nxt n i)).toInt (Y (nxt n i)).toInt) < 0 := zc_lt (iI_toInt (by omega)) rfl c_17
                    refine lv_iconst (v := 0) hx hb dX7_partsMeet_368 rfl ?_
                    obtain ⟨hP9, hD9⟩ := zu_sub (wc := [_, _, _, _, _, _]) hP hD [true, true, true, true, true, true] rfl rfl
                    rw [hQ9]
                    exact W.zret (ty := .boolean) (v := 0) hx hb hr (rfl) (fun t ht hW => ⟨⟨congrArg (fun z => Outcome.returned (some (Value.int z))) (show (0 : Int32) = pI (eMt n X Y i m2 U V j) from (zp_f (by unfold eMt mtC; first | exact ⟨hbx, hby, hs1, by omega⟩ | exact fun h => h.2.2.2 (by omega))).symm), by rw [ht]; exact hP9, hD9⟩, hS.F ht⟩) hS.2.2 dX7_partsMeet_369
                  · have c_17 : 0 ≤ (cr (U j).toInt (V j).toInt (U (nxt m2 j)).toInt (V (nxt m2 j)).toInt (X (nxt n i)).toInt (Y (nxt n i)).toInt) := zc_nlt (iI_toInt (by omega)) rfl c_17
                    refine lv_iconst (v := 1) hx hb dX7_partsMeet_364 rfl ?_
                    refine lv_goto (tgt := 369) hx hb dX7_partsMeet_365 rfl ?_
                    obtain ⟨hP9, hD9⟩ := zu_sub (wc := [_, _, _, _, _, _]) hP hD [true, true, true, true, true, true] rfl rfl
                    rw [hQ9]
                    exact W.zret (ty := .boolean) (v := 1) hx hb hr (rfl) (fun t ht hW => ⟨⟨congrArg (fun z => Outcome.returned (some (Value.int z))) (show (1 : Int32) = pI (eMt n X Y i m2 U V j) from (zp_t (by unfold eMt mtC; first | exact ⟨hbx, hby, hs1, by omega⟩ | exact fun h => h.2.2.2 (by omega))).symm), by rw [ht]; exact hP9, hD9⟩, hS.F ht⟩) hS.2.2 dX7_partsMeet_369
          refine lv_iload hx hb dX7_partsMeet_272 (lv_at hl 1 rfl) ?_
          refine lv_if_le (tgt := 282) hx hb dX7_partsMeet_274 rfl (fun c_18 => ?_) (fun c_18 => ?_)
          · have c_18 : (cr (X i).toInt (Y i).toInt (X (nxt n i)).toInt (Y (nxt n i)).toInt (U j).toInt (V j).toInt) ≤ 0 := zc_le (iI_toInt (by omega)) rfl c_18
            refine lv_iload hx hb dX7_partsMeet_282 (lv_at hl 1 rfl) ?_
            refine lv_if_ge (tgt := 294) hx hb dX7_partsMeet_284 rfl (fun c_19 => ?_) (fun c_19 => ?_)
            · have c_19 : 0 ≤ (cr (X i).toInt (Y i).toInt (X (nxt n i)).toInt (Y (nxt n i)).toInt (U j).toInt (V j).toInt) := zc_le rfl (iI_toInt (by omega)) c_19
              exact hj_11 (by omega)
            · have c_19 : (cr (X i).toInt (Y i).toInt (X (nxt n i)).toInt (Y (nxt n i)).toInt (U j).toInt (V j).toInt) < 0 := zc_nle rfl (iI_toInt (by omega)) c_19
              refine lv_iload hx hb dX7_partsMeet_287 (lv_at hl 0 rfl) ?_
              refine lv_if_ge (tgt := 294) hx hb dX7_partsMeet_289 rfl (fun c_20 => ?_) (fun c_20 => ?_)
              · have c_20 : 0 ≤ (cr (X i).toInt (Y i).toInt (X (nxt n i)).toInt (Y (nxt n i)).toInt (U (nxt m2 j)).toInt (V (nxt m2 j)).toInt) := zc_le rfl (iI_toInt (by omega)) c_20
                exact hj_11 (by omega)
              · have c_20 : (cr (X i).toInt (Y i).toInt (X (nxt n i)).toInt (Y (nxt n i)).toInt (U (nxt m2 j)).toInt (V (nxt m2 j)).toInt) < 0 := zc_nle rfl (iI_toInt (by omega)) c_20
                refine lv_iconst (v := 0) hx hb dX7_partsMeet_292 rfl ?_
                obtain ⟨hP9, hD9⟩ := zu_sub (wc := [_, _, _, _, _, _]) hP hD [true, true, true, true, true, true] rfl rfl
                rw [hQ9]
                exact W.zret (ty := .boolean) (v := 0) hx hb hr (rfl) (fun t ht hW => ⟨⟨congrArg (fun z => Outcome.returned (some (Value.int z))) (show (0 : Int32) = pI (eMt n X Y i m2 U V j) from (zp_f (by unfold eMt mtC; intro h; exact h.2.2.1 (by omega))).symm), by rw [ht]; exact hP9, hD9⟩, hS.F ht⟩) hS.2.2 dX7_partsMeet_293
          · have c_18 : 0 < (cr (X i).toInt (Y i).toInt (X (nxt n i)).toInt (Y (nxt n i)).toInt (U j).toInt (V j).toInt) := zc_nle (iI_toInt (by omega)) rfl c_18
            refine lv_iload hx hb dX7_partsMeet_277 (lv_at hl 0 rfl) ?_
            refine lv_if_gt (tgt := 292) hx hb dX7_partsMeet_279 rfl (fun c_21 => ?_) (fun c_21 => ?_)
            · have c_21 : 0 < (cr (X i).toInt (Y i).toInt (X (nxt n i)).toInt (Y (nxt n i)).toInt (U (nxt m2 j)).toInt (V (nxt m2 j)).toInt) := zc_lt rfl (iI_toInt (by omega)) c_21
              refine lv_iconst (v := 0) hx hb dX7_partsMeet_292 rfl ?_
              obtain ⟨hP9, hD9⟩ := zu_sub (wc := [_, _, _, _, _, _]) hP hD [true, true, true, true, true, true] rfl rfl
              rw [hQ9]
              exact W.zret (ty := .boolean) (v := 0) hx hb hr (rfl) (fun t ht hW => ⟨⟨congrArg (fun z => Outcome.returned (some (Value.int z))) (show (0 : Int32) = pI (eMt n X Y i m2 U V j) from (zp_f (by unfold eMt mtC; intro h; exact h.2.2.1 (by omega))).symm), by rw [ht]; exact hP9, hD9⟩, hS.F ht⟩) hS.2.2 dX7_partsMeet_293
            · have c_21 : (cr (X i).toInt (Y i).toInt (X (nxt n i)).toInt (Y (nxt n i)).toInt (U (nxt m2 j)).toInt (V (nxt m2 j)).toInt) ≤ 0 := zc_nlt rfl (iI_toInt (by omega)) c_21
              refine lv_iload hx hb dX7_partsMeet_282 (lv_at hl 1 rfl) ?_
              refine lv_if_ge (tgt := 294) hx hb dX7_partsMeet_284 rfl (fun c_22 => ?_) (fun c_22 => ?_)
              · have c_22 : 0 ≤ (cr (X i).toInt (Y i).toInt (X (nxt n i)).toInt (Y (nxt n i)).toInt (U j).toInt (V j).toInt) := zc_le rfl (iI_toInt (by omega)) c_22
                exact hj_11 (by omega)
              · have c_22 : (cr (X i).toInt (Y i).toInt (X (nxt n i)).toInt (Y (nxt n i)).toInt (U j).toInt (V j).toInt) < 0 := zc_nle rfl (iI_toInt (by omega)) c_22
                refine lv_iload hx hb dX7_partsMeet_287 (lv_at hl 0 rfl) ?_
                refine lv_if_ge (tgt := 294) hx hb dX7_partsMeet_289 rfl (fun c_23 => ?_) (fun c_23 => ?_)
                · have c_23 : 0 ≤ (cr (X i).toInt (Y i).toInt (X (nxt n i)).toInt (Y (nxt n i)).toInt (U (nxt m2 j)).toInt (V (nxt m2 j)).toInt) := zc_le rfl (iI_toInt (by omega)) c_23
                  exact hj_11 (by omega)
                · have c_23 : (cr (X i).toInt (Y i).toInt (X (nxt n i)).toInt (Y (nxt n i)).toInt (U (nxt m2 j)).toInt (V (nxt m2 j)).toInt) < 0 := zc_nle rfl (iI_toInt (by omega)) c_23
                  refine lv_iconst (v := 0) hx hb dX7_partsMeet_292 rfl ?_
                  obtain ⟨hP9, hD9⟩ := zu_sub (wc := [_, _, _, _, _, _]) hP hD [true, true, true, true, true, true] rfl rfl
                  rw [hQ9]
                  exact W.zret (ty := .boolean) (v := 0) hx hb hr (rfl) (fun t ht hW => ⟨⟨congrArg (fun z => Outcome.returned (some (Value.int z))) (show (0 : Int32) = pI (eMt n X Y i m2 U V j) from (zp_f (by unfold eMt mtC; intro h; exact h.2.2.1 (by omega))).symm), by rw [ht]; exact hP9, hD9⟩, hS.F ht⟩) hS.2.2 dX7_partsMeet_293
        have hj_24 : (¬ ((Y i).toInt < (V j).toInt ∧ (Y (nxt n i)).toInt < (V j).toInt ∧ (Y i).toInt < (V (nxt m2 j)).toInt ∧ (Y (nxt n i)).toInt < (V (nxt m2 j)).toInt)) → W p l e ({ frames := 0, cells := 0, slots := 0, locals := 0 } : Room) s m ([.ref r, .int (nI i), .ref u, .int (nI j)] : List Value).toArray below meth c s.heap [] 0 0 Q9 (F0 m 192 ls []) := by
          intro hby0
          refine lv_iload hx hb dX7_partsMeet_192 (lv_at hl 6 rfl) ?_
          refine lv_iload hx hb dX7_partsMeet_194 (lv_at hl 2 rfl) ?_
          refine lv_icmp_le (tgt := 222) hx hb dX7_partsMeet_196 rfl (fun c_25 => ?_) (fun c_25 => ?_)
          · have c_25 : (Y i).toInt ≤ (V j).toInt := zc_le rfl rfl c_25
            exact hj_10 (by omega)
          · have c_25 : (V j).toInt < (Y i).toInt := zc_nle rfl rfl c_25
            refine lv_iload hx hb dX7_partsMeet_199 (lv_at hl 4 rfl) ?_
            refine lv_iload hx hb dX7_partsMeet_201 (lv_at hl 2 rfl) ?_
            refine lv_icmp_le (tgt := 222) hx hb dX7_partsMeet_203 rfl (fun c_26 => ?_) (fun c_26 => ?_)
            · have c_26 : (Y (nxt n i)).toInt ≤ (V j).toInt := zc_le rfl rfl c_26
              exact hj_10 (by omega)
            · have c_26 : (V j).toInt < (Y (nxt n i)).toInt := zc_nle rfl rfl c_26
              refine lv_iload hx hb dX7_partsMeet_206 (lv_at hl 6 rfl) ?_
              refine lv_iload hx hb dX7_partsMeet_208 (lv_at hl 0 rfl) ?_
              refine lv_icmp_le (tgt := 222) hx hb dX7_partsMeet_210 rfl (fun c_27 => ?_) (fun c_27 => ?_)
              · have c_27 : (Y i).toInt ≤ (V (nxt m2 j)).toInt := zc_le rfl rfl c_27
                exact hj_10 (by omega)
              · have c_27 : (V (nxt m2 j)).toInt < (Y i).toInt := zc_nle rfl rfl c_27
                refine lv_iload hx hb dX7_partsMeet_213 (lv_at hl 4 rfl) ?_
                refine lv_iload hx hb dX7_partsMeet_215 (lv_at hl 0 rfl) ?_
                refine lv_icmp_le (tgt := 222) hx hb dX7_partsMeet_217 rfl (fun c_28 => ?_) (fun c_28 => ?_)
                · have c_28 : (Y (nxt n i)).toInt ≤ (V (nxt m2 j)).toInt := zc_le rfl rfl c_28
                  exact hj_10 (by omega)
                · have c_28 : (V (nxt m2 j)).toInt < (Y (nxt n i)).toInt := zc_nle rfl rfl c_28
                  refine lv_iconst (v := 0) hx hb dX7_partsMeet_220 rfl ?_
                  obtain ⟨hP9, hD9⟩ := zu_sub (wc := [_, _, _, _, _, _]) hP hD [true, true, true, true, true, true] rfl rfl
                  rw [hQ9]
                  exact W.zret (ty := .boolean) (v := 0) hx hb hr (rfl) (fun t ht hW => ⟨⟨congrArg (fun z => Outcome.returned (some (Value.int z))) (show (0 : Int32) = pI (eMt n X Y i m2 U V j) from (zp_f (by unfold eMt mtC; intro h; exact h.2.1 (by omega))).symm), by rw [ht]; exact hP9, hD9⟩, hS.F ht⟩) hS.2.2 dX7_partsMeet_221
        refine lv_iload hx hb dX7_partsMeet_164 (lv_at hl 6 rfl) ?_
        refine lv_iload hx hb dX7_partsMeet_166 (lv_at hl 2 rfl) ?_
        refine lv_icmp_ge (tgt := 192) hx hb dX7_partsMeet_168 rfl (fun c_29 => ?_) (fun c_29 => ?_)
        · have c_29 : (V j).toInt ≤ (Y i).toInt := zc_le rfl rfl c_29
          exact hj_24 (by omega)
        · have c_29 : (Y i).toInt < (V j).toInt := zc_nle rfl rfl c_29
          refine lv_iload hx hb dX7_partsMeet_171 (lv_at hl 4 rfl) ?_
          refine lv_iload hx hb dX7_partsMeet_173 (lv_at hl 2 rfl) ?_
          refine lv_icmp_ge (tgt := 192) hx hb dX7_partsMeet_175 rfl (fun c_30 => ?_) (fun c_30 => ?_)
          · have c_30 : (V j).toInt ≤ (Y (nxt n i)).toInt := zc_le rfl rfl c_30
            exact hj_24 (by omega)
          · have c_30 : (Y (nxt n i)).toInt < (V j).toInt := zc_nle rfl rfl c_30
            refine lv_iload hx hb dX7_partsMeet_178 (lv_at hl 6 rfl) ?_
            refine lv_iload hx hb dX7_partsMeet_180 (lv_at hl 0 rfl) ?_
            refine lv_icmp_ge (tgt := 192) hx hb dX7_partsMeet_182 rfl (fun c_31 => ?_) (fun c_31 => ?_)
            · have c_31 : (V (nxt m2 j)).toInt ≤ (Y i).toInt := zc_le rfl rfl c_31
              exact hj_24 (by omega)
            · have c_31 : (Y i).toInt < (V (nxt m2 j)).toInt := zc_nle rfl rfl c_31
              refine lv_iload hx hb dX7_partsMeet_185 (lv_at hl 4 rfl) ?_
              refine lv_iload hx hb dX7_partsMeet_187 (lv_at hl 0 rfl) ?_
              refine lv_icmp_lt (tgt := 220) hx hb dX7_partsMeet_189 rfl (fun c_32 => ?_) (fun c_32 => ?_)
              · have c_32 : (Y (nxt n i)).toInt < (V (nxt m2 j)).toInt := zc_lt rfl rfl c_32
                refine lv_iconst (v := 0) hx hb dX7_partsMeet_220 rfl ?_
                obtain ⟨hP9, hD9⟩ := zu_sub (wc := [_, _, _, _, _, _]) hP hD [true, true, true, true, true, true] rfl rfl
                rw [hQ9]
                exact W.zret (ty := .boolean) (v := 0) hx hb hr (rfl) (fun t ht hW => ⟨⟨congrArg (fun z => Outcome.returned (some (Value.int z))) (show (0 : Int32) = pI (eMt n X Y i m2 U V j) from (zp_f (by unfold eMt mtC; intro h; exact h.2.1 (by omega))).symm), by rw [ht]; exact hP9, hD9⟩, hS.F ht⟩) hS.2.2 dX7_partsMeet_221
              · have c_32 : (V (nxt m2 j)).toInt ≤ (Y (nxt n i)).toInt := zc_nlt rfl rfl c_32
                exact hj_24 (by omega)
      have hj_33 : (¬ ((X i).toInt < (U j).toInt ∧ (X (nxt n i)).toInt < (U j).toInt ∧ (X i).toInt < (U (nxt m2 j)).toInt ∧ (X (nxt n i)).toInt < (U (nxt m2 j)).toInt)) → W p l e ({ frames := 0, cells := 0, slots := 0, locals := 0 } : Room) s m ([.ref r, .int (nI i), .ref u, .int (nI j)] : List Value).toArray below meth c s.heap [] 0 0 Q9 (F0 m 134 ls []) := by
        intro hbx0
        refine lv_iload hx hb dX7_partsMeet_134 (lv_at hl 7 rfl) ?_
        refine lv_iload hx hb dX7_partsMeet_136 (lv_at hl 3 rfl) ?_
        refine lv_icmp_le (tgt := 164) hx hb dX7_partsMeet_138 rfl (fun c_34 => ?_) (fun c_34 => ?_)
        · have c_34 : (X i).toInt ≤ (U j).toInt := zc_le rfl rfl c_34
          exact hj_9 (by omega)
        · have c_34 : (U j).toInt < (X i).toInt := zc_nle rfl rfl c_34
          refine lv_iload hx hb dX7_partsMeet_141 (lv_at hl 5 rfl) ?_
          refine lv_iload hx hb dX7_partsMeet_143 (lv_at hl 3 rfl) ?_
          refine lv_icmp_le (tgt := 164) hx hb dX7_partsMeet_145 rfl (fun c_35 => ?_) (fun c_35 => ?_)
          · have c_35 : (X (nxt n i)).toInt ≤ (U j).toInt := zc_le rfl rfl c_35
            exact hj_9 (by omega)
          · have c_35 : (U j).toInt < (X (nxt n i)).toInt := zc_nle rfl rfl c_35
            refine lv_iload hx hb dX7_partsMeet_148 (lv_at hl 7 rfl) ?_
            refine lv_iload hx hb dX7_partsMeet_150 (lv_at hl 1 rfl) ?_
            refine lv_icmp_le (tgt := 164) hx hb dX7_partsMeet_152 rfl (fun c_36 => ?_) (fun c_36 => ?_)
            · have c_36 : (X i).toInt ≤ (U (nxt m2 j)).toInt := zc_le rfl rfl c_36
              exact hj_9 (by omega)
            · have c_36 : (U (nxt m2 j)).toInt < (X i).toInt := zc_nle rfl rfl c_36
              refine lv_iload hx hb dX7_partsMeet_155 (lv_at hl 5 rfl) ?_
              refine lv_iload hx hb dX7_partsMeet_157 (lv_at hl 1 rfl) ?_
              refine lv_icmp_le (tgt := 164) hx hb dX7_partsMeet_159 rfl (fun c_37 => ?_) (fun c_37 => ?_)
              · have c_37 : (X (nxt n i)).toInt ≤ (U (nxt m2 j)).toInt := zc_le rfl rfl c_37
                exact hj_9 (by omega)
              · have c_37 : (U (nxt m2 j)).toInt < (X (nxt n i)).toInt := zc_nle rfl rfl c_37
                refine lv_iconst (v := 0) hx hb dX7_partsMeet_162 rfl ?_
                obtain ⟨hP9, hD9⟩ := zu_sub (wc := [_, _, _, _, _, _]) hP hD [true, true, true, true, true, true] rfl rfl
                rw [hQ9]
                exact W.zret (ty := .boolean) (v := 0) hx hb hr (rfl) (fun t ht hW => ⟨⟨congrArg (fun z => Outcome.returned (some (Value.int z))) (show (0 : Int32) = pI (eMt n X Y i m2 U V j) from (zp_f (by unfold eMt mtC; intro h; exact h.1 (by omega))).symm), by rw [ht]; exact hP9, hD9⟩, hS.F ht⟩) hS.2.2 dX7_partsMeet_163
      refine lv_iload hx hb dX7_partsMeet_106 (lv_at hl 7 rfl) ?_
      refine lv_iload hx hb dX7_partsMeet_108 (lv_at hl 3 rfl) ?_
      refine lv_icmp_ge (tgt := 134) hx hb dX7_partsMeet_110 rfl (fun c_38 => ?_) (fun c_38 => ?_)
      · have c_38 : (U j).toInt ≤ (X i).toInt := zc_le rfl rfl c_38
        exact hj_33 (by omega)
      · have c_38 : (X i).toInt < (U j).toInt := zc_nle rfl rfl c_38
        refine lv_iload hx hb dX7_partsMeet_113 (lv_at hl 5 rfl) ?_
        refine lv_iload hx hb dX7_partsMeet_115 (lv_at hl 3 rfl) ?_
        refine lv_icmp_ge (tgt := 134) hx hb dX7_partsMeet_117 rfl (fun c_39 => ?_) (fun c_39 => ?_)
        · have c_39 : (U j).toInt ≤ (X (nxt n i)).toInt := zc_le rfl rfl c_39
          exact hj_33 (by omega)
        · have c_39 : (X (nxt n i)).toInt < (U j).toInt := zc_nle rfl rfl c_39
          refine lv_iload hx hb dX7_partsMeet_120 (lv_at hl 7 rfl) ?_
          refine lv_iload hx hb dX7_partsMeet_122 (lv_at hl 1 rfl) ?_
          refine lv_icmp_ge (tgt := 134) hx hb dX7_partsMeet_124 rfl (fun c_40 => ?_) (fun c_40 => ?_)
          · have c_40 : (U (nxt m2 j)).toInt ≤ (X i).toInt := zc_le rfl rfl c_40
            exact hj_33 (by omega)
          · have c_40 : (X i).toInt < (U (nxt m2 j)).toInt := zc_nle rfl rfl c_40
            refine lv_iload hx hb dX7_partsMeet_127 (lv_at hl 5 rfl) ?_
            refine lv_iload hx hb dX7_partsMeet_129 (lv_at hl 1 rfl) ?_
            refine lv_icmp_lt (tgt := 162) hx hb dX7_partsMeet_131 rfl (fun c_41 => ?_) (fun c_41 => ?_)
            · have c_41 : (X (nxt n i)).toInt < (U (nxt m2 j)).toInt := zc_lt rfl rfl c_41
              refine lv_iconst (v := 0) hx hb dX7_partsMeet_162 rfl ?_
              obtain ⟨hP9, hD9⟩ := zu_sub (wc := [_, _, _, _, _, _]) hP hD [true, true, true, true, true, true] rfl rfl
              rw [hQ9]
              exact W.zret (ty := .boolean) (v := 0) hx hb hr (rfl) (fun t ht hW => ⟨⟨congrArg (fun z => Outcome.returned (some (Value.int z))) (show (0 : Int32) = pI (eMt n X Y i m2 U V j) from (zp_f (by unfold eMt mtC; intro h; exact h.1 (by omega))).symm), by rw [ht]; exact hP9, hD9⟩, hS.F ht⟩) hS.2.2 dX7_partsMeet_163
            · have c_41 : (U (nxt m2 j)).toInt ≤ (X (nxt n i)).toInt := zc_nlt rfl rfl c_41
              exact hj_33 (by omega)
    have b9_43 : (j + 1) < 2147483648 := by omega
    have b9_44 : m2 < 2147483648 := by omega
    refine lv_icmp_ge (tgt := 35) hx hb dX7_partsMeet_26 rfl (fun c_42 => ?_) (fun c_42 => ?_)
    · have c_42 : ((m2 : Nat) : Int) ≤ ((j + 1 : Nat) : Int) := zc_le (nI_toInt b9_44) (nI_toInt b9_43) c_42
      refine lv_iconst (v := 0) hx hb dX7_partsMeet_35 rfl ?_
      refine zz_i (v := nI (nxt m2 j)) (by first | (rw [nxt, if_pos (by omega)]) | (rw [nxt, if_neg (by omega)]; first | done | rfl)) ?_
      exact hj_2 
    · have c_42 : ((j + 1 : Nat) : Int) < ((m2 : Nat) : Int) := zc_nle (nI_toInt b9_44) (nI_toInt b9_43) c_42
      refine lv_iload_n hx hb dX7_partsMeet_29 rfl (lv_at hl 4 rfl) ?_
      refine lv_iconst (v := 1) hx hb dX7_partsMeet_30 rfl ?_
      refine lv_iadd hx hb dX7_partsMeet_31 ?_
      refine zz_i (v := nI (j + 1)) (nI_add j 1) ?_
      refine lv_goto (tgt := 36) hx hb dX7_partsMeet_32 rfl ?_
      refine zz_i (v := nI (nxt m2 j)) (by first | (rw [nxt, if_pos (by omega)]) | (rw [nxt, if_neg (by omega)]; first | done | rfl)) ?_
      exact hj_2 
  have b9_46 : (i + 1) < 2147483648 := by omega
  have b9_47 : n < 2147483648 := by omega
  refine lv_icmp_ge (tgt := 16) hx hb dX7_partsMeet_7 rfl (fun c_45 => ?_) (fun c_45 => ?_)
  · have c_45 : ((n : Nat) : Int) ≤ ((i + 1 : Nat) : Int) := zc_le (nI_toInt b9_47) (nI_toInt b9_46) c_45
    refine lv_iconst (v := 0) hx hb dX7_partsMeet_16 rfl ?_
    refine zz_i (v := nI (nxt n i)) (by first | (rw [nxt, if_pos (by omega)]) | (rw [nxt, if_neg (by omega)]; first | done | rfl)) ?_
    exact hj_1 
  · have c_45 : ((i + 1 : Nat) : Int) < ((n : Nat) : Int) := zc_nle (nI_toInt b9_47) (nI_toInt b9_46) c_45
    refine lv_iload_n hx hb dX7_partsMeet_10 rfl (lv_at hl 1 rfl) ?_
    refine lv_iconst (v := 1) hx hb dX7_partsMeet_11 rfl ?_
    refine lv_iadd hx hb dX7_partsMeet_12 ?_
    refine zz_i (v := nI (i + 1)) (nI_add i 1) ?_
    refine lv_goto (tgt := 17) hx hb dX7_partsMeet_13 rfl ?_
    refine zz_i (v := nI (nxt n i)) (by first | (rw [nxt, if_pos (by omega)]) | (rw [nxt, if_neg (by omega)]; first | done | rfl)) ?_
    exact hj_1 
set_option maxHeartbeats 4000000 in
set_option maxRecDepth 100000 in
theorem k_Row_partsMeet_self (l : Launch) (dC : Nat → ClassId) (dI : Nat → Nat → Nat) (cI cZ cF : ClassId) (sz : Nat) (r : Nat) (rx : Nat) (ry : Nat) (n : Nat) (cap : Nat) (X : Nat → Int32) (Y : Nat → Int32) (rg : Int32) (i : Nat) (j : Nat) (hn : n ≤ cap) (hcap : cap ≤ 1000) (hp : pls n X Y) (hi : i < n) (hj : j < n) : zM l yX7_partsMeet cX7_partsMeet 18 (some .boolean) ({ frames := 0, cells := 0, slots := 0, locals := 0 } : Room) [.ref r, .int (nI i), .ref r, .int (nI j)] (dC, dI) (zTy cI cZ cF) [(oc6 r (.ref rx) (.ref ry) (nI n) rg), (oa rx cI cap X), (oa ry cI cap Y)] sz (some (.int (pI (eMt n X Y i n X Y j)))) (fun A t => zPD (dC, dI) classes A [(oc6 r (.ref rx) (.ref ry) (nI n) rg), (oa rx cI cap X), (oa ry cI cap Y)] t.heap) 0 0 := by
  refine zIn (own := "ScaleShop$Row") (loc := [(0, .ref r), (1, .int (nI i)), (2, .ref r), (3, .int (nI j))]) rfl rfl rfl rfl (fun p e s m below meth c hx hb hr hts hown hlocks hml hnm9 A hA hS hP hD hK hXN Q9 hQ9 ls hl => ?_)
  refine lv_iload_n hx hb dX7_partsMeet_0 rfl (lv_at hl 1 rfl) ?_
  refine lv_iconst (v := 1) hx hb dX7_partsMeet_1 rfl ?_
  refine lv_iadd hx hb dX7_partsMeet_2 ?_
  refine zz_i (v := nI (i + 1)) (nI_add i 1) ?_
  refine lv_aload_n hx hb dX7_partsMeet_3 rfl (lv_at hl 0 rfl) ?_
  refine va_get (D := (dC, dI)) (ci := 6) (v := .int (nI n)) (C := RX7) (T := TX7) (N := 4) hx hb hts inX7 hown hK hP 0 rfl rfl 2 (Nat.le_of_ble_eq_true rfl) (hts _ mw_175) (fun _ h9 => h9) rfl dX7_partsMeet_4 ?_
  have hj_1 : W p l e ({ frames := 0, cells := 0, slots := 0, locals := 0 } : Room) s m ([.ref r, .int (nI i), .ref r, .int (nI j)] : List Value).toArray below meth c s.heap [] 0 0 Q9 (F0 m 17 ls [.int (nI (nxt n i))]) := by
    have hnx := nxt_lt (n := n) (i := i) (by omega)
    refine lv_istore (lv' := [(4, .int (nI (nxt n i))), (0, .ref r), (1, .int (nI i)), (2, .ref r), (3, .int (nI j))]) hx hb dX7_partsMeet_17 hl (Nat.le_of_ble_eq_true rfl) rfl (fun ls hl => ?_)
    refine lv_iload_n hx hb dX7_partsMeet_19 rfl (lv_at hl 4 rfl) ?_
    refine lv_iconst (v := 1) hx hb dX7_partsMeet_20 rfl ?_
    refine lv_iadd hx hb dX7_partsMeet_21 ?_
    refine zz_i (v := nI (j + 1)) (nI_add j 1) ?_
    refine lv_aload_n hx hb dX7_partsMeet_22 rfl (lv_at hl 3 rfl) ?_
    refine va_get (D := (dC, dI)) (ci := 6) (v := .int (nI n)) (C := RX7) (T := TX7) (N := 4) hx hb hts inX7 hown hK hP 0 rfl rfl 2 (Nat.le_of_ble_eq_true rfl) (hts _ mw_175) (fun _ h9 => h9) rfl dX7_partsMeet_23 ?_
    have hj_2 : W p l e ({ frames := 0, cells := 0, slots := 0, locals := 0 } : Room) s m ([.ref r, .int (nI i), .ref r, .int (nI j)] : List Value).toArray below meth c s.heap [] 0 0 Q9 (F0 m 36 ls [.int (nI (nxt n j))]) := by
      have hnj := nxt_lt (n := n) (i := j) (by omega)
      refine lv_istore (lv' := [(5, .int (nI (nxt n j))), (4, .int (nI (nxt n i))), (0, .ref r), (1, .int (nI i)), (2, .ref r), (3, .int (nI j))]) hx hb dX7_partsMeet_36 hl (Nat.le_of_ble_eq_true rfl) rfl (fun ls hl => ?_)
      refine lv_aload_n hx hb dX7_partsMeet_38 rfl (lv_at hl 2 rfl) ?_
      refine va_get (D := (dC, dI)) (ci := 6) (v := .ref rx) (C := RX7) (T := TX7) (N := 4) hx hb hts inX7 hown hK hP 0 rfl rfl 0 (Nat.le_of_ble_eq_true rfl) (hts _ mw_161) (fun _ h9 => h9) rfl dX7_partsMeet_39 ?_
      refine lv_iload_n hx hb dX7_partsMeet_42 rfl (lv_at hl 3 rfl) ?_
      have b9_3 : i < cap := by omega
      have b9_4 : cap < 2147483648 := by omega
      refine z_iald hx hb hK hP 1 0 rfl rfl (e := i) rfl b9_3 b9_4 dX7_partsMeet_43 ?_
      refine lv_istore (lv' := [(6, .int (X i)), (5, .int (nI (nxt n j))), (4, .int (nI (nxt n i))), (0, .ref r), (1, .int (nI i)), (2, .ref r), (3, .int (nI j))]) hx hb dX7_partsMeet_44 hl (Nat.le_of_ble_eq_true rfl) rfl (fun ls hl => ?_)
      refine lv_aload_n hx hb dX7_partsMeet_46 rfl (lv_at hl 3 rfl) ?_
      refine va_get (D := (dC, dI)) (ci := 6) (v := .ref ry) (C := RX7) (T := TX7) (N := 4) hx hb hts inX7 hown hK hP 0 rfl rfl 1 (Nat.le_of_ble_eq_true rfl) (hts _ mw_168) (fun _ h9 => h9) rfl dX7_partsMeet_47 ?_
      refine lv_iload_n hx hb dX7_partsMeet_50 rfl (lv_at hl 4 rfl) ?_
      refine z_iald hx hb hK hP 2 0 rfl rfl (e := i) rfl b9_3 b9_4 dX7_partsMeet_51 ?_
      refine lv_istore (lv' := [(7, .int (Y i)), (6, .int (X i)), (5, .int (nI (nxt n j))), (4, .int (nI (nxt n i))), (0, .ref r), (1, .int (nI i)), (2, .ref r), (3, .int (nI j))]) hx hb dX7_partsMeet_52 hl (Nat.le_of_ble_eq_true rfl) rfl (fun ls hl => ?_)
      refine lv_aload_n hx hb dX7_partsMeet_54 rfl (lv_at hl 4 rfl) ?_
      refine va_get (D := (dC, dI)) (ci := 6) (v := .ref rx) (C := RX7) (T := TX7) (N := 4) hx hb hts inX7 hown hK hP 0 rfl rfl 0 (Nat.le_of_ble_eq_true rfl) (hts _ mw_161) (fun _ h9 => h9) rfl dX7_partsMeet_55 ?_
      refine lv_iload hx hb dX7_partsMeet_58 (lv_at hl 3 rfl) ?_
      have b9_5 : nxt n i < cap := by omega
      refine z_iald hx hb hK hP 1 0 rfl rfl (e := nxt n i) rfl b9_5 b9_4 dX7_partsMeet_60 ?_
      refine lv_istore (lv' := [(8, .int (X (nxt n i))), (7, .int (Y i)), (6, .int (X i)), (5, .int (nI (nxt n j))), (4, .int (nI (nxt n i))), (0, .ref r), (1, .int (nI i)), (2, .ref r), (3, .int (nI j))]) hx hb dX7_partsMeet_61 hl (Nat.le_of_ble_eq_true rfl) rfl (fun ls hl => ?_)
      refine lv_aload_n hx hb dX7_partsMeet_63 rfl (lv_at hl 5 rfl) ?_
      refine va_get (D := (dC, dI)) (ci := 6) (v := .ref ry) (C := RX7) (T := TX7) (N := 4) hx hb hts inX7 hown hK hP 0 rfl rfl 1 (Nat.le_of_ble_eq_true rfl) (hts _ mw_168) (fun _ h9 => h9) rfl dX7_partsMeet_64 ?_
      refine lv_iload hx hb dX7_partsMeet_67 (lv_at hl 4 rfl) ?_
      refine z_iald hx hb hK hP 2 0 rfl rfl (e := nxt n i) rfl b9_5 b9_4 dX7_partsMeet_69 ?_
      refine lv_istore (lv' := [(9, .int (Y (nxt n i))), (8, .int (X (nxt n i))), (7, .int (Y i)), (6, .int (X i)), (5, .int (nI (nxt n j))), (4, .int (nI (nxt n i))), (0, .ref r), (1, .int (nI i)), (2, .ref r), (3, .int (nI j))]) hx hb dX7_partsMeet_70 hl (Nat.le_of_ble_eq_true rfl) rfl (fun ls hl => ?_)
      refine lv_aload_n hx hb dX7_partsMeet_72 rfl (lv_at hl 8 rfl) ?_
      refine va_get (D := (dC, dI)) (ci := 6) (v := .ref rx) (C := RX7) (T := TX7) (N := 4) hx hb hts inX7 hown hK hP 0 rfl rfl 0 (Nat.le_of_ble_eq_true rfl) (hts _ mw_161) (fun _ h9 => h9) rfl dX7_partsMeet_73 ?_
      refine lv_iload_n hx hb dX7_partsMeet_76 rfl (lv_at hl 9 rfl) ?_
      have b9_6 : j < cap := by omega
      refine z_iald hx hb hK hP 1 0 rfl rfl (e := j) rfl b9_6 b9_4 dX7_partsMeet_77 ?_
      refine lv_istore (lv' := [(10, .int (X j)), (9, .int (Y (nxt n i))), (8, .int (X (nxt n i))), (7, .int (Y i)), (6, .int (X i)), (5, .int (nI (nxt n j))), (4, .int (nI (nxt n i))), (0, .ref r), (1, .int (nI i)), (2, .ref r), (3, .int (nI j))]) hx hb dX7_partsMeet_78 hl (Nat.le_of_ble_eq_true rfl) rfl (fun ls hl => ?_)
      refine lv_aload_n hx hb dX7_partsMeet_80 rfl (lv_at hl 9 rfl) ?_
      refine va_get (D := (dC, dI)) (ci := 6) (v := .ref ry) (C := RX7) (T := TX7) (N := 4) hx hb hts inX7 hown hK hP 0 rfl rfl 1 (Nat.le_of_ble_eq_true rfl) (hts _ mw_168) (fun _ h9 => h9) rfl dX7_partsMeet_81 ?_
      refine lv_iload_n hx hb dX7_partsMeet_84 rfl (lv_at hl 10 rfl) ?_
      refine z_iald hx hb hK hP 2 0 rfl rfl (e := j) rfl b9_6 b9_4 dX7_partsMeet_85 ?_
      refine lv_istore (lv' := [(11, .int (Y j)), (10, .int (X j)), (9, .int (Y (nxt n i))), (8, .int (X (nxt n i))), (7, .int (Y i)), (6, .int (X i)), (5, .int (nI (nxt n j))), (4, .int (nI (nxt n i))), (0, .ref r), (1, .int (nI i)), (2, .ref r), (3, .int (nI j))]) hx hb dX7_partsMeet_86 hl (Nat.le_of_ble_eq_true rfl) rfl (fun ls hl => ?_)
      refine lv_aload_n hx hb dX7_partsMeet_88 rfl (lv_at hl 10 rfl) ?_
      refine va_get (D := (dC, dI)) (ci := 6) (v := .ref rx) (C := RX7) (T := TX7) (N := 4) hx hb hts inX7 hown hK hP 0 rfl rfl 0 (Nat.le_of_ble_eq_true rfl) (hts _ mw_161) (fun _ h9 => h9) rfl dX7_partsMeet_89 ?_
      refine lv_iload hx hb dX7_partsMeet_92 (lv_at hl 6 rfl) ?_
      have b9_7 : nxt n j < cap := by omega
      refine z_iald hx hb hK hP 1 0 rfl rfl (e := nxt n j) rfl b9_7 b9_4 dX7_partsMeet_94 ?_
      refine lv_istore (lv' := [(12, .int (X (nxt n j))), (11, .int (Y j)), (10, .int (X j)), (9, .int (Y (nxt n i))), (8, .int (X (nxt n i))), (7, .int (Y i)), (6, .int (X i)), (5, .int (nI (nxt n j))), (4, .int (nI (nxt n i))), (0, .ref r), (1, .int (nI i)), (2, .ref r), (3, .int (nI j))]) hx hb dX7_partsMeet_95 hl (Nat.le_of_ble_eq_true rfl) rfl (fun ls hl => ?_)
      refine lv_aload_n hx hb dX7_partsMeet_97 rfl (lv_at hl 11 rfl) ?_
      refine va_get (D := (dC, dI)) (ci := 6) (v := .ref ry) (C := RX7) (T := TX7) (N := 4) hx hb hts inX7 hown hK hP 0 rfl rfl 1 (Nat.le_of_ble_eq_true rfl) (hts _ mw_168) (fun _ h9 => h9) rfl dX7_partsMeet_98 ?_
      refine lv_iload hx hb dX7_partsMeet_101 (lv_at hl 7 rfl) ?_
      refine z_iald hx hb hK hP 2 0 rfl rfl (e := nxt n j) rfl b9_7 b9_4 dX7_partsMeet_103 ?_
      refine lv_istore (lv' := [(13, .int (Y (nxt n j))), (12, .int (X (nxt n j))), (11, .int (Y j)), (10, .int (X j)), (9, .int (Y (nxt n i))), (8, .int (X (nxt n i))), (7, .int (Y i)), (6, .int (X i)), (5, .int (nI (nxt n j))), (4, .int (nI (nxt n i))), (0, .ref r), (1, .int (nI i)), (2, .ref r), (3, .int (nI j))]) hx hb dX7_partsMeet_104 hl (Nat.le_of_ble_eq_true rfl) rfl (fun ls hl => ?_)
      have hj_8 : (¬ (((X i).toInt < (X j).toInt ∧ (X (nxt n i)).toInt < (X j).toInt ∧ (X i).toInt < (X (nxt n j)).toInt ∧ (X (nxt n i)).toInt < (X (nxt n j)).toInt) ∨ ((X j).toInt < (X i).toInt ∧ (X j).toInt < (X (nxt n i)).toInt ∧ (X (nxt n j)).toInt < (X i).toInt ∧ (X (nxt n j)).toInt < (X (nxt n i)).toInt))) → W p l e ({ frames := 0, cells := 0, slots := 0, locals := 0 } : Room) s m ([.ref r, .int (nI i), .ref r, .int (nI j)] : List Value).toArray below meth c s.heap [] 0 0 Q9 (F0 m 164 ls []) := by
        intro hbx
        have hj_9 : (¬ (((Y i).toInt < (Y j).toInt ∧ (Y (nxt n i)).toInt < (Y j).toInt ∧ (Y i).toInt < (Y (nxt n j)).toInt ∧ (Y (nxt n i)).toInt < (Y (nxt n j)).toInt) ∨ ((Y j).toInt < (Y i).toInt ∧ (Y j).toInt < (Y (nxt n i)).toInt ∧ (Y (nxt n j)).toInt < (Y i).toInt ∧ (Y (nxt n j)).toInt < (Y (nxt n i)).toInt))) → W p l e ({ frames := 0, cells := 0, slots := 0, locals := 0 } : Room) s m ([.ref r, .int (nI i), .ref r, .int (nI j)] : List Value).toArray below meth c s.heap [] 0 0 Q9 (F0 m 222 ls []) := by
          intro hby
          refine lv_iload hx hb dX7_partsMeet_222 (lv_at hl 5 rfl) ?_
          refine lv_iload hx hb dX7_partsMeet_224 (lv_at hl 7 rfl) ?_
          refine lv_isub hx hb dX7_partsMeet_226 ?_
          refine lv_iload hx hb dX7_partsMeet_227 (lv_at hl 2 rfl) ?_
          refine lv_iload hx hb dX7_partsMeet_229 (lv_at hl 6 rfl) ?_
          refine lv_isub hx hb dX7_partsMeet_231 ?_
          refine lv_imul hx hb dX7_partsMeet_232 ?_
          refine lv_iload hx hb dX7_partsMeet_233 (lv_at hl 4 rfl) ?_
          refine lv_iload hx hb dX7_partsMeet_235 (lv_at hl 6 rfl) ?_
          refine lv_isub hx hb dX7_partsMeet_237 ?_
          refine lv_iload hx hb dX7_partsMeet_238 (lv_at hl 3 rfl) ?_
          refine lv_iload hx hb dX7_partsMeet_240 (lv_at hl 7 rfl) ?_
          refine lv_isub hx hb dX7_partsMeet_242 ?_
          refine lv_imul hx hb dX7_partsMeet_243 ?_
          refine lv_isub hx hb dX7_partsMeet_244 ?_
          refine zz_i (v := iI (cr (X i).toInt (Y i).toInt (X (nxt n i)).toInt (Y (nxt n i)).toInt (X j).toInt (Y j).toInt)) (crI (hp i hi).1 (hp i hi).2 (hp _ hnx).1 (hp _ hnx).2 (hp j hj).1 (hp j hj).2) ?_
          have hB1 := crBp (hp i hi).1 (hp i hi).2 (hp _ hnx).1 (hp _ hnx).2 (hp j hj).1 (hp j hj).2
          refine lv_istore (lv' := [(14, .int (iI (cr (X i).toInt (Y i).toInt (X (nxt n i)).toInt (Y (nxt n i)).toInt (X j).toInt (Y j).toInt))), (13, .int (Y (nxt n j))), (12, .int (X (nxt n j))), (11, .int (Y j)), (10, .int (X j)), (9, .int (Y (nxt n i))), (8, .int (X (nxt n i))), (7, .int (Y i)), (6, .int (X i)), (5, .int (nI (nxt n j))), (4, .int (nI (nxt n i))), (0, .ref r), (1, .int (nI i)), (2, .ref r), (3, .int (nI j))]) hx hb dX7_partsMeet_245 hl (Nat.le_of_ble_eq_true rfl) rfl (fun ls hl => ?_)
          refine lv_iload hx hb dX7_partsMeet_247 (lv_at hl 6 rfl) ?_
          refine lv_iload hx hb dX7_partsMeet_249 (lv_at hl 8 rfl) ?_
          refine lv_isub hx hb dX7_partsMeet_251 ?_
          refine lv_iload hx hb dX7_partsMeet_252 (lv_at hl 1 rfl) ?_
          refine lv_iload hx hb dX7_partsMeet_254 (lv_at hl 7 rfl) ?_
          refine lv_isub hx hb dX7_partsMeet_256 ?_
          refine lv_imul hx hb dX7_partsMeet_257 ?_
          refine lv_iload hx hb dX7_partsMeet_258 (lv_at hl 5 rfl) ?_
          refine lv_iload hx hb dX7_partsMeet_260 (lv_at hl 7 rfl) ?_
          refine lv_isub hx hb dX7_partsMeet_262 ?_
          refine lv_iload hx hb dX7_partsMeet_263 (lv_at hl 2 rfl) ?_
          refine lv_iload hx hb dX7_partsMeet_265 (lv_at hl 8 rfl) ?_
          refine lv_isub hx hb dX7_partsMeet_267 ?_
          refine lv_imul hx hb dX7_partsMeet_268 ?_
          refine lv_isub hx hb dX7_partsMeet_269 ?_
          refine zz_i (v := iI (cr (X i).toInt (Y i).toInt (X (nxt n i)).toInt (Y (nxt n i)).toInt (X (nxt n j)).toInt (Y (nxt n j)).toInt)) (crI (hp i hi).1 (hp i hi).2 (hp _ hnx).1 (hp _ hnx).2 (hp _ hnj).1 (hp _ hnj).2) ?_
          have hB2 := crBp (hp i hi).1 (hp i hi).2 (hp _ hnx).1 (hp _ hnx).2 (hp _ hnj).1 (hp _ hnj).2
          refine lv_istore (lv' := [(15, .int (iI (cr (X i).toInt (Y i).toInt (X (nxt n i)).toInt (Y (nxt n i)).toInt (X (nxt n j)).toInt (Y (nxt n j)).toInt))), (14, .int (iI (cr (X i).toInt (Y i).toInt (X (nxt n i)).toInt (Y (nxt n i)).toInt (X j).toInt (Y j).toInt))), (13, .int (Y (nxt n j))), (12, .int (X (nxt n j))), (11, .int (Y j)), (10, .int (X j)), (9, .int (Y (nxt n i))), (8, .int (X (nxt n i))), (7, .int (Y i)), (6, .int (X i)), (5, .int (nI (nxt n j))), (4, .int (nI (nxt n i))), (0, .ref r), (1, .int (nI i)), (2, .ref r), (3, .int (nI j))]) hx hb dX7_partsMeet_270 hl (Nat.le_of_ble_eq_true rfl) rfl (fun ls hl => ?_)
          have hj_10 : (¬ ((0 < cr (X i).toInt (Y i).toInt (X (nxt n i)).toInt (Y (nxt n i)).toInt (X j).toInt (Y j).toInt ∧ 0 < cr (X i).toInt (Y i).toInt (X (nxt n i)).toInt (Y (nxt n i)).toInt (X (nxt n j)).toInt (Y (nxt n j)).toInt) ∨ (cr (X i).toInt (Y i).toInt (X (nxt n i)).toInt (Y (nxt n i)).toInt (X j).toInt (Y j).toInt < 0 ∧ cr (X i).toInt (Y i).toInt (X (nxt n i)).toInt (Y (nxt n i)).toInt (X (nxt n j)).toInt (Y (nxt n j)).toInt < 0))) → W p l e ({ frames := 0, cells := 0, slots := 0, locals := 0 } : Room) s m ([.ref r, .int (nI i), .ref r, .int (nI j)] : List Value).toArray below meth c s.heap [] 0 0 Q9 (F0 m 294 ls []) := by
            intro hs1
            refine lv_iload hx hb dX7_partsMeet_294 (lv_at hl 3 rfl) ?_
            refine lv_iload hx hb dX7_partsMeet_296 (lv_at hl 5 rfl) ?_
            refine lv_isub hx hb dX7_partsMeet_298 ?_
            refine lv_iload hx hb dX7_partsMeet_299 (lv_at hl 8 rfl) ?_
            refine lv_iload hx hb dX7_partsMeet_301 (lv_at hl 4 rfl) ?_
            refine lv_isub hx hb dX7_partsMeet_303 ?_
            refine lv_imul hx hb dX7_partsMeet_304 ?_
            refine lv_iload hx hb dX7_partsMeet_305 (lv_at hl 2 rfl) ?_
            refine lv_iload hx hb dX7_partsMeet_307 (lv_at hl 4 rfl) ?_
            refine lv_isub hx hb dX7_partsMeet_309 ?_
            refine lv_iload hx hb dX7_partsMeet_310 (lv_at hl 9 rfl) ?_
            refine lv_iload hx hb dX7_partsMeet_312 (lv_at hl 5 rfl) ?_
            refine lv_isub hx hb dX7_partsMeet_314 ?_
            refine lv_imul hx hb dX7_partsMeet_315 ?_
            refine lv_isub hx hb dX7_partsMeet_316 ?_
            refine zz_i (v := iI (cr (X j).toInt (Y j).toInt (X (nxt n j)).toInt (Y (nxt n j)).toInt (X i).toInt (Y i).toInt)) (crI (hp j hj).1 (hp j hj).2 (hp _ hnj).1 (hp _ hnj).2 (hp i hi).1 (hp i hi).2) ?_
            have hB3 := crBp (hp j hj).1 (hp j hj).2 (hp _ hnj).1 (hp _ hnj).2 (hp i hi).1 (hp i hi).2
            refine lv_istore (lv' := [(16, .int (iI (cr (X j).toInt (Y j).toInt (X (nxt n j)).toInt (Y (nxt n j)).toInt (X i).toInt (Y i).toInt))), (15, .int (iI (cr (X i).toInt (Y i).toInt (X (nxt n i)).toInt (Y (nxt n i)).toInt (X (nxt n j)).toInt (Y (nxt n j)).toInt))), (14, .int (iI (cr (X i).toInt (Y i).toInt (X (nxt n i)).toInt (Y (nxt n i)).toInt (X j).toInt (Y j).toInt))), (13, .int (Y (nxt n j))), (12, .int (X (nxt n j))), (11, .int (Y j)), (10, .int (X j)), (9, .int (Y (nxt n i))), (8, .int (X (nxt n i))), (7, .int (Y i)), (6, .int (X i)), (5, .int (nI (nxt n j))), (4, .int (nI (nxt n i))), (0, .ref r), (1, .int (nI i)), (2, .ref r), (3, .int (nI j))]) hx hb dX7_partsMeet_317 hl (Nat.le_of_ble_eq_true rfl) rfl (fun ls hl => ?_)
            refine lv_iload hx hb dX7_partsMeet_319 (lv_at hl 4 rfl) ?_
            refine lv_iload hx hb dX7_partsMeet_321 (lv_at hl 6 rfl) ?_
            refine lv_isub hx hb dX7_partsMeet_323 ?_
            refine lv_iload hx hb dX7_partsMeet_324 (lv_at hl 7 rfl) ?_
            refine lv_iload hx hb dX7_partsMeet_326 (lv_at hl 5 rfl) ?_
            refine lv_isub hx hb dX7_partsMeet_328 ?_
            refine lv_imul hx hb dX7_partsMeet_329 ?_
            refine lv_iload hx hb dX7_partsMeet_330 (lv_at hl 3 rfl) ?_
            refine lv_iload hx hb dX7_partsMeet_332 (lv_at hl 5 rfl) ?_
            refine lv_isub hx hb dX7_partsMeet_334 ?_
            refine lv_iload hx hb dX7_partsMeet_335 (lv_at hl 8 rfl) ?_
            refine lv_iload hx hb dX7_partsMeet_337 (lv_at hl 6 rfl) ?_
            refine lv_isub hx hb dX7_partsMeet_339 ?_
            refine lv_imul hx hb dX7_partsMeet_340 ?_
            refine lv_isub hx hb dX7_partsMeet_341 ?_
            refine zz_i (v := iI (cr (X j).toInt (Y j).toInt (X (nxt n j)).toInt (Y (nxt n j)).toInt (X (nxt n i)).toInt (Y (nxt n i)).toInt)) (crI (hp j hj).1 (hp j hj).2 (hp _ hnj).1 (hp _ hnj).2 (hp _ hnx).1 (hp _ hnx).2) ?_
            have hB4 := crBp (hp j hj).1 (hp j hj).2 (hp _ hnj).1 (hp _ hnj).2 (hp _ hnx).1 (hp _ hnx).2
            refine lv_istore (lv' := [(17, .int (iI (cr (X j).toInt (Y j).toInt (X (nxt n j)).toInt (Y (nxt n j)).toInt (X (nxt n i)).toInt (Y (nxt n i)).toInt))), (16, .int (iI (cr (X j).toInt (Y j).toInt (X (nxt n j)).toInt (Y (nxt n j)).toInt (X i).toInt (Y i).toInt))), (15, .int (iI (cr (X i).toInt (Y i).toInt (X (nxt n i)).toInt (Y (nxt n i)).toInt (X (nxt n j)).toInt (Y (nxt n j)).toInt))), (14, .int (iI (cr (X i).toInt (Y i).toInt (X (nxt n i)).toInt (Y (nxt n i)).toInt (X j).toInt (Y j).toInt))), (13, .int (Y (nxt n j))), (12, .int (X (nxt n j))), (11, .int (Y j)), (10, .int (X j)), (9, .int (Y (nxt n i))), (8, .int (X (nxt n i))), (7, .int (Y i)), (6, .int (X i)), (5, .int (nI (nxt n j))), (4, .int (nI (nxt n i))), (0, .ref r), (1, .int (nI i)), (2, .ref r), (3, .int (nI j))]) hx hb dX7_partsMeet_342 hl (Nat.le_of_ble_eq_true rfl) rfl (fun ls hl => ?_)
            refine lv_iload hx hb dX7_partsMeet_344 (lv_at hl 1 rfl) ?_
            refine lv_if_le (tgt := 354) hx hb dX7_partsMeet_346 rfl (fun c_11 => ?_) (fun c_11 => ?_)
            · have c_11 : (cr (X j).toInt (Y j).toInt (X (nxt n j)).toInt (Y (nxt n j)).toInt (X i).toInt (Y i).toInt) ≤ 0 := zc_le (iI_toInt (by omega)) rfl c_11
              refine lv_iload hx hb dX7_partsMeet_354 (lv_at hl 1 rfl) ?_
              refine lv_if_ge (tgt := 364) hx hb dX7_partsMeet_356 rfl (fun c_12 => ?_) (fun c_12 => ?_)
              · have c_12 : 0 ≤ (cr (X j).toInt (Y j).toInt (X (nxt n j)).toInt (Y (nxt n j)).toInt (X i).toInt (Y i).toInt) := zc_le rfl (iI_toInt (by omega)) c_12
                refine lv_iconst (v := 1) hx hb dX7_partsMeet_364 rfl ?_
                refine lv_goto (tgt := 369) hx hb dX7_partsMeet_365 rfl ?_
                obtain ⟨hP9, hD9⟩ := zu_sub (wc := [_, _, _]) hP hD [true, true, true] rfl rfl
                rw [hQ9]
                exact W.zret (ty := .boolean) (v := 1) hx hb hr (rfl) (fun t ht hW => ⟨⟨congrArg (fun z => Outcome.returned (some (Value.int z))) (show (1 : Int32) = pI (eMt n X Y i n X Y j) from (zp_t (by unfold eMt mtC; first | exact ⟨hbx, hby, hs1, by omega⟩ | exact fun h => h.2.2.2 (by omega))).symm), by rw [ht]; exact hP9, hD9⟩, hS.F ht⟩) hS.2.2 dX7_partsMeet_369
              · have c_12 : (cr (X j).toInt (Y j).toInt (X (nxt n j)).toInt (Y (nxt n j)).toInt (X i).toInt (Y i).toInt) < 0 := zc_nle rfl (iI_toInt (by omega)) c_12
                refine lv_iload hx hb dX7_partsMeet_359 (lv_at hl 0 rfl) ?_
                refine lv_if_lt (tgt := 368) hx hb dX7_partsMeet_361 rfl (fun c_13 => ?_) (fun c_13 => ?_)
                · have c_13 : (cr (X j).toInt (Y j).toInt (X (nxt n j)).toInt (Y (nxt n j)).toInt (X (nxt n i)).toInt (Y (nxt n i)).toInt) < 0 := zc_lt (iI_toInt (by omega)) rfl c_13
                  refine lv_iconst (v := 0) hx hb dX7_partsMeet_368 rfl ?_
                  obtain ⟨hP9, hD9⟩ := zu_sub (wc := [_, _, _]) hP hD [true, true, true] rfl rfl
                  rw [hQ9]
                  exact W.zret (ty := .boolean) (v := 0) hx hb hr (rfl) (fun t ht hW => ⟨⟨congrArg (fun z => Outcome.returned (some (Value.int z))) (show (0 : Int32) = pI (eMt n X Y i n X Y j) from (zp_f (by unfold eMt mtC; first | exact ⟨hbx, hby, hs1, by omega⟩ | exact fun h => h.2.2.2 (by omega))).symm), by rw [ht]; exact hP9, hD9⟩, hS.F ht⟩) hS.2.2 dX7_partsMeet_369
                · have c_13 : 0 ≤ (cr (X j).toInt (Y j).toInt (X (nxt n j)).toInt (Y (nxt n j)).toInt (X (nxt n i)).toInt (Y (nxt n i)).toInt) := zc_nlt (iI_toInt (by omega)) rfl c_13
                  refine lv_iconst (v := 1) hx hb dX7_partsMeet_364 rfl ?_
                  refine lv_goto (tgt := 369) hx hb dX7_partsMeet_365 rfl ?_
                  obtain ⟨hP9, hD9⟩ := zu_sub (wc := [_, _, _]) hP hD [true, true, true] rfl rfl
                  rw [hQ9]
                  exact W.zret (ty := .boolean) (v := 1) hx hb hr (rfl) (fun t ht hW => ⟨⟨congrArg (fun z => Outcome.returned (some (Value.int z))) (show (1 : Int32) = pI (eMt n X Y i n X Y j) from (zp_t (by unfold eMt mtC; first | exact ⟨hbx, hby, hs1, by omega⟩ | exact fun h => h.2.2.2 (by omega))).symm), by rw [ht]; exact hP9, hD9⟩, hS.F ht⟩) hS.2.2 dX7_partsMeet_369
            · have c_11 : 0 < (cr (X j).toInt (Y j).toInt (X (nxt n j)).toInt (Y (nxt n j)).toInt (X i).toInt (Y i).toInt) := zc_nle (iI_toInt (by omega)) rfl c_11
              refine lv_iload hx hb dX7_partsMeet_349 (lv_at hl 0 rfl) ?_
              refine lv_if_gt (tgt := 368) hx hb dX7_partsMeet_351 rfl (fun c_14 => ?_) (fun c_14 => ?_)
              · have c_14 : 0 < (cr (X j).toInt (Y j).toInt (X (nxt n j)).toInt (Y (nxt n j)).toInt (X (nxt n i)).toInt (Y (nxt n i)).toInt) := zc_lt rfl (iI_toInt (by omega)) c_14
                refine lv_iconst (v := 0) hx hb dX7_partsMeet_368 rfl ?_
                obtain ⟨hP9, hD9⟩ := zu_sub (wc := [_, _, _]) hP hD [true, true, true] rfl rfl
                rw [hQ9]
                exact W.zret (ty := .boolean) (v := 0) hx hb hr (rfl) (fun t ht hW => ⟨⟨congrArg (fun z => Outcome.returned (some (Value.int z))) (show (0 : Int32) = pI (eMt n X Y i n X Y j) from (zp_f (by unfold eMt mtC; first | exact ⟨hbx, hby, hs1, by omega⟩ | exact fun h => h.2.2.2 (by omega))).symm), by rw [ht]; exact hP9, hD9⟩, hS.F ht⟩) hS.2.2 dX7_partsMeet_369
              · have c_14 : (cr (X j).toInt (Y j).toInt (X (nxt n j)).toInt (Y (nxt n j)).toInt (X (nxt n i)).toInt (Y (nxt n i)).toInt) ≤ 0 := zc_nlt rfl (iI_toInt (by omega)) c_14
                refine lv_iload hx hb dX7_partsMeet_354 (lv_at hl 1 rfl) ?_
                refine lv_if_ge (tgt := 364) hx hb dX7_partsMeet_356 rfl (fun c_15 => ?_) (fun c_15 => ?_)
                · have c_15 : 0 ≤ (cr (X j).toInt (Y j).toInt (X (nxt n j)).toInt (Y (nxt n j)).toInt (X i).toInt (Y i).toInt) := zc_le rfl (iI_toInt (by omega)) c_15
                  refine lv_iconst (v := 1) hx hb dX7_partsMeet_364 rfl ?_
                  refine lv_goto (tgt := 369) hx hb dX7_partsMeet_365 rfl ?_
                  obtain ⟨hP9, hD9⟩ := zu_sub (wc := [_, _, _]) hP hD [true, true, true] rfl rfl
                  rw [hQ9]
                  exact W.zret (ty := .boolean) (v := 1) hx hb hr (rfl) (fun t ht hW => ⟨⟨congrArg (fun z => Outcome.returned (some (Value.int z))) (show (1 : Int32) = pI (eMt n X Y i n X Y j) from (zp_t (by unfold eMt mtC; first | exact ⟨hbx, hby, hs1, by omega⟩ | exact fun h => h.2.2.2 (by omega))).symm), by rw [ht]; exact hP9, hD9⟩, hS.F ht⟩) hS.2.2 dX7_partsMeet_369
                · have c_15 : (cr (X j).toInt (Y j).toInt (X (nxt n j)).toInt (Y (nxt n j)).toInt (X i).toInt (Y i).toInt) < 0 := zc_nle rfl (iI_toInt (by omega)) c_15
                  refine lv_iload hx hb dX7_partsMeet_359 (lv_at hl 0 rfl) ?_
                  refine lv_if_lt (tgt := 368) hx hb dX7_partsMeet_361 rfl (fun c_16 => ?_) (fun c_16 => ?_)
                  · have c_16 : (cr (X j).toInt (Y j).toInt (X (nxt n j)).toInt (Y (nxt n j)).toInt (X (nxt n i)).toInt (Y (nxt n i)).toInt) < 0 := zc_lt (iI_toInt (by omega)) rfl c_16
                    refine lv_iconst (v := 0) hx hb dX7_partsMeet_368 rfl ?_
                    obtain ⟨hP9, hD9⟩ := zu_sub (wc := [_, _, _]) hP hD [true, true, true] rfl rfl
                    rw [hQ9]
                    exact W.zret (ty := .boolean) (v := 0) hx hb hr (rfl) (fun t ht hW => ⟨⟨congrArg (fun z => Outcome.returned (some (Value.int z))) (show (0 : Int32) = pI (eMt n X Y i n X Y j) from (zp_f (by unfold eMt mtC; first | exact ⟨hbx, hby, hs1, by omega⟩ | exact fun h => h.2.2.2 (by omega))).symm), by rw [ht]; exact hP9, hD9⟩, hS.F ht⟩) hS.2.2 dX7_partsMeet_369
                  · have c_16 : 0 ≤ (cr (X j).toInt (Y j).toInt (X (nxt n j)).toInt (Y (nxt n j)).toInt (X (nxt n i)).toInt (Y (nxt n i)).toInt) := zc_nlt (iI_toInt (by omega)) rfl c_16
                    refine lv_iconst (v := 1) hx hb dX7_partsMeet_364 rfl ?_
                    refine lv_goto (tgt := 369) hx hb dX7_partsMeet_365 rfl ?_
                    obtain ⟨hP9, hD9⟩ := zu_sub (wc := [_, _, _]) hP hD [true, true, true] rfl rfl
                    rw [hQ9]
                    exact W.zret (ty := .boolean) (v := 1) hx hb hr (rfl) (fun t ht hW => ⟨⟨congrArg (fun z => Outcome.returned (some (Value.int z))) (show (1 : Int32) = pI (eMt n X Y i n X Y j) from (zp_t (by unfold eMt mtC; first | exact ⟨hbx, hby, hs1, by omega⟩ | exact fun h => h.2.2.2 (by omega))).symm), by rw [ht]; exact hP9, hD9⟩, hS.F ht⟩) hS.2.2 dX7_partsMeet_369
          refine lv_iload hx hb dX7_partsMeet_272 (lv_at hl 1 rfl) ?_
          refine lv_if_le (tgt := 282) hx hb dX7_partsMeet_274 rfl (fun c_17 => ?_) (fun c_17 => ?_)
          · have c_17 : (cr (X i).toInt (Y i).toInt (X (nxt n i)).toInt (Y (nxt n i)).toInt (X j).toInt (Y j).toInt) ≤ 0 := zc_le (iI_toInt (by omega)) rfl c_17
            refine lv_iload hx hb dX7_partsMeet_282 (lv_at hl 1 rfl) ?_
            refine lv_if_ge (tgt := 294) hx hb dX7_partsMeet_284 rfl (fun c_18 => ?_) (fun c_18 => ?_)
            · have c_18 : 0 ≤ (cr (X i).toInt (Y i).toInt (X (nxt n i)).toInt (Y (nxt n i)).toInt (X j).toInt (Y j).toInt) := zc_le rfl (iI_toInt (by omega)) c_18
              exact hj_10 (by omega)
            · have c_18 : (cr (X i).toInt (Y i).toInt (X (nxt n i)).toInt (Y (nxt n i)).toInt (X j).toInt (Y j).toInt) < 0 := zc_nle rfl (iI_toInt (by omega)) c_18
              refine lv_iload hx hb dX7_partsMeet_287 (lv_at hl 0 rfl) ?_
              refine lv_if_ge (tgt := 294) hx hb dX7_partsMeet_289 rfl (fun c_19 => ?_) (fun c_19 => ?_)
              · have c_19 : 0 ≤ (cr (X i).toInt (Y i).toInt (X (nxt n i)).toInt (Y (nxt n i)).toInt (X (nxt n j)).toInt (Y (nxt n j)).toInt) := zc_le rfl (iI_toInt (by omega)) c_19
                exact hj_10 (by omega)
              · have c_19 : (cr (X i).toInt (Y i).toInt (X (nxt n i)).toInt (Y (nxt n i)).toInt (X (nxt n j)).toInt (Y (nxt n j)).toInt) < 0 := zc_nle rfl (iI_toInt (by omega)) c_19
                refine lv_iconst (v := 0) hx hb dX7_partsMeet_292 rfl ?_
                obtain ⟨hP9, hD9⟩ := zu_sub (wc := [_, _, _]) hP hD [true, true, true] rfl rfl
                rw [hQ9]
                exact W.zret (ty := .boolean) (v := 0) hx hb hr (rfl) (fun t ht hW => ⟨⟨congrArg (fun z => Outcome.returned (some (Value.int z))) (show (0 : Int32) = pI (eMt n X Y i n X Y j) from (zp_f (by unfold eMt mtC; intro h; exact h.2.2.1 (by omega))).symm), by rw [ht]; exact hP9, hD9⟩, hS.F ht⟩) hS.2.2 dX7_partsMeet_293
          · have c_17 : 0 < (cr (X i).toInt (Y i).toInt (X (nxt n i)).toInt (Y (nxt n i)).toInt (X j).toInt (Y j).toInt) := zc_nle (iI_toInt (by omega)) rfl c_17
            refine lv_iload hx hb dX7_partsMeet_277 (lv_at hl 0 rfl) ?_
            refine lv_if_gt (tgt := 292) hx hb dX7_partsMeet_279 rfl (fun c_20 => ?_) (fun c_20 => ?_)
            · have c_20 : 0 < (cr (X i).toInt (Y i).toInt (X (nxt n i)).toInt (Y (nxt n i)).toInt (X (nxt n j)).toInt (Y (nxt n j)).toInt) := zc_lt rfl (iI_toInt (by omega)) c_20
              refine lv_iconst (v := 0) hx hb dX7_partsMeet_292 rfl ?_
              obtain ⟨hP9, hD9⟩ := zu_sub (wc := [_, _, _]) hP hD [true, true, true] rfl rfl
              rw [hQ9]
              exact W.zret (ty := .boolean) (v := 0) hx hb hr (rfl) (fun t ht hW => ⟨⟨congrArg (fun z => Outcome.returned (some (Value.int z))) (show (0 : Int32) = pI (eMt n X Y i n X Y j) from (zp_f (by unfold eMt mtC; intro h; exact h.2.2.1 (by omega))).symm), by rw [ht]; exact hP9, hD9⟩, hS.F ht⟩) hS.2.2 dX7_partsMeet_293
            · have c_20 : (cr (X i).toInt (Y i).toInt (X (nxt n i)).toInt (Y (nxt n i)).toInt (X (nxt n j)).toInt (Y (nxt n j)).toInt) ≤ 0 := zc_nlt rfl (iI_toInt (by omega)) c_20
              refine lv_iload hx hb dX7_partsMeet_282 (lv_at hl 1 rfl) ?_
              refine lv_if_ge (tgt := 294) hx hb dX7_partsMeet_284 rfl (fun c_21 => ?_) (fun c_21 => ?_)
              · have c_21 : 0 ≤ (cr (X i).toInt (Y i).toInt (X (nxt n i)).toInt (Y (nxt n i)).toInt (X j).toInt (Y j).toInt) := zc_le rfl (iI_toInt (by omega)) c_21
                exact hj_10 (by omega)
              · have c_21 : (cr (X i).toInt (Y i).toInt (X (nxt n i)).toInt (Y (nxt n i)).toInt (X j).toInt (Y j).toInt) < 0 := zc_nle rfl (iI_toInt (by omega)) c_21
                refine lv_iload hx hb dX7_partsMeet_287 (lv_at hl 0 rfl) ?_
                refine lv_if_ge (tgt := 294) hx hb dX7_partsMeet_289 rfl (fun c_22 => ?_) (fun c_22 => ?_)
                · have c_22 : 0 ≤ (cr (X i).toInt (Y i).toInt (X (nxt n i)).toInt (Y (nxt n i)).toInt (X (nxt n j)).toInt (Y (nxt n j)).toInt) := zc_le rfl (iI_toInt (by omega)) c_22
                  exact hj_10 (by omega)
                · have c_22 : (cr (X i).toInt (Y i).toInt (X (nxt n i)).toInt (Y (nxt n i)).toInt (X (nxt n j)).toInt (Y (nxt n j)).toInt) < 0 := zc_nle rfl (iI_toInt (by omega)) c_22
                  refine lv_iconst (v := 0) hx hb dX7_partsMeet_292 rfl ?_
                  obtain ⟨hP9, hD9⟩ := zu_sub (wc := [_, _, _]) hP hD [true, true, true] rfl rfl
                  rw [hQ9]
                  exact W.zret (ty := .boolean) (v := 0) hx hb hr (rfl) (fun t ht hW => ⟨⟨congrArg (fun z => Outcome.returned (some (Value.int z))) (show (0 : Int32) = pI (eMt n X Y i n X Y j) from (zp_f (by unfold eMt mtC; intro h; exact h.2.2.1 (by omega))).symm), by rw [ht]; exact hP9, hD9⟩, hS.F ht⟩) hS.2.2 dX7_partsMeet_293
        have hj_23 : (¬ ((Y i).toInt < (Y j).toInt ∧ (Y (nxt n i)).toInt < (Y j).toInt ∧ (Y i).toInt < (Y (nxt n j)).toInt ∧ (Y (nxt n i)).toInt < (Y (nxt n j)).toInt)) → W p l e ({ frames := 0, cells := 0, slots := 0, locals := 0 } : Room) s m ([.ref r, .int (nI i), .ref r, .int (nI j)] : List Value).toArray below meth c s.heap [] 0 0 Q9 (F0 m 192 ls []) := by
          intro hby0
          refine lv_iload hx hb dX7_partsMeet_192 (lv_at hl 6 rfl) ?_
          refine lv_iload hx hb dX7_partsMeet_194 (lv_at hl 2 rfl) ?_
          refine lv_icmp_le (tgt := 222) hx hb dX7_partsMeet_196 rfl (fun c_24 => ?_) (fun c_24 => ?_)
          · have c_24 : (Y i).toInt ≤ (Y j).toInt := zc_le rfl rfl c_24
            exact hj_9 (by omega)
          · have c_24 : (Y j).toInt < (Y i).toInt := zc_nle rfl rfl c_24
            refine lv_iload hx hb dX7_partsMeet_199 (lv_at hl 4 rfl) ?_
            refine lv_iload hx hb dX7_partsMeet_201 (lv_at hl 2 rfl) ?_
            refine lv_icmp_le (tgt := 222) hx hb dX7_partsMeet_203 rfl (fun c_25 => ?_) (fun c_25 => ?_)
            · have c_25 : (Y (nxt n i)).toInt ≤ (Y j).toInt := zc_le rfl rfl c_25
              exact hj_9 (by omega)
            · have c_25 : (Y j).toInt < (Y (nxt n i)).toInt := zc_nle rfl rfl c_25
              refine lv_iload hx hb dX7_partsMeet_206 (lv_at hl 6 rfl) ?_
              refine lv_iload hx hb dX7_partsMeet_208 (lv_at hl 0 rfl) ?_
              refine lv_icmp_le (tgt := 222) hx hb dX7_partsMeet_210 rfl (fun c_26 => ?_) (fun c_26 => ?_)
              · have c_26 : (Y i).toInt ≤ (Y (nxt n j)).toInt := zc_le rfl rfl c_26
                exact hj_9 (by omega)
              · have c_26 : (Y (nxt n j)).toInt < (Y i).toInt := zc_nle rfl rfl c_26
                refine lv_iload hx hb dX7_partsMeet_213 (lv_at hl 4 rfl) ?_
                refine lv_iload hx hb dX7_partsMeet_215 (lv_at hl 0 rfl) ?_
                refine lv_icmp_le (tgt := 222) hx hb dX7_partsMeet_217 rfl (fun c_27 => ?_) (fun c_27 => ?_)
                · have c_27 : (Y (nxt n i)).toInt ≤ (Y (nxt n j)).toInt := zc_le rfl rfl c_27
                  exact hj_9 (by omega)
                · have c_27 : (Y (nxt n j)).toInt < (Y (nxt n i)).toInt := zc_nle rfl rfl c_27
                  refine lv_iconst (v := 0) hx hb dX7_partsMeet_220 rfl ?_
                  obtain ⟨hP9, hD9⟩ := zu_sub (wc := [_, _, _]) hP hD [true, true, true] rfl rfl
                  rw [hQ9]
                  exact W.zret (ty := .boolean) (v := 0) hx hb hr (rfl) (fun t ht hW => ⟨⟨congrArg (fun z => Outcome.returned (some (Value.int z))) (show (0 : Int32) = pI (eMt n X Y i n X Y j) from (zp_f (by unfold eMt mtC; intro h; exact h.2.1 (by omega))).symm), by rw [ht]; exact hP9, hD9⟩, hS.F ht⟩) hS.2.2 dX7_partsMeet_221
        refine lv_iload hx hb dX7_partsMeet_164 (lv_at hl 6 rfl) ?_
        refine lv_iload hx hb dX7_partsMeet_166 (lv_at hl 2 rfl) ?_
        refine lv_icmp_ge (tgt := 192) hx hb dX7_partsMeet_168 rfl (fun c_28 => ?_) (fun c_28 => ?_)
        · have c_28 : (Y j).toInt ≤ (Y i).toInt := zc_le rfl rfl c_28
          exact hj_23 (by omega)
        · have c_28 : (Y i).toInt < (Y j).toInt := zc_nle rfl rfl c_28
          refine lv_iload hx hb dX7_partsMeet_171 (lv_at hl 4 rfl) ?_
          refine lv_iload hx hb dX7_partsMeet_173 (lv_at hl 2 rfl) ?_
          refine lv_icmp_ge (tgt := 192) hx hb dX7_partsMeet_175 rfl (fun c_29 => ?_) (fun c_29 => ?_)
          · have c_29 : (Y j).toInt ≤ (Y (nxt n i)).toInt := zc_le rfl rfl c_29
            exact hj_23 (by omega)
          · have c_29 : (Y (nxt n i)).toInt < (Y j).toInt := zc_nle rfl rfl c_29
            refine lv_iload hx hb dX7_partsMeet_178 (lv_at hl 6 rfl) ?_
            refine lv_iload hx hb dX7_partsMeet_180 (lv_at hl 0 rfl) ?_
            refine lv_icmp_ge (tgt := 192) hx hb dX7_partsMeet_182 rfl (fun c_30 => ?_) (fun c_30 => ?_)
            · have c_30 : (Y (nxt n j)).toInt ≤ (Y i).toInt := zc_le rfl rfl c_30
              exact hj_23 (by omega)
            · have c_30 : (Y i).toInt < (Y (nxt n j)).toInt := zc_nle rfl rfl c_30
              refine lv_iload hx hb dX7_partsMeet_185 (lv_at hl 4 rfl) ?_
              refine lv_iload hx hb dX7_partsMeet_187 (lv_at hl 0 rfl) ?_
              refine lv_icmp_lt (tgt := 220) hx hb dX7_partsMeet_189 rfl (fun c_31 => ?_) (fun c_31 => ?_)
              · have c_31 : (Y (nxt n i)).toInt < (Y (nxt n j)).toInt := zc_lt rfl rfl c_31
                refine lv_iconst (v := 0) hx hb dX7_partsMeet_220 rfl ?_
                obtain ⟨hP9, hD9⟩ := zu_sub (wc := [_, _, _]) hP hD [true, true, true] rfl rfl
                rw [hQ9]
                exact W.zret (ty := .boolean) (v := 0) hx hb hr (rfl) (fun t ht hW => ⟨⟨congrArg (fun z => Outcome.returned (some (Value.int z))) (show (0 : Int32) = pI (eMt n X Y i n X Y j) from (zp_f (by unfold eMt mtC; intro h; exact h.2.1 (by omega))).symm), by rw [ht]; exact hP9, hD9⟩, hS.F ht⟩) hS.2.2 dX7_partsMeet_221
              · have c_31 : (Y (nxt n j)).toInt ≤ (Y (nxt n i)).toInt := zc_nlt rfl rfl c_31
                exact hj_23 (by omega)
      have hj_32 : (¬ ((X i).toInt < (X j).toInt ∧ (X (nxt n i)).toInt < (X j).toInt ∧ (X i).toInt < (X (nxt n j)).toInt ∧ (X (nxt n i)).toInt < (X (nxt n j)).toInt)) → W p l e ({ frames := 0, cells := 0, slots := 0, locals := 0 } : Room) s m ([.ref r, .int (nI i), .ref r, .int (nI j)] : List Value).toArray below meth c s.heap [] 0 0 Q9 (F0 m 134 ls []) := by
        intro hbx0
        refine lv_iload hx hb dX7_partsMeet_134 (lv_at hl 7 rfl) ?_
        refine lv_iload hx hb dX7_partsMeet_136 (lv_at hl 3 rfl) ?_
        refine lv_icmp_le (tgt := 164) hx hb dX7_partsMeet_138 rfl (fun c_33 => ?_) (fun c_33 => ?_)
        · have c_33 : (X i).toInt ≤ (X j).toInt := zc_le rfl rfl c_33
          exact hj_8 (by omega)
        · have c_33 : (X j).toInt < (X i).toInt := zc_nle rfl rfl c_33
          refine lv_iload hx hb dX7_partsMeet_141 (lv_at hl 5 rfl) ?_
          refine lv_iload hx hb dX7_partsMeet_143 (lv_at hl 3 rfl) ?_
          refine lv_icmp_le (tgt := 164) hx hb dX7_partsMeet_145 rfl (fun c_34 => ?_) (fun c_34 => ?_)
          · have c_34 : (X (nxt n i)).toInt ≤ (X j).toInt := zc_le rfl rfl c_34
            exact hj_8 (by omega)
          · have c_34 : (X j).toInt < (X (nxt n i)).toInt := zc_nle rfl rfl c_34
            refine lv_iload hx hb dX7_partsMeet_148 (lv_at hl 7 rfl) ?_
            refine lv_iload hx hb dX7_partsMeet_150 (lv_at hl 1 rfl) ?_
            refine lv_icmp_le (tgt := 164) hx hb dX7_partsMeet_152 rfl (fun c_35 => ?_) (fun c_35 => ?_)
            · have c_35 : (X i).toInt ≤ (X (nxt n j)).toInt := zc_le rfl rfl c_35
              exact hj_8 (by omega)
            · have c_35 : (X (nxt n j)).toInt < (X i).toInt := zc_nle rfl rfl c_35
              refine lv_iload hx hb dX7_partsMeet_155 (lv_at hl 5 rfl) ?_
              refine lv_iload hx hb dX7_partsMeet_157 (lv_at hl 1 rfl) ?_
              refine lv_icmp_le (tgt := 164) hx hb dX7_partsMeet_159 rfl (fun c_36 => ?_) (fun c_36 => ?_)
              · have c_36 : (X (nxt n i)).toInt ≤ (X (nxt n j)).toInt := zc_le rfl rfl c_36
                exact hj_8 (by omega)
              · have c_36 : (X (nxt n j)).toInt < (X (nxt n i)).toInt := zc_nle rfl rfl c_36
                refine lv_iconst (v := 0) hx hb dX7_partsMeet_162 rfl ?_
                obtain ⟨hP9, hD9⟩ := zu_sub (wc := [_, _, _]) hP hD [true, true, true] rfl rfl
                rw [hQ9]
                exact W.zret (ty := .boolean) (v := 0) hx hb hr (rfl) (fun t ht hW => ⟨⟨congrArg (fun z => Outcome.returned (some (Value.int z))) (show (0 : Int32) = pI (eMt n X Y i n X Y j) from (zp_f (by unfold eMt mtC; intro h; exact h.1 (by omega))).symm), by rw [ht]; exact hP9, hD9⟩, hS.F ht⟩) hS.2.2 dX7_partsMeet_163
      refine lv_iload hx hb dX7_partsMeet_106 (lv_at hl 7 rfl) ?_
      refine lv_iload hx hb dX7_partsMeet_108 (lv_at hl 3 rfl) ?_
      refine lv_icmp_ge (tgt := 134) hx hb dX7_partsMeet_110 rfl (fun c_37 => ?_) (fun c_37 => ?_)
      · have c_37 : (X j).toInt ≤ (X i).toInt := zc_le rfl rfl c_37
        exact hj_32 (by omega)
      · have c_37 : (X i).toInt < (X j).toInt := zc_nle rfl rfl c_37
        refine lv_iload hx hb dX7_partsMeet_113 (lv_at hl 5 rfl) ?_
        refine lv_iload hx hb dX7_partsMeet_115 (lv_at hl 3 rfl) ?_
        refine lv_icmp_ge (tgt := 134) hx hb dX7_partsMeet_117 rfl (fun c_38 => ?_) (fun c_38 => ?_)
        · have c_38 : (X j).toInt ≤ (X (nxt n i)).toInt := zc_le rfl rfl c_38
          exact hj_32 (by omega)
        · have c_38 : (X (nxt n i)).toInt < (X j).toInt := zc_nle rfl rfl c_38
          refine lv_iload hx hb dX7_partsMeet_120 (lv_at hl 7 rfl) ?_
          refine lv_iload hx hb dX7_partsMeet_122 (lv_at hl 1 rfl) ?_
          refine lv_icmp_ge (tgt := 134) hx hb dX7_partsMeet_124 rfl (fun c_39 => ?_) (fun c_39 => ?_)
          · have c_39 : (X (nxt n j)).toInt ≤ (X i).toInt := zc_le rfl rfl c_39
            exact hj_32 (by omega)
          · have c_39 : (X i).toInt < (X (nxt n j)).toInt := zc_nle rfl rfl c_39
            refine lv_iload hx hb dX7_partsMeet_127 (lv_at hl 5 rfl) ?_
            refine lv_iload hx hb dX7_partsMeet_129 (lv_at hl 1 rfl) ?_
            refine lv_icmp_lt (tgt := 162) hx hb dX7_partsMeet_131 rfl (fun c_40 => ?_) (fun c_40 => ?_)
            · have c_40 : (X (nxt n i)).toInt < (X (nxt n j)).toInt := zc_lt rfl rfl c_40
              refine lv_iconst (v := 0) hx hb dX7_partsMeet_162 rfl ?_
              obtain ⟨hP9, hD9⟩ := zu_sub (wc := [_, _, _]) hP hD [true, true, true] rfl rfl
              rw [hQ9]
              exact W.zret (ty := .boolean) (v := 0) hx hb hr (rfl) (fun t ht hW => ⟨⟨congrArg (fun z => Outcome.returned (some (Value.int z))) (show (0 : Int32) = pI (eMt n X Y i n X Y j) from (zp_f (by unfold eMt mtC; intro h; exact h.1 (by omega))).symm), by rw [ht]; exact hP9, hD9⟩, hS.F ht⟩) hS.2.2 dX7_partsMeet_163
            · have c_40 : (X (nxt n j)).toInt ≤ (X (nxt n i)).toInt := zc_nlt rfl rfl c_40
              exact hj_32 (by omega)
    have b9_42 : (j + 1) < 2147483648 := by omega
    have b9_43 : n < 2147483648 := by omega
    refine lv_icmp_ge (tgt := 35) hx hb dX7_partsMeet_26 rfl (fun c_41 => ?_) (fun c_41 => ?_)
    · have c_41 : ((n : Nat) : Int) ≤ ((j + 1 : Nat) : Int) := zc_le (nI_toInt b9_43) (nI_toInt b9_42) c_41
      refine lv_iconst (v := 0) hx hb dX7_partsMeet_35 rfl ?_
      refine zz_i (v := nI (nxt n j)) (by first | (rw [nxt, if_pos (by omega)]) | (rw [nxt, if_neg (by omega)]; first | done | rfl)) ?_
      exact hj_2 
    · have c_41 : ((j + 1 : Nat) : Int) < ((n : Nat) : Int) := zc_nle (nI_toInt b9_43) (nI_toInt b9_42) c_41
      refine lv_iload_n hx hb dX7_partsMeet_29 rfl (lv_at hl 4 rfl) ?_
      refine lv_iconst (v := 1) hx hb dX7_partsMeet_30 rfl ?_
      refine lv_iadd hx hb dX7_partsMeet_31 ?_
      refine zz_i (v := nI (j + 1)) (nI_add j 1) ?_
      refine lv_goto (tgt := 36) hx hb dX7_partsMeet_32 rfl ?_
      refine zz_i (v := nI (nxt n j)) (by first | (rw [nxt, if_pos (by omega)]) | (rw [nxt, if_neg (by omega)]; first | done | rfl)) ?_
      exact hj_2 
  have b9_45 : (i + 1) < 2147483648 := by omega
  have b9_46 : n < 2147483648 := by omega
  refine lv_icmp_ge (tgt := 16) hx hb dX7_partsMeet_7 rfl (fun c_44 => ?_) (fun c_44 => ?_)
  · have c_44 : ((n : Nat) : Int) ≤ ((i + 1 : Nat) : Int) := zc_le (nI_toInt b9_46) (nI_toInt b9_45) c_44
    refine lv_iconst (v := 0) hx hb dX7_partsMeet_16 rfl ?_
    refine zz_i (v := nI (nxt n i)) (by first | (rw [nxt, if_pos (by omega)]) | (rw [nxt, if_neg (by omega)]; first | done | rfl)) ?_
    exact hj_1 
  · have c_44 : ((i + 1 : Nat) : Int) < ((n : Nat) : Int) := zc_nle (nI_toInt b9_46) (nI_toInt b9_45) c_44
    refine lv_iload_n hx hb dX7_partsMeet_10 rfl (lv_at hl 1 rfl) ?_
    refine lv_iconst (v := 1) hx hb dX7_partsMeet_11 rfl ?_
    refine lv_iadd hx hb dX7_partsMeet_12 ?_
    refine zz_i (v := nI (i + 1)) (nI_add i 1) ?_
    refine lv_goto (tgt := 17) hx hb dX7_partsMeet_13 rfl ?_
    refine zz_i (v := nI (nxt n i)) (by first | (rw [nxt, if_pos (by omega)]) | (rw [nxt, if_neg (by omega)]; first | done | rfl)) ?_
    exact hj_1 
set_option maxHeartbeats 4000000 in
set_option maxRecDepth 100000 in
theorem k_Row_touches (l : Launch) (dC : Nat → ClassId) (dI : Nat → Nat → Nat) (cI cZ cF : ClassId) (sz : Nat) (r : Nat) (rx : Nat) (ry : Nat) (n : Nat) (cap : Nat) (X : Nat → Int32) (Y : Nat → Int32) (rg : Int32) (u : Nat) (ux : Nat) (uy : Nat) (m2 : Nat) (cap2 : Nat) (U : Nat → Int32) (V : Nat → Int32) (rh : Int32) (hn : n ≤ cap) (hcap : cap ≤ 1000) (hp : pls n X Y) (hm : m2 ≤ cap2) (hcap2 : cap2 ≤ 1000) (hq : pls m2 U V) : zM l yX7_touches cX7_touches 6 (some .boolean) ({ frames := 2, cells := 0, slots := 0, locals := 40 } : Room) [.ref r, .ref u] (dC, dI) (zTy cI cZ cF) [(oc6 r (.ref rx) (.ref ry) (nI n) rg), (oa rx cI cap X), (oa ry cI cap Y), (oc6 u (.ref ux) (.ref uy) (nI m2) rh), (oa ux cI cap2 U), (oa uy cI cap2 V)] sz (some (.int (pI (∃ i, i < prt n rg ∧ ∃ j, j < prt m2 rh ∧ eMt n X Y i m2 U V j)))) (fun A t => zPD (dC, dI) classes A [(oc6 r (.ref rx) (.ref ry) (nI n) rg), (oa rx cI cap X), (oa ry cI cap Y), (oc6 u (.ref ux) (.ref uy) (nI m2) rh), (oa ux cI cap2 U), (oa uy cI cap2 V)] t.heap) 0 0 := by
  refine zIn (own := "ScaleShop$Row") (loc := [(0, .ref r), (1, .ref u)]) rfl rfl rfl rfl (fun p e s m below meth c hx hb hr hts hown hlocks hml hnm9 A hA hS hP hD hK hXN Q9 hQ9 ls hl => ?_)
  have hpr := prt_le n rg
  have hpr2 := prt_le m2 rh
  refine lv_aload_n hx hb dX7_touches_0 rfl (lv_at hl 0 rfl) ?_
  obtain ⟨hPc, hDc, hFc⟩ := zo_sub (wc := [_, _, _]) hP hD hS hA [0, 1, 2] rfl rfl
  refine zcall (st1 := [.int (nI (prt n rg))]) (va_runV (As := []) (rest := []) ⟨hx, hb, hml, hown, hts⟩ (k_Row_parts l dC dI cI cZ cF s.heap.size r rx ry n cap X Y rg (by first | with_reducible assumption | omega) (by first | with_reducible assumption | omega)) (csV_2 hts rfl rfl ⟨Nat.le_of_ble_eq_true rfl, Nat.le_of_ble_eq_true rfl⟩) (zPV2 (q0 := 0) (ci := 6) hPc hDc hK hXN rfl rfl) rfl rfl hl.1 rfl (lv_room (Nat.le_of_ble_eq_true rfl)) dX7_touches_1 ⟨Nat.le_of_ble_eq_true rfl, Nat.le_of_ble_eq_true rfl⟩) hS hFc hFc rfl (fun t H locs ht hB hk1 hS => ?_)
  obtain ⟨hP1, hD1⟩ := hB
  rw [ht] at hP1
  obtain ⟨hP, hD⟩ := zn (W2 := [_, _, _, _, _, _]) hP hD hk1 hFc hP1 hD1 [0, 1, 2] [false, false, false, true, true, true] [false, false, false, true, true, true] [0, 1, 2] (by decide +kernel) rfl rfl rfl rfl rfl
  clear hk1 hPc hDc hFc hP1 hD1 ht
  refine lv_istore_n (lv' := [(2, .int (nI (prt n rg))), (0, .ref r), (1, .ref u)]) hx hb dX7_touches_4 rfl hl (Nat.le_of_ble_eq_true rfl) rfl (fun ls hl => ?_)
  refine lv_aload_n hx hb dX7_touches_5 rfl (lv_at hl 2 rfl) ?_
  obtain ⟨hPc, hDc, hFc⟩ := zo_sub (wc := [_, _, _]) hP hD hS hA [3, 4, 5] rfl rfl
  refine zcall (st1 := [.int (nI (prt m2 rh))]) (va_runV (As := []) (rest := []) ⟨hx, hb, hml, hown, hts⟩ (k_Row_parts l dC dI cI cZ cF H.size u ux uy m2 cap2 U V rh (by first | with_reducible assumption | omega) (by first | with_reducible assumption | omega)) (csV_2 hts rfl rfl ⟨Nat.le_of_ble_eq_true rfl, Nat.le_of_ble_eq_true rfl⟩) (zPV2 (q0 := 0) (ci := 6) hPc hDc hK hXN rfl rfl) rfl rfl hl.1 rfl (lv_room (Nat.le_of_ble_eq_true rfl)) dX7_touches_6 ⟨Nat.le_of_ble_eq_true rfl, Nat.le_of_ble_eq_true rfl⟩) hS hFc hFc rfl (fun t H locs ht hB hk1 hS => ?_)
  obtain ⟨hP1, hD1⟩ := hB
  rw [ht] at hP1
  obtain ⟨hP, hD⟩ := zn (W2 := [_, _, _, _, _, _]) hP hD hk1 hFc hP1 hD1 [3, 4, 5] [true, true, true] [true, true, true, false, false, false] [3, 4, 5] (by decide +kernel) rfl rfl rfl rfl rfl
  clear hk1 hPc hDc hFc hP1 hD1 ht
  refine lv_istore_n (lv' := [(3, .int (nI (prt m2 rh))), (2, .int (nI (prt n rg))), (0, .ref r), (1, .ref u)]) hx hb dX7_touches_9 rfl hl (Nat.le_of_ble_eq_true rfl) rfl (fun ls hl => ?_)
  refine lv_iconst (v := 0) hx hb dX7_touches_10 rfl ?_
  refine lv_istore (lv' := [(4, .int 0), (3, .int (nI (prt m2 rh))), (2, .int (nI (prt n rg))), (0, .ref r), (1, .ref u)]) hx hb dX7_touches_11 hl (Nat.le_of_ble_eq_true rfl) rfl (fun ls hl => ?_)
  have hl_13 : ∀ (n9 : Nat) (i : Nat) (H : Heap) (locs : List Loc) (ls : Array Slot), prt n rg - i < n9 → (i ≤ prt n rg) → (∀ k, k < i → ∀ j, j < prt m2 rh → ¬ eMt n X Y k m2 U V j) → va_P (dC, dI) classes [(oc6 r (.ref rx) (.ref ry) (nI n) rg), (oa rx cI cap X), (oa ry cI cap Y), (oc6 u (.ref ux) (.ref uy) (nI m2) rh), (oa ux cI cap2 U), (oa uy cI cap2 V)] H → va_D A [(oc6 r (.ref rx) (.ref ry) (nI n) rg), (oa rx cI cap X), (oa ry cI cap Y), (oc6 u (.ref ux) (.ref uy) (nI m2) rh), (oa ux cI cap2 U), (oa uy cI cap2 V)] → va_S A s.heap H locs → lv_has ls 6 [(4, .int (nI i)), (3, .int (nI (prt m2 rh))), (2, .int (nI (prt n rg))), (0, .ref r), (1, .ref u)] → W p l e ({ frames := 2, cells := 0, slots := 0, locals := 40 } : Room) s m ([.ref r, .ref u] : List Value).toArray below meth c H locs 0 0 Q9 (F0 m 13 ls []) := by
    intro n9
    induction n9 with
    | zero => intro i H locs ls hm; exact absurd hm (Nat.not_lt_zero _)
    | succ n9 ih_13 =>
      intro i H locs ls hm hi hno hP hD hS hl
      refine lv_iload hx hb dX7_touches_13 (lv_at hl 0 rfl) ?_
      refine lv_iload_n hx hb dX7_touches_15 rfl (lv_at hl 2 rfl) ?_
      have b9_2 : i < 2147483648 := by omega
      have b9_3 : (prt n rg) < 2147483648 := by omega
      refine lv_icmp_ge (tgt := 54) hx hb dX7_touches_16 rfl (fun c_1 => ?_) (fun c_1 => ?_)
      · have c_1 : ((prt n rg : Nat) : Int) ≤ ((i : Nat) : Int) := zc_le (nI_toInt b9_3) (nI_toInt b9_2) c_1
        refine lv_iconst (v := 0) hx hb dX7_touches_54 rfl ?_
        obtain ⟨hP9, hD9⟩ := zu_sub (wc := [_, _, _, _, _, _]) hP hD [true, true, true, true, true, true] rfl rfl
        rw [hQ9]
        exact W.zret (ty := .boolean) (v := 0) hx hb hr (rfl) (fun t ht hW => ⟨⟨congrArg (fun z => Outcome.returned (some (Value.int z))) (show (0 : Int32) = pI (∃ i, i < prt n rg ∧ ∃ j, j < prt m2 rh ∧ eMt n X Y i m2 U V j) from (zp_f (fun ⟨k, hk, j, hj, h⟩ => hno k (by omega) j hj h)).symm), by rw [ht]; exact hP9, hD9⟩, hS.F ht⟩) hS.2.2 dX7_touches_55
      · have c_1 : ((i : Nat) : Int) < ((prt n rg : Nat) : Int) := zc_nle (nI_toInt b9_3) (nI_toInt b9_2) c_1
        refine lv_iconst (v := 0) hx hb dX7_touches_19 rfl ?_
        refine lv_istore (lv' := [(5, .int 0), (4, .int (nI i)), (3, .int (nI (prt m2 rh))), (2, .int (nI (prt n rg))), (0, .ref r), (1, .ref u)]) hx hb dX7_touches_20 hl (Nat.le_of_ble_eq_true rfl) rfl (fun ls hl => ?_)
        have hl_22 : ∀ (n9 : Nat) (j : Nat) (H : Heap) (locs : List Loc) (ls : Array Slot), prt m2 rh - j < n9 → (j ≤ prt m2 rh) → (∀ k, k < j → ¬ eMt n X Y i m2 U V k) → va_P (dC, dI) classes [(oc6 r (.ref rx) (.ref ry) (nI n) rg), (oa rx cI cap X), (oa ry cI cap Y), (oc6 u (.ref ux) (.ref uy) (nI m2) rh), (oa ux cI cap2 U), (oa uy cI cap2 V)] H → va_D A [(oc6 r (.ref rx) (.ref ry) (nI n) rg), (oa rx cI cap X), (oa ry cI cap Y), (oc6 u (.ref ux) (.ref uy) (nI m2) rh), (oa ux cI cap2 U), (oa uy cI cap2 V)] → va_S A s.heap H locs → lv_has ls 6 [(5, .int (nI j)), (4, .int (nI i)), (3, .int (nI (prt m2 rh))), (2, .int (nI (prt n rg))), (0, .ref r), (1, .ref u)] → W p l e ({ frames := 2, cells := 0, slots := 0, locals := 40 } : Room) s m ([.ref r, .ref u] : List Value).toArray below meth c H locs 0 0 Q9 (F0 m 22 ls []) := by
          intro n9
          induction n9 with
          | zero => intro j H locs ls hm; exact absurd hm (Nat.not_lt_zero _)
          | succ n9 ih_22 =>
            intro j H locs ls hm hj hno2 hP hD hS hl
            refine lv_iload hx hb dX7_touches_22 (lv_at hl 0 rfl) ?_
            refine lv_iload_n hx hb dX7_touches_24 rfl (lv_at hl 2 rfl) ?_
            have b9_5 : j < 2147483648 := by omega
            have b9_6 : (prt m2 rh) < 2147483648 := by omega
            refine lv_icmp_ge (tgt := 48) hx hb dX7_touches_25 rfl (fun c_4 => ?_) (fun c_4 => ?_)
            · have c_4 : ((prt m2 rh : Nat) : Int) ≤ ((j : Nat) : Int) := zc_le (nI_toInt b9_6) (nI_toInt b9_5) c_4
              refine lv_iinc (v := nI (i + 1)) (lv' := [(4, .int (nI (i + 1))), (5, .int (nI j)), (3, .int (nI (prt m2 rh))), (2, .int (nI (prt n rg))), (0, .ref r), (1, .ref u)]) hx hb dX7_touches_48 hl (k := 1) rfl (nI_add i 1) (Nat.le_of_ble_eq_true rfl) rfl (fun ls hl => ?_)
              refine lv_goto (tgt := 13) hx hb dX7_touches_51 rfl ?_
              exact ih_13 (i + 1) H locs ls (by first | with_reducible assumption | omega) (by first | with_reducible assumption | omega) (by intro k hk; rcases Nat.lt_or_ge k i with h | h; exact hno k h; intro j2 hj2; have e9 : k = i := (by first | with_reducible assumption | omega); subst e9; exact hno2 j2 (by first | with_reducible assumption | omega)) hP hD hS (lv_sub hl [0, 2, 3, 4, 5] rfl)
            · have c_4 : ((j : Nat) : Int) < ((prt m2 rh : Nat) : Int) := zc_nle (nI_toInt b9_6) (nI_toInt b9_5) c_4
              refine lv_aload_n hx hb dX7_touches_28 rfl (lv_at hl 4 rfl) ?_
              refine lv_iload hx hb dX7_touches_29 (lv_at hl 1 rfl) ?_
              refine lv_aload_n hx hb dX7_touches_31 rfl (lv_at hl 5 rfl) ?_
              refine lv_iload hx hb dX7_touches_32 (lv_at hl 0 rfl) ?_
              obtain ⟨hPc, hDc, hFc⟩ := zo_sub (wc := [_, _, _, _, _, _]) hP hD hS hA [0, 1, 2, 3, 4, 5] (by decide +kernel) rfl
              refine zcall (st1 := [.int (pI (eMt n X Y i m2 U V j))]) (va_runV (As := [.int (nI i), .ref u, .int (nI j)]) (rest := []) ⟨hx, hb, hml, hown, hts⟩ (k_Row_partsMeet l dC dI cI cZ cF H.size r rx ry n cap X Y rg u ux uy m2 cap2 U V rh i j (by first | with_reducible assumption | omega) (by first | with_reducible assumption | omega) (by first | with_reducible assumption | assumption) (by first | with_reducible assumption | omega) (by first | with_reducible assumption | omega) (by first | with_reducible assumption | assumption) (by first | with_reducible assumption | omega) (by first | with_reducible assumption | omega)) (csV_4 hts rfl rfl ⟨Nat.le_of_ble_eq_true rfl, Nat.le_of_ble_eq_true rfl⟩) (zPV2 (q0 := 0) (ci := 6) hPc hDc hK hXN rfl rfl) rfl rfl hl.1 rfl (lv_room (Nat.le_of_ble_eq_true rfl)) dX7_touches_34 ⟨Nat.le_of_ble_eq_true rfl, Nat.le_of_ble_eq_true rfl⟩) hS hFc hFc rfl (fun t H locs ht hB hk1 hS => ?_)
              obtain ⟨hP1, hD1⟩ := hB
              rw [ht] at hP1
              obtain ⟨hP, hD⟩ := zn (W2 := [_, _, _, _, _, _]) hP hD hk1 hFc hP1 hD1 [0, 1, 2, 3, 4, 5] [] [false, false, false, false, false, false] [0, 1, 2, 3, 4, 5] (by decide +kernel) rfl rfl rfl rfl rfl
              clear hk1 hPc hDc hFc hP1 hD1 ht
              refine lv_if_eq (tgt := 42) hx hb dX7_touches_37 rfl (fun c_7 => ?_) (fun c_7 => ?_)
              · have c_7 : ¬ (eMt n X Y i m2 U V j) := zp_0 c_7
                refine lv_iinc (v := nI (j + 1)) (lv' := [(5, .int (nI (j + 1))), (4, .int (nI i)), (3, .int (nI (prt m2 rh))), (2, .int (nI (prt n rg))), (0, .ref r), (1, .ref u)]) hx hb dX7_touches_42 hl (k := 0) rfl (nI_add j 1) (Nat.le_of_ble_eq_true rfl) rfl (fun ls hl => ?_)
                refine lv_goto (tgt := 22) hx hb dX7_touches_45 rfl ?_
                exact ih_22 (j + 1) H locs ls (by first | with_reducible assumption | omega) (by first | with_reducible assumption | omega) (by intro k hk; rcases Nat.lt_or_ge k j with h | h; exact hno2 k h; have e9 : k = j := (by first | with_reducible assumption | omega); subst e9; assumption) hP hD hS (lv_sub hl [0, 1, 2, 3, 4, 5] rfl)
              · have c_7 : eMt n X Y i m2 U V j := zp_1 c_7
                refine lv_iconst (v := 1) hx hb dX7_touches_40 rfl ?_
                obtain ⟨hP9, hD9⟩ := zu_sub (wc := [_, _, _, _, _, _]) hP hD [true, true, true, true, true, true] rfl rfl
                rw [hQ9]
                exact W.zret (ty := .boolean) (v := 1) hx hb hr (rfl) (fun t ht hW => ⟨⟨congrArg (fun z => Outcome.returned (some (Value.int z))) (show (1 : Int32) = pI (∃ i, i < prt n rg ∧ ∃ j, j < prt m2 rh ∧ eMt n X Y i m2 U V j) from (zp_t (⟨i, by omega, j, by omega, by assumption⟩)).symm), by rw [ht]; exact hP9, hD9⟩, hS.F ht⟩) hS.2.2 dX7_touches_41
        exact hl_22 _ 0 H locs ls (Nat.lt_succ_self _) (by first | with_reducible assumption | omega) (by intro k hk; omega) hP hD hS (lv_sub hl [0, 1, 2, 3, 4, 5] rfl)
  exact hl_13 _ 0 H locs ls (Nat.lt_succ_self _) (by first | with_reducible assumption | omega) (by intro k hk; omega) hP hD hS (lv_sub hl [0, 1, 2, 3, 4] rfl)
set_option maxHeartbeats 4000000 in
set_option maxRecDepth 100000 in
theorem k_Row_put (l : Launch) (dC : Nat → ClassId) (dI : Nat → Nat → Nat) (cI cZ cF : ClassId) (sz : Nat) (r : Nat) (rx : Nat) (ry : Nat) (n : Nat) (cap : Nat) (X : Nat → Int32) (Y : Nat → Int32) (rg : Int32) (px : Int32) (py : Int32) (hn : n < cap) (hcap : cap ≤ 1000) : zM l yX7_put cX7_put 3 none ({ frames := 0, cells := 0, slots := 0, locals := 0 } : Room) [.ref r, .int px, .int py] (dC, dI) (zTy cI cZ cF) [(oc6 r (.ref rx) (.ref ry) (nI n) rg), (oa rx cI cap X), (oa ry cI cap Y)] sz none (fun A t => zPD (dC, dI) classes A [(oc6 r (.ref rx) (.ref ry) (nI (n + 1)) rg), (oa rx cI cap (upd X n px)), (oa ry cI cap (upd Y n py))] t.heap) 0 0 := by
  refine zIn (own := "ScaleShop$Row") (loc := [(0, .ref r), (1, .int px), (2, .int py)]) rfl rfl rfl rfl (fun p e s m below meth c hx hb hr hts hown hlocks hml hnm9 A hA hS hP hD hK hXN Q9 hQ9 ls hl => ?_)
  refine lv_aload_n hx hb dX7_put_0 rfl (lv_at hl 0 rfl) ?_
  refine va_get (D := (dC, dI)) (ci := 6) (v := .int (nI n)) (C := RX7) (T := TX7) (N := 4) hx hb hts inX7 hown hK hP 0 rfl rfl 2 (Nat.le_of_ble_eq_true rfl) (hts _ mw_175) (fun _ h9 => h9) rfl dX7_put_1 ?_
  refine lv_aload_n hx hb dX7_put_4 rfl (lv_at hl 0 rfl) ?_
  refine va_get (D := (dC, dI)) (ci := 6) (v := .ref rx) (C := RX7) (T := TX7) (N := 4) hx hb hts inX7 hown hK hP 0 rfl rfl 0 (Nat.le_of_ble_eq_true rfl) (hts _ mw_161) (fun _ h9 => h9) rfl dX7_put_5 ?_
  refine va_alen (v := nI cap) hx hb hK hP 1 0 rfl rfl rfl dX7_put_8 ?_
  have b9_2 : n < 2147483648 := by omega
  have b9_3 : cap < 2147483648 := by omega
  refine lv_icmp_ge (tgt := 42) hx hb dX7_put_9 rfl (fun c_1 => ?_) (fun c_1 => ?_)
  · have c_1 : ((cap : Nat) : Int) ≤ ((n : Nat) : Int) := zc_le (nI_toInt b9_3) (nI_toInt b9_2) c_1
    exfalso; omega
  · have c_1 : ((n : Nat) : Int) < ((cap : Nat) : Int) := zc_nle (nI_toInt b9_3) (nI_toInt b9_2) c_1
    refine lv_aload_n hx hb dX7_put_12 rfl (lv_at hl 0 rfl) ?_
    refine va_get (D := (dC, dI)) (ci := 6) (v := .ref rx) (C := RX7) (T := TX7) (N := 4) hx hb hts inX7 hown hK hP 0 rfl rfl 0 (Nat.le_of_ble_eq_true rfl) (hts _ mw_161) (fun _ h9 => h9) rfl dX7_put_13 ?_
    refine lv_aload_n hx hb dX7_put_16 rfl (lv_at hl 0 rfl) ?_
    refine va_get (D := (dC, dI)) (ci := 6) (v := .int (nI n)) (C := RX7) (T := TX7) (N := 4) hx hb hts inX7 hown hK hP 0 rfl rfl 2 (Nat.le_of_ble_eq_true rfl) (hts _ mw_175) (fun _ h9 => h9) rfl dX7_put_17 ?_
    refine lv_iload_n hx hb dX7_put_20 rfl (lv_at hl 1 rfl) ?_
    have b9_4 : n < cap := by omega
    refine z_iast hx hb hK hP hD hS 1 0 rfl rfl (e := n) (x := px) rfl b9_4 b9_3 dX7_put_21 (fun H locs hP hD hS => ?_)
    obtain ⟨hP, hD⟩ := zre (W2 := [_, (oa rx cI cap (upd X n px)), _]) hP hD rfl
    refine lv_aload_n hx hb dX7_put_22 rfl (lv_at hl 0 rfl) ?_
    refine va_get (D := (dC, dI)) (ci := 6) (v := .ref ry) (C := RX7) (T := TX7) (N := 4) hx hb hts inX7 hown hK hP 0 rfl rfl 1 (Nat.le_of_ble_eq_true rfl) (hts _ mw_168) (fun _ h9 => h9) rfl dX7_put_23 ?_
    refine lv_aload_n hx hb dX7_put_26 rfl (lv_at hl 0 rfl) ?_
    refine va_get (D := (dC, dI)) (ci := 6) (v := .int (nI n)) (C := RX7) (T := TX7) (N := 4) hx hb hts inX7 hown hK hP 0 rfl rfl 2 (Nat.le_of_ble_eq_true rfl) (hts _ mw_175) (fun _ h9 => h9) rfl dX7_put_27 ?_
    refine lv_iload_n hx hb dX7_put_30 rfl (lv_at hl 2 rfl) ?_
    refine z_iast hx hb hK hP hD hS 2 0 rfl rfl (e := n) (x := py) rfl b9_4 b9_3 dX7_put_31 (fun H locs hP hD hS => ?_)
    obtain ⟨hP, hD⟩ := zre (W2 := [_, _, (oa ry cI cap (upd Y n py))]) hP hD rfl
    refine lv_aload_n hx hb dX7_put_32 rfl (lv_at hl 0 rfl) ?_
    refine lv_dup hx hb dX7_put_33 rfl ?_
    refine va_get (D := (dC, dI)) (ci := 6) (v := .int (nI n)) (C := RX7) (T := TX7) (N := 4) hx hb hts inX7 hown hK hP 0 rfl rfl 2 (Nat.le_of_ble_eq_true rfl) (hts _ mw_175) (fun _ h9 => h9) rfl dX7_put_34 ?_
    refine lv_iconst (v := 1) hx hb dX7_put_37 rfl ?_
    refine lv_iadd hx hb dX7_put_38 ?_
    refine zz_i (v := nI (n + 1)) (nI_add n 1) ?_
    refine va_put (D := (dC, dI)) (ci := 6) (v := .int (nI (n + 1))) (ty := .int) (C := RX7) (T := TX7) (N := 4) hx hb hts inX7 tyX7 tyX7_ok nmX7 hown hK hP hD hS 0 rfl rfl 2 (by decide) (hts _ mw_175) (fun _ h9 => h9) rfl (by decide +kernel) rfl rfl (Nat.le_of_ble_eq_true rfl) dX7_put_39 (fun H locs hP hD hS => ?_)
    obtain ⟨hP, hD⟩ := zre (W2 := [(oc6 r (.ref rx) (.ref ry) (nI (n + 1)) rg), _, _]) hP hD rfl
    obtain ⟨hP9, hD9⟩ := zu_sub (wc := [_, _, _]) hP hD [true, true, true] rfl rfl
    rw [hQ9]
    exact W.vret hx hb hr (fun t ht hW => ⟨⟨rfl, by rw [ht]; exact hP9, hD9⟩, hS.F ht⟩) hS.2.2 dX7_put_42
set_option maxHeartbeats 4000000 in
set_option maxRecDepth 100000 in
theorem k_Row_clear (l : Launch) (dC : Nat → ClassId) (dI : Nat → Nat → Nat) (cI cZ cF : ClassId) (sz : Nat) (r : Nat) (rx : Nat) (ry : Nat) (n : Nat) (cap : Nat) (X : Nat → Int32) (Y : Nat → Int32) (rg : Int32) (rh : Int32) (hrh : rh = 0 ∨ rh = 1) : zM l yX7_clear cX7_clear 2 none ({ frames := 0, cells := 0, slots := 0, locals := 0 } : Room) [.ref r, .int rh] (dC, dI) (zTy cI cZ cF) [(oc6 r (.ref rx) (.ref ry) (nI n) rg), (oa rx cI cap X), (oa ry cI cap Y)] sz none (fun A t => zPD (dC, dI) classes A [(oc6 r (.ref rx) (.ref ry) (nI 0) rh), (oa rx cI cap X), (oa ry cI cap Y)] t.heap) 0 0 := by
  refine zIn (own := "ScaleShop$Row") (loc := [(0, .ref r), (1, .int rh)]) rfl rfl rfl rfl (fun p e s m below meth c hx hb hr hts hown hlocks hml hnm9 A hA hS hP hD hK hXN Q9 hQ9 ls hl => ?_)
  refine lv_aload_n hx hb dX7_clear_0 rfl (lv_at hl 0 rfl) ?_
  refine lv_iconst (v := 0) hx hb dX7_clear_1 rfl ?_
  refine va_put (D := (dC, dI)) (ci := 6) (v := .int 0) (ty := .int) (C := RX7) (T := TX7) (N := 4) hx hb hts inX7 tyX7 tyX7_ok nmX7 hown hK hP hD hS 0 rfl rfl 2 (by decide) (hts _ mw_175) (fun _ h9 => h9) rfl (by decide +kernel) rfl rfl (Nat.le_of_ble_eq_true rfl) dX7_clear_2 (fun H locs hP hD hS => ?_)
  obtain ⟨hP, hD⟩ := zre (W2 := [(oc6 r (.ref rx) (.ref ry) 0 rg), _, _]) hP hD rfl
  refine lv_aload_n hx hb dX7_clear_5 rfl (lv_at hl 0 rfl) ?_
  refine lv_iload_n hx hb dX7_clear_6 rfl (lv_at hl 1 rfl) ?_
  refine va_put (D := (dC, dI)) (ci := 6) (v := .int rh) (ty := .boolean) (C := RX7) (T := TX7) (N := 4) hx hb hts inX7 tyX7 tyX7_ok nmX7 hown hK hP hD hS 0 rfl rfl 3 (by decide) (hts _ mw_183) (fun _ h9 => h9) rfl (by decide +kernel) (zb_nar hrh) (zb_fit hrh) (Nat.le_of_ble_eq_true rfl) dX7_clear_7 (fun H locs hP hD hS => ?_)
  obtain ⟨hP, hD⟩ := zre (W2 := [(oc6 r (.ref rx) (.ref ry) 0 rh), _, _]) hP hD rfl
  obtain ⟨hP9, hD9⟩ := zu_sub (wc := [(oc6 r (.ref rx) (.ref ry) 0 rh), (oa rx cI cap X), (oa ry cI cap Y)]) hP hD [true, true, true] rfl rfl
  have hE9 : ([(oc6 r (.ref rx) (.ref ry) 0 rh), (oa rx cI cap X), (oa ry cI cap Y)] : va_W) = [(oc6 r (.ref rx) (.ref ry) (nI 0) rh), (oa rx cI cap X), (oa ry cI cap Y)] := by rfl
  rw [hE9] at hP9 hD9
  rw [hQ9]
  exact W.vret hx hb hr (fun t ht hW => ⟨⟨rfl, by rw [ht]; exact hP9, hD9⟩, hS.F ht⟩) hS.2.2 dX7_clear_10
end
section
set_option maxHeartbeats 4000000 in
set_option maxRecDepth 100000 in
theorem k_Row_where (l : Launch) (dC : Nat → ClassId) (dI : Nat → Nat → Nat) (cI cZ cF : ClassId) (sz : Nat) (r : Nat) (rx : Nat) (ry : Nat) (n : Nat) (cap : Nat) (X : Nat → Int32) (Y : Nat → Int32) (rg : Int32) (px : Int32) (py : Int32) (hn : n ≤ cap) (hcap : cap ≤ 1000) (hp : pls n X Y) (hpx : pl px) (hpy : pl py) : zM l yX7_where cX7_where 7 (some .int) ({ frames := 0, cells := 0, slots := 0, locals := 0 } : Room) [.ref r, .int px, .int py] (dC, dI) (zTy cI cZ cF) [(oc6 r (.ref rx) (.ref ry) (nI n) rg), (oa rx cI cap X), (oa ry cI cap Y)] sz (some (.int (whr n X Y px.toInt py.toInt))) (fun A t => zPD (dC, dI) classes A [(oc6 r (.ref rx) (.ref ry) (nI n) rg), (oa rx cI cap X), (oa ry cI cap Y)] t.heap) 0 0 := by
  refine zIn (own := "ScaleShop$Row") (loc := [(0, .ref r), (1, .int px), (2, .int py)]) rfl rfl rfl rfl (fun p e s m below meth c hx hb hr hts hown hlocks hml hnm9 A hA hS hP hD hK hXN Q9 hQ9 ls hl => ?_)
  refine lv_iconst (v := 0) hx hb dX7_where_0 rfl ?_
  refine lv_istore_n (lv' := [(3, .int 0), (0, .ref r), (1, .int px), (2, .int py)]) hx hb dX7_where_1 rfl hl (Nat.le_of_ble_eq_true rfl) rfl (fun ls hl => ?_)
  refine lv_iconst (v := 0) hx hb dX7_where_2 rfl ?_
  refine lv_istore (lv' := [(4, .int 0), (3, .int 0), (0, .ref r), (1, .int px), (2, .int py)]) hx hb dX7_where_3 hl (Nat.le_of_ble_eq_true rfl) rfl (fun ls hl => ?_)
  have hl_5 : ∀ (n9 : Nat) (i : Nat) (H : Heap) (locs : List Loc) (ls : Array Slot), n - i < n9 → (i ≤ n) → (∀ k, k < i → ¬ eOn n X Y k px.toInt py.toInt) → va_P (dC, dI) classes [(oc6 r (.ref rx) (.ref ry) (nI n) rg), (oa rx cI cap X), (oa ry cI cap Y)] H → va_D A [(oc6 r (.ref rx) (.ref ry) (nI n) rg), (oa rx cI cap X), (oa ry cI cap Y)] → va_S A s.heap H locs → lv_has ls 7 [(4, .int (nI i)), (3, .int (pI (par2 (eTg n X Y px.toInt py.toInt) i))), (0, .ref r), (1, .int px), (2, .int py)] → W p l e ({ frames := 0, cells := 0, slots := 0, locals := 0 } : Room) s m ([.ref r, .int px, .int py] : List Value).toArray below meth c H locs 0 0 Q9 (F0 m 5 ls []) := by
    intro n9
    induction n9 with
    | zero => intro i H locs ls hm; exact absurd hm (Nat.not_lt_zero _)
    | succ n9 ih_5 =>
      intro i H locs ls hm hi hno hP hD hS hl
      refine lv_iload hx hb dX7_where_5 (lv_at hl 0 rfl) ?_
      refine lv_aload_n hx hb dX7_where_7 rfl (lv_at hl 2 rfl) ?_
      refine va_get (D := (dC, dI)) (ci := 6) (v := .int (nI n)) (C := RX7) (T := TX7) (N := 4) hx hb hts inX7 hown hK hP 0 rfl rfl 2 (Nat.le_of_ble_eq_true rfl) (hts _ mw_175) (fun _ h9 => h9) rfl dX7_where_8 ?_
      have b9_2 : i < 2147483648 := by omega
      have b9_3 : n < 2147483648 := by omega
      refine lv_icmp_ge (tgt := 272) hx hb dX7_where_11 rfl (fun c_1 => ?_) (fun c_1 => ?_)
      · have c_1 : ((n : Nat) : Int) ≤ ((i : Nat) : Int) := zc_le (nI_toInt b9_3) (nI_toInt b9_2) c_1
        refine lv_iload_n hx hb dX7_where_272 rfl (lv_at hl 1 rfl) ?_
        refine lv_if_eq (tgt := 280) hx hb dX7_where_273 rfl (fun c_4 => ?_) (fun c_4 => ?_)
        · have c_4 : ¬ (par2 (eTg n X Y px.toInt py.toInt) i) := zp_0 c_4
          refine lv_iconst (v := 0) hx hb dX7_where_280 rfl ?_
          obtain ⟨hP9, hD9⟩ := zu_sub (wc := [_, _, _]) hP hD [true, true, true] rfl rfl
          rw [hQ9]
          exact W.iret (v := 0) hx hb hr (fun t ht hW => ⟨⟨congrArg (fun z => Outcome.returned (some (Value.int z))) (show (0 : Int32) = whr n X Y px.toInt py.toInt from by obtain rfl : i = n := (by omega); rw [whr_n (fun ⟨k, hk, h⟩ => hno k hk h)]; first | exact (zp_t (by first | with_reducible assumption | assumption)).symm | exact (zp_f (by first | with_reducible assumption | assumption)).symm), by rw [ht]; exact hP9, hD9⟩, hS.F ht⟩) hS.2.2 dX7_where_281
        · have c_4 : par2 (eTg n X Y px.toInt py.toInt) i := zp_1 c_4
          refine lv_iconst (v := 1) hx hb dX7_where_276 rfl ?_
          refine lv_goto (tgt := 281) hx hb dX7_where_277 rfl ?_
          obtain ⟨hP9, hD9⟩ := zu_sub (wc := [_, _, _]) hP hD [true, true, true] rfl rfl
          rw [hQ9]
          exact W.iret (v := 1) hx hb hr (fun t ht hW => ⟨⟨congrArg (fun z => Outcome.returned (some (Value.int z))) (show (1 : Int32) = whr n X Y px.toInt py.toInt from by obtain rfl : i = n := (by omega); rw [whr_n (fun ⟨k, hk, h⟩ => hno k hk h)]; first | exact (zp_t (by first | with_reducible assumption | assumption)).symm | exact (zp_f (by first | with_reducible assumption | assumption)).symm), by rw [ht]; exact hP9, hD9⟩, hS.F ht⟩) hS.2.2 dX7_where_281
      · have c_1 : ((i : Nat) : Int) < ((n : Nat) : Int) := zc_nle (nI_toInt b9_3) (nI_toInt b9_2) c_1
        refine lv_iload hx hb dX7_where_14 (lv_at hl 0 rfl) ?_
        refine lv_iconst (v := 1) hx hb dX7_where_16 rfl ?_
        refine lv_iadd hx hb dX7_where_17 ?_
        refine zz_i (v := nI (i + 1)) (nI_add i 1) ?_
        refine lv_aload_n hx hb dX7_where_18 rfl (lv_at hl 2 rfl) ?_
        refine va_get (D := (dC, dI)) (ci := 6) (v := .int (nI n)) (C := RX7) (T := TX7) (N := 4) hx hb hts inX7 hown hK hP 0 rfl rfl 2 (Nat.le_of_ble_eq_true rfl) (hts _ mw_175) (fun _ h9 => h9) rfl dX7_where_19 ?_
        have hj_5 : W p l e ({ frames := 0, cells := 0, slots := 0, locals := 0 } : Room) s m ([.ref r, .int px, .int py] : List Value).toArray below meth c H locs 0 0 Q9 (F0 m 33 ls [.int (nI (nxt n i))]) := by
          have hnx := nxt_lt (n := n) (i := i) (by omega)
          refine lv_istore (lv' := [(5, .int (nI (nxt n i))), (4, .int (nI i)), (3, .int (pI (par2 (eTg n X Y px.toInt py.toInt) i))), (0, .ref r), (1, .int px), (2, .int py)]) hx hb dX7_where_33 hl (Nat.le_of_ble_eq_true rfl) rfl (fun ls hl => ?_)
          have hj_6 : (¬ ((py.toInt < (Y i).toInt ∧ py.toInt < (Y (nxt n i)).toInt) ∨ ((Y i).toInt < py.toInt ∧ (Y (nxt n i)).toInt < py.toInt) ∨ ((X i).toInt < px.toInt ∧ (X (nxt n i)).toInt < px.toInt))) → W p l e ({ frames := 0, cells := 0, slots := 0, locals := 0 } : Room) s m ([.ref r, .int px, .int py] : List Value).toArray below meth c H locs 0 0 Q9 (F0 m 104 ls []) := by
            intro hsk
            refine lv_aload_n hx hb dX7_where_104 rfl (lv_at hl 3 rfl) ?_
            refine va_get (D := (dC, dI)) (ci := 6) (v := .ref rx) (C := RX7) (T := TX7) (N := 4) hx hb hts inX7 hown hK hP 0 rfl rfl 0 (Nat.le_of_ble_eq_true rfl) (hts _ mw_161) (fun _ h9 => h9) rfl dX7_where_105 ?_
            refine lv_iload hx hb dX7_where_108 (lv_at hl 0 rfl) ?_
            have b9_7 : nxt n i < cap := by omega
            have b9_8 : cap < 2147483648 := by omega
            refine z_iald hx hb hK hP 1 0 rfl rfl (e := nxt n i) rfl b9_7 b9_8 dX7_where_110 ?_
            refine lv_aload_n hx hb dX7_where_111 rfl (lv_at hl 3 rfl) ?_
            refine va_get (D := (dC, dI)) (ci := 6) (v := .ref rx) (C := RX7) (T := TX7) (N := 4) hx hb hts inX7 hown hK hP 0 rfl rfl 0 (Nat.le_of_ble_eq_true rfl) (hts _ mw_161) (fun _ h9 => h9) rfl dX7_where_112 ?_
            refine lv_iload hx hb dX7_where_115 (lv_at hl 1 rfl) ?_
            have b9_9 : i < cap := by omega
            refine z_iald hx hb hK hP 1 0 rfl rfl (e := i) rfl b9_9 b9_8 dX7_where_117 ?_
            refine lv_isub hx hb dX7_where_118 ?_
            refine lv_iload_n hx hb dX7_where_119 rfl (lv_at hl 5 rfl) ?_
            refine lv_aload_n hx hb dX7_where_120 rfl (lv_at hl 3 rfl) ?_
            refine va_get (D := (dC, dI)) (ci := 6) (v := .ref ry) (C := RX7) (T := TX7) (N := 4) hx hb hts inX7 hown hK hP 0 rfl rfl 1 (Nat.le_of_ble_eq_true rfl) (hts _ mw_168) (fun _ h9 => h9) rfl dX7_where_121 ?_
            refine lv_iload hx hb dX7_where_124 (lv_at hl 1 rfl) ?_
            refine z_iald hx hb hK hP 2 0 rfl rfl (e := i) rfl b9_9 b9_8 dX7_where_126 ?_
            refine lv_isub hx hb dX7_where_127 ?_
            refine lv_imul hx hb dX7_where_128 ?_
            refine lv_aload_n hx hb dX7_where_129 rfl (lv_at hl 3 rfl) ?_
            refine va_get (D := (dC, dI)) (ci := 6) (v := .ref ry) (C := RX7) (T := TX7) (N := 4) hx hb hts inX7 hown hK hP 0 rfl rfl 1 (Nat.le_of_ble_eq_true rfl) (hts _ mw_168) (fun _ h9 => h9) rfl dX7_where_130 ?_
            refine lv_iload hx hb dX7_where_133 (lv_at hl 0 rfl) ?_
            refine z_iald hx hb hK hP 2 0 rfl rfl (e := nxt n i) rfl b9_7 b9_8 dX7_where_135 ?_
            refine lv_aload_n hx hb dX7_where_136 rfl (lv_at hl 3 rfl) ?_
            refine va_get (D := (dC, dI)) (ci := 6) (v := .ref ry) (C := RX7) (T := TX7) (N := 4) hx hb hts inX7 hown hK hP 0 rfl rfl 1 (Nat.le_of_ble_eq_true rfl) (hts _ mw_168) (fun _ h9 => h9) rfl dX7_where_137 ?_
            refine lv_iload hx hb dX7_where_140 (lv_at hl 1 rfl) ?_
            refine z_iald hx hb hK hP 2 0 rfl rfl (e := i) rfl b9_9 b9_8 dX7_where_142 ?_
            refine lv_isub hx hb dX7_where_143 ?_
            refine lv_iload_n hx hb dX7_where_144 rfl (lv_at hl 4 rfl) ?_
            refine lv_aload_n hx hb dX7_where_145 rfl (lv_at hl 3 rfl) ?_
            refine va_get (D := (dC, dI)) (ci := 6) (v := .ref rx) (C := RX7) (T := TX7) (N := 4) hx hb hts inX7 hown hK hP 0 rfl rfl 0 (Nat.le_of_ble_eq_true rfl) (hts _ mw_161) (fun _ h9 => h9) rfl dX7_where_146 ?_
            refine lv_iload hx hb dX7_where_149 (lv_at hl 1 rfl) ?_
            refine z_iald hx hb hK hP 1 0 rfl rfl (e := i) rfl b9_9 b9_8 dX7_where_151 ?_
            refine lv_isub hx hb dX7_where_152 ?_
            refine lv_imul hx hb dX7_where_153 ?_
            refine lv_isub hx hb dX7_where_154 ?_
            refine zz_i (v := iI (eCr n X Y i px.toInt py.toInt)) (crI (hp i (by omega)).1 (hp i (by omega)).2 (hp _ hnx).1 (hp _ hnx).2 hpx hpy) ?_
            have hB1 := crBp (hp i (by omega)).1 (hp i (by omega)).2 (hp _ hnx).1 (hp _ hnx).2 hpx hpy
            have hB1 : -2000000 ≤ eCr n X Y i px.toInt py.toInt ∧ eCr n X Y i px.toInt py.toInt ≤ 2000000 := hB1
            refine lv_istore (lv' := [(6, .int (iI (eCr n X Y i px.toInt py.toInt))), (5, .int (nI (nxt n i))), (4, .int (nI i)), (3, .int (pI (par2 (eTg n X Y px.toInt py.toInt) i))), (0, .ref r), (1, .int px), (2, .int py)]) hx hb dX7_where_155 hl (Nat.le_of_ble_eq_true rfl) rfl (fun ls hl => ?_)
            have hj_10 : (¬ (eCr n X Y i px.toInt py.toInt = 0 ∧ ((X i).toInt ≤ px.toInt ∨ (X (nxt n i)).toInt ≤ px.toInt))) → W p l e ({ frames := 0, cells := 0, slots := 0, locals := 0 } : Room) s m ([.ref r, .int px, .int py] : List Value).toArray below meth c H locs 0 0 Q9 (F0 m 186 ls []) := by
              intro h186
              have hne : (py.toInt < (Y i).toInt ↔ ¬ py.toInt < (Y (nxt n i)).toInt) → ¬ eCr n X Y i px.toInt py.toInt = 0 := fun h1 h0 => h186 ⟨h0, (by have h9 := on_of_mid h1 h0; unfold onS at h9; omega)⟩
              refine lv_aload_n hx hb dX7_where_186 rfl (lv_at hl 4 rfl) ?_
              refine va_get (D := (dC, dI)) (ci := 6) (v := .ref ry) (C := RX7) (T := TX7) (N := 4) hx hb hts inX7 hown hK hP 0 rfl rfl 1 (Nat.le_of_ble_eq_true rfl) (hts _ mw_168) (fun _ h9 => h9) rfl dX7_where_187 ?_
              refine lv_iload hx hb dX7_where_190 (lv_at hl 2 rfl) ?_
              refine z_iald hx hb hK hP 2 0 rfl rfl (e := i) rfl b9_9 b9_8 dX7_where_192 ?_
              refine lv_iload_n hx hb dX7_where_193 rfl (lv_at hl 6 rfl) ?_
              refine lv_icmp_le (tgt := 201) hx hb dX7_where_194 rfl (fun c_11 => ?_) (fun c_11 => ?_)
              · have c_11 : (Y i).toInt ≤ py.toInt := zc_le rfl rfl c_11
                refine lv_iconst (v := 0) hx hb dX7_where_201 rfl ?_
                refine lv_aload_n hx hb dX7_where_202 rfl (lv_at hl 4 rfl) ?_
                refine va_get (D := (dC, dI)) (ci := 6) (v := .ref ry) (C := RX7) (T := TX7) (N := 4) hx hb hts inX7 hown hK hP 0 rfl rfl 1 (Nat.le_of_ble_eq_true rfl) (hts _ mw_168) (fun _ h9 => h9) rfl dX7_where_203 ?_
                refine lv_iload hx hb dX7_where_206 (lv_at hl 1 rfl) ?_
                refine z_iald hx hb hK hP 2 0 rfl rfl (e := nxt n i) rfl b9_7 b9_8 dX7_where_208 ?_
                refine lv_iload_n hx hb dX7_where_209 rfl (lv_at hl 6 rfl) ?_
                refine lv_icmp_le (tgt := 217) hx hb dX7_where_210 rfl (fun c_12 => ?_) (fun c_12 => ?_)
                · have c_12 : (Y (nxt n i)).toInt ≤ py.toInt := zc_le rfl rfl c_12
                  refine lv_iconst (v := 0) hx hb dX7_where_217 rfl ?_
                  refine lv_icmp_eq (tgt := 266) hx hb dX7_where_218 rfl (fun c_13 => ?_) (fun c_13 => ?_)
                  · refine lv_iinc (v := nI (i + 1)) (lv' := [(4, .int (nI (i + 1))), (6, .int (iI (eCr n X Y i px.toInt py.toInt))), (5, .int (nI (nxt n i))), (3, .int (pI (par2 (eTg n X Y px.toInt py.toInt) i))), (0, .ref r), (1, .int px), (2, .int py)]) hx hb dX7_where_266 hl (k := 2) rfl (nI_add i 1) (Nat.le_of_ble_eq_true rfl) rfl (fun ls hl => ?_)
                    refine lv_goto (tgt := 5) hx hb dX7_where_269 rfl ?_
                    have hl9 := lv_sub hl [0, 3, 4, 5, 6] rfl
                    have e9_3 : pI (par2 (eTg n X Y px.toInt py.toInt) (i + 1)) = (pI (par2 (eTg n X Y px.toInt py.toInt) i) : Int32) := by first | exact zp_iff (par2_n (sk_tg (by omega)).1) | exact zp_iff (par2_n (by unfold eTg; omega)) | exact zp_t ((par2_y (P := (eTg n X Y px.toInt py.toInt)) (i := i) (by have h9 := hne (by omega); unfold eTg; omega)).mpr (by first | with_reducible assumption | assumption)) | exact zp_f (fun q => (par2_y (P := (eTg n X Y px.toInt py.toInt)) (i := i) (by have h9 := hne (by omega); unfold eTg; omega)).mp q (by first | with_reducible assumption | assumption))
                    have hl9 : lv_has ls 7 [(4, .int (nI (i + 1))), (3, .int (pI (par2 (eTg n X Y px.toInt py.toInt) (i + 1)))), (0, .ref r), (1, .int px), (2, .int py)] := by rw [e9_3]; exact hl9
                    exact ih_5 (i + 1) H locs ls (by first | with_reducible assumption | omega) (by first | with_reducible assumption | omega) (by intro k hk; rcases Nat.lt_or_ge k i with h | h; exact hno k h; have e9 : k = i := (by first | with_reducible assumption | omega); subst e9; first | exact (sk_tg (by first | with_reducible assumption | omega)).2 | (unfold eOn onS; unfold eCr at *; omega)) hP hD hS hl9
                  · exact absurd (by decide) c_13
                · have c_12 : py.toInt < (Y (nxt n i)).toInt := zc_nle rfl rfl c_12
                  refine lv_iconst (v := 1) hx hb dX7_where_213 rfl ?_
                  refine lv_goto (tgt := 218) hx hb dX7_where_214 rfl ?_
                  refine lv_icmp_eq (tgt := 266) hx hb dX7_where_218 rfl (fun c_14 => ?_) (fun c_14 => ?_)
                  · exact absurd c_14 (by decide)
                  · refine lv_iload hx hb dX7_where_221 (lv_at hl 0 rfl) ?_
                    refine lv_if_le (tgt := 230) hx hb dX7_where_223 rfl (fun c_15 => ?_) (fun c_15 => ?_)
                    · have c_15 : (eCr n X Y i px.toInt py.toInt) ≤ 0 := zc_le (iI_toInt (by omega)) rfl c_15
                      refine lv_iconst (v := 0) hx hb dX7_where_230 rfl ?_
                      refine lv_aload_n hx hb dX7_where_231 rfl (lv_at hl 4 rfl) ?_
                      refine va_get (D := (dC, dI)) (ci := 6) (v := .ref ry) (C := RX7) (T := TX7) (N := 4) hx hb hts inX7 hown hK hP 0 rfl rfl 1 (Nat.le_of_ble_eq_true rfl) (hts _ mw_168) (fun _ h9 => h9) rfl dX7_where_232 ?_
                      refine lv_iload hx hb dX7_where_235 (lv_at hl 1 rfl) ?_
                      have b9_16 : nxt n i < cap := by omega
                      refine z_iald hx hb hK hP 2 0 rfl rfl (e := nxt n i) rfl b9_16 b9_8 dX7_where_237 ?_
                      refine lv_aload_n hx hb dX7_where_238 rfl (lv_at hl 4 rfl) ?_
                      refine va_get (D := (dC, dI)) (ci := 6) (v := .ref ry) (C := RX7) (T := TX7) (N := 4) hx hb hts inX7 hown hK hP 0 rfl rfl 1 (Nat.le_of_ble_eq_true rfl) (hts _ mw_168) (fun _ h9 => h9) rfl dX7_where_239 ?_
                      refine lv_iload hx hb dX7_where_242 (lv_at hl 2 rfl) ?_
                      have b9_17 : i < cap := by omega
                      refine z_iald hx hb hK hP 2 0 rfl rfl (e := i) rfl b9_17 b9_8 dX7_where_244 ?_
                      refine lv_icmp_le (tgt := 252) hx hb dX7_where_245 rfl (fun c_18 => ?_) (fun c_18 => ?_)
                      · have c_18 : (Y (nxt n i)).toInt ≤ (Y i).toInt := zc_le rfl rfl c_18
                        refine lv_iconst (v := 0) hx hb dX7_where_252 rfl ?_
                        refine lv_icmp_ne (tgt := 266) hx hb dX7_where_253 rfl (fun c_19 => ?_) (fun c_19 => ?_)
                        · exact absurd (by decide) c_19
                        · refine lv_iload_n hx hb dX7_where_256 rfl (lv_at hl 3 rfl) ?_
                          refine lv_if_ne (tgt := 264) hx hb dX7_where_257 rfl (fun c_20 => ?_) (fun c_20 => ?_)
                          · have c_20 : par2 (eTg n X Y px.toInt py.toInt) i := zp_1 c_20
                            refine lv_iconst (v := 0) hx hb dX7_where_264 rfl ?_
                            refine lv_istore_n (lv' := [(3, .int 0), (6, .int (iI (eCr n X Y i px.toInt py.toInt))), (5, .int (nI (nxt n i))), (4, .int (nI i)), (0, .ref r), (1, .int px), (2, .int py)]) hx hb dX7_where_265 rfl hl (Nat.le_of_ble_eq_true rfl) rfl (fun ls hl => ?_)
                            refine lv_iinc (v := nI (i + 1)) (lv' := [(4, .int (nI (i + 1))), (3, .int 0), (6, .int (iI (eCr n X Y i px.toInt py.toInt))), (5, .int (nI (nxt n i))), (0, .ref r), (1, .int px), (2, .int py)]) hx hb dX7_where_266 hl (k := 3) rfl (nI_add i 1) (Nat.le_of_ble_eq_true rfl) rfl (fun ls hl => ?_)
                            refine lv_goto (tgt := 5) hx hb dX7_where_269 rfl ?_
                            have hl9 := lv_sub hl [0, 1, 4, 5, 6] rfl
                            have e9_3 : pI (par2 (eTg n X Y px.toInt py.toInt) (i + 1)) = (0 : Int32) := by first | exact zp_iff (par2_n (sk_tg (by omega)).1) | exact zp_iff (par2_n (by unfold eTg; omega)) | exact zp_t ((par2_y (P := (eTg n X Y px.toInt py.toInt)) (i := i) (by have h9 := hne (by omega); unfold eTg; omega)).mpr (by first | with_reducible assumption | assumption)) | exact zp_f (fun q => (par2_y (P := (eTg n X Y px.toInt py.toInt)) (i := i) (by have h9 := hne (by omega); unfold eTg; omega)).mp q (by first | with_reducible assumption | assumption))
                            have hl9 : lv_has ls 7 [(4, .int (nI (i + 1))), (3, .int (pI (par2 (eTg n X Y px.toInt py.toInt) (i + 1)))), (0, .ref r), (1, .int px), (2, .int py)] := by rw [e9_3]; exact hl9
                            exact ih_5 (i + 1) H locs ls (by first | with_reducible assumption | omega) (by first | with_reducible assumption | omega) (by intro k hk; rcases Nat.lt_or_ge k i with h | h; exact hno k h; have e9 : k = i := (by first | with_reducible assumption | omega); subst e9; first | exact (sk_tg (by first | with_reducible assumption | omega)).2 | (unfold eOn onS; unfold eCr at *; omega)) hP hD hS hl9
                          · have c_20 : ¬ (par2 (eTg n X Y px.toInt py.toInt) i) := zp_0 c_20
                            refine lv_iconst (v := 1) hx hb dX7_where_260 rfl ?_
                            refine lv_goto (tgt := 265) hx hb dX7_where_261 rfl ?_
                            refine lv_istore_n (lv' := [(3, .int 1), (6, .int (iI (eCr n X Y i px.toInt py.toInt))), (5, .int (nI (nxt n i))), (4, .int (nI i)), (0, .ref r), (1, .int px), (2, .int py)]) hx hb dX7_where_265 rfl hl (Nat.le_of_ble_eq_true rfl) rfl (fun ls hl => ?_)
                            refine lv_iinc (v := nI (i + 1)) (lv' := [(4, .int (nI (i + 1))), (3, .int 1), (6, .int (iI (eCr n X Y i px.toInt py.toInt))), (5, .int (nI (nxt n i))), (0, .ref r), (1, .int px), (2, .int py)]) hx hb dX7_where_266 hl (k := 3) rfl (nI_add i 1) (Nat.le_of_ble_eq_true rfl) rfl (fun ls hl => ?_)
                            refine lv_goto (tgt := 5) hx hb dX7_where_269 rfl ?_
                            have hl9 := lv_sub hl [0, 1, 4, 5, 6] rfl
                            have e9_3 : pI (par2 (eTg n X Y px.toInt py.toInt) (i + 1)) = (1 : Int32) := by first | exact zp_iff (par2_n (sk_tg (by omega)).1) | exact zp_iff (par2_n (by unfold eTg; omega)) | exact zp_t ((par2_y (P := (eTg n X Y px.toInt py.toInt)) (i := i) (by have h9 := hne (by omega); unfold eTg; omega)).mpr (by first | with_reducible assumption | assumption)) | exact zp_f (fun q => (par2_y (P := (eTg n X Y px.toInt py.toInt)) (i := i) (by have h9 := hne (by omega); unfold eTg; omega)).mp q (by first | with_reducible assumption | assumption))
                            have hl9 : lv_has ls 7 [(4, .int (nI (i + 1))), (3, .int (pI (par2 (eTg n X Y px.toInt py.toInt) (i + 1)))), (0, .ref r), (1, .int px), (2, .int py)] := by rw [e9_3]; exact hl9
                            exact ih_5 (i + 1) H locs ls (by first | with_reducible assumption | omega) (by first | with_reducible assumption | omega) (by intro k hk; rcases Nat.lt_or_ge k i with h | h; exact hno k h; have e9 : k = i := (by first | with_reducible assumption | omega); subst e9; first | exact (sk_tg (by first | with_reducible assumption | omega)).2 | (unfold eOn onS; unfold eCr at *; omega)) hP hD hS hl9
                      · have c_18 : (Y i).toInt < (Y (nxt n i)).toInt := zc_nle rfl rfl c_18
                        refine lv_iconst (v := 1) hx hb dX7_where_248 rfl ?_
                        refine lv_goto (tgt := 253) hx hb dX7_where_249 rfl ?_
                        refine lv_icmp_ne (tgt := 266) hx hb dX7_where_253 rfl (fun c_21 => ?_) (fun c_21 => ?_)
                        · refine lv_iinc (v := nI (i + 1)) (lv' := [(4, .int (nI (i + 1))), (6, .int (iI (eCr n X Y i px.toInt py.toInt))), (5, .int (nI (nxt n i))), (3, .int (pI (par2 (eTg n X Y px.toInt py.toInt) i))), (0, .ref r), (1, .int px), (2, .int py)]) hx hb dX7_where_266 hl (k := 2) rfl (nI_add i 1) (Nat.le_of_ble_eq_true rfl) rfl (fun ls hl => ?_)
                          refine lv_goto (tgt := 5) hx hb dX7_where_269 rfl ?_
                          have hl9 := lv_sub hl [0, 3, 4, 5, 6] rfl
                          have e9_3 : pI (par2 (eTg n X Y px.toInt py.toInt) (i + 1)) = (pI (par2 (eTg n X Y px.toInt py.toInt) i) : Int32) := by first | exact zp_iff (par2_n (sk_tg (by omega)).1) | exact zp_iff (par2_n (by unfold eTg; omega)) | exact zp_t ((par2_y (P := (eTg n X Y px.toInt py.toInt)) (i := i) (by have h9 := hne (by omega); unfold eTg; omega)).mpr (by first | with_reducible assumption | assumption)) | exact zp_f (fun q => (par2_y (P := (eTg n X Y px.toInt py.toInt)) (i := i) (by have h9 := hne (by omega); unfold eTg; omega)).mp q (by first | with_reducible assumption | assumption))
                          have hl9 : lv_has ls 7 [(4, .int (nI (i + 1))), (3, .int (pI (par2 (eTg n X Y px.toInt py.toInt) (i + 1)))), (0, .ref r), (1, .int px), (2, .int py)] := by rw [e9_3]; exact hl9
                          exact ih_5 (i + 1) H locs ls (by first | with_reducible assumption | omega) (by first | with_reducible assumption | omega) (by intro k hk; rcases Nat.lt_or_ge k i with h | h; exact hno k h; have e9 : k = i := (by first | with_reducible assumption | omega); subst e9; first | exact (sk_tg (by first | with_reducible assumption | omega)).2 | (unfold eOn onS; unfold eCr at *; omega)) hP hD hS hl9
                        · exact absurd c_21 (by decide)
                    · have c_15 : 0 < (eCr n X Y i px.toInt py.toInt) := zc_nle (iI_toInt (by omega)) rfl c_15
                      refine lv_iconst (v := 1) hx hb dX7_where_226 rfl ?_
                      refine lv_goto (tgt := 231) hx hb dX7_where_227 rfl ?_
                      refine lv_aload_n hx hb dX7_where_231 rfl (lv_at hl 4 rfl) ?_
                      refine va_get (D := (dC, dI)) (ci := 6) (v := .ref ry) (C := RX7) (T := TX7) (N := 4) hx hb hts inX7 hown hK hP 0 rfl rfl 1 (Nat.le_of_ble_eq_true rfl) (hts _ mw_168) (fun _ h9 => h9) rfl dX7_where_232 ?_
                      refine lv_iload hx hb dX7_where_235 (lv_at hl 1 rfl) ?_
                      have b9_22 : nxt n i < cap := by omega
                      refine z_iald hx hb hK hP 2 0 rfl rfl (e := nxt n i) rfl b9_22 b9_8 dX7_where_237 ?_
                      refine lv_aload_n hx hb dX7_where_238 rfl (lv_at hl 4 rfl) ?_
                      refine va_get (D := (dC, dI)) (ci := 6) (v := .ref ry) (C := RX7) (T := TX7) (N := 4) hx hb hts inX7 hown hK hP 0 rfl rfl 1 (Nat.le_of_ble_eq_true rfl) (hts _ mw_168) (fun _ h9 => h9) rfl dX7_where_239 ?_
                      refine lv_iload hx hb dX7_where_242 (lv_at hl 2 rfl) ?_
                      have b9_23 : i < cap := by omega
                      refine z_iald hx hb hK hP 2 0 rfl rfl (e := i) rfl b9_23 b9_8 dX7_where_244 ?_
                      refine lv_icmp_le (tgt := 252) hx hb dX7_where_245 rfl (fun c_24 => ?_) (fun c_24 => ?_)
                      · have c_24 : (Y (nxt n i)).toInt ≤ (Y i).toInt := zc_le rfl rfl c_24
                        refine lv_iconst (v := 0) hx hb dX7_where_252 rfl ?_
                        refine lv_icmp_ne (tgt := 266) hx hb dX7_where_253 rfl (fun c_25 => ?_) (fun c_25 => ?_)
                        · refine lv_iinc (v := nI (i + 1)) (lv' := [(4, .int (nI (i + 1))), (6, .int (iI (eCr n X Y i px.toInt py.toInt))), (5, .int (nI (nxt n i))), (3, .int (pI (par2 (eTg n X Y px.toInt py.toInt) i))), (0, .ref r), (1, .int px), (2, .int py)]) hx hb dX7_where_266 hl (k := 2) rfl (nI_add i 1) (Nat.le_of_ble_eq_true rfl) rfl (fun ls hl => ?_)
                          refine lv_goto (tgt := 5) hx hb dX7_where_269 rfl ?_
                          have hl9 := lv_sub hl [0, 3, 4, 5, 6] rfl
                          have e9_3 : pI (par2 (eTg n X Y px.toInt py.toInt) (i + 1)) = (pI (par2 (eTg n X Y px.toInt py.toInt) i) : Int32) := by first | exact zp_iff (par2_n (sk_tg (by omega)).1) | exact zp_iff (par2_n (by unfold eTg; omega)) | exact zp_t ((par2_y (P := (eTg n X Y px.toInt py.toInt)) (i := i) (by have h9 := hne (by omega); unfold eTg; omega)).mpr (by first | with_reducible assumption | assumption)) | exact zp_f (fun q => (par2_y (P := (eTg n X Y px.toInt py.toInt)) (i := i) (by have h9 := hne (by omega); unfold eTg; omega)).mp q (by first | with_reducible assumption | assumption))
                          have hl9 : lv_has ls 7 [(4, .int (nI (i + 1))), (3, .int (pI (par2 (eTg n X Y px.toInt py.toInt) (i + 1)))), (0, .ref r), (1, .int px), (2, .int py)] := by rw [e9_3]; exact hl9
                          exact ih_5 (i + 1) H locs ls (by first | with_reducible assumption | omega) (by first | with_reducible assumption | omega) (by intro k hk; rcases Nat.lt_or_ge k i with h | h; exact hno k h; have e9 : k = i := (by first | with_reducible assumption | omega); subst e9; first | exact (sk_tg (by first | with_reducible assumption | omega)).2 | (unfold eOn onS; unfold eCr at *; omega)) hP hD hS hl9
                        · exact absurd c_25 (by decide)
                      · have c_24 : (Y i).toInt < (Y (nxt n i)).toInt := zc_nle rfl rfl c_24
                        refine lv_iconst (v := 1) hx hb dX7_where_248 rfl ?_
                        refine lv_goto (tgt := 253) hx hb dX7_where_249 rfl ?_
                        refine lv_icmp_ne (tgt := 266) hx hb dX7_where_253 rfl (fun c_26 => ?_) (fun c_26 => ?_)
                        · exact absurd (by decide) c_26
                        · refine lv_iload_n hx hb dX7_where_256 rfl (lv_at hl 3 rfl) ?_
                          refine lv_if_ne (tgt := 264) hx hb dX7_where_257 rfl (fun c_27 => ?_) (fun c_27 => ?_)
                          · have c_27 : par2 (eTg n X Y px.toInt py.toInt) i := zp_1 c_27
                            refine lv_iconst (v := 0) hx hb dX7_where_264 rfl ?_
                            refine lv_istore_n (lv' := [(3, .int 0), (6, .int (iI (eCr n X Y i px.toInt py.toInt))), (5, .int (nI (nxt n i))), (4, .int (nI i)), (0, .ref r), (1, .int px), (2, .int py)]) hx hb dX7_where_265 rfl hl (Nat.le_of_ble_eq_true rfl) rfl (fun ls hl => ?_)
                            refine lv_iinc (v := nI (i + 1)) (lv' := [(4, .int (nI (i + 1))), (3, .int 0), (6, .int (iI (eCr n X Y i px.toInt py.toInt))), (5, .int (nI (nxt n i))), (0, .ref r), (1, .int px), (2, .int py)]) hx hb dX7_where_266 hl (k := 3) rfl (nI_add i 1) (Nat.le_of_ble_eq_true rfl) rfl (fun ls hl => ?_)
                            refine lv_goto (tgt := 5) hx hb dX7_where_269 rfl ?_
                            have hl9 := lv_sub hl [0, 1, 4, 5, 6] rfl
                            have e9_3 : pI (par2 (eTg n X Y px.toInt py.toInt) (i + 1)) = (0 : Int32) := by first | exact zp_iff (par2_n (sk_tg (by omega)).1) | exact zp_iff (par2_n (by unfold eTg; omega)) | exact zp_t ((par2_y (P := (eTg n X Y px.toInt py.toInt)) (i := i) (by have h9 := hne (by omega); unfold eTg; omega)).mpr (by first | with_reducible assumption | assumption)) | exact zp_f (fun q => (par2_y (P := (eTg n X Y px.toInt py.toInt)) (i := i) (by have h9 := hne (by omega); unfold eTg; omega)).mp q (by first | with_reducible assumption | assumption))
                            have hl9 : lv_has ls 7 [(4, .int (nI (i + 1))), (3, .int (pI (par2 (eTg n X Y px.toInt py.toInt) (i + 1)))), (0, .ref r), (1, .int px), (2, .int py)] := by rw [e9_3]; exact hl9
                            exact ih_5 (i + 1) H locs ls (by first | with_reducible assumption | omega) (by first | with_reducible assumption | omega) (by intro k hk; rcases Nat.lt_or_ge k i with h | h; exact hno k h; have e9 : k = i := (by first | with_reducible assumption | omega); subst e9; first | exact (sk_tg (by first | with_reducible assumption | omega)).2 | (unfold eOn onS; unfold eCr at *; omega)) hP hD hS hl9
                          · have c_27 : ¬ (par2 (eTg n X Y px.toInt py.toInt) i) := zp_0 c_27
                            refine lv_iconst (v := 1) hx hb dX7_where_260 rfl ?_
                            refine lv_goto (tgt := 265) hx hb dX7_where_261 rfl ?_
                            refine lv_istore_n (lv' := [(3, .int 1), (6, .int (iI (eCr n X Y i px.toInt py.toInt))), (5, .int (nI (nxt n i))), (4, .int (nI i)), (0, .ref r), (1, .int px), (2, .int py)]) hx hb dX7_where_265 rfl hl (Nat.le_of_ble_eq_true rfl) rfl (fun ls hl => ?_)
                            refine lv_iinc (v := nI (i + 1)) (lv' := [(4, .int (nI (i + 1))), (3, .int 1), (6, .int (iI (eCr n X Y i px.toInt py.toInt))), (5, .int (nI (nxt n i))), (0, .ref r), (1, .int px), (2, .int py)]) hx hb dX7_where_266 hl (k := 3) rfl (nI_add i 1) (Nat.le_of_ble_eq_true rfl) rfl (fun ls hl => ?_)
                            refine lv_goto (tgt := 5) hx hb dX7_where_269 rfl ?_
                            have hl9 := lv_sub hl [0, 1, 4, 5, 6] rfl
                            have e9_3 : pI (par2 (eTg n X Y px.toInt py.toInt) (i + 1)) = (1 : Int32) := by first | exact zp_iff (par2_n (sk_tg (by omega)).1) | exact zp_iff (par2_n (by unfold eTg; omega)) | exact zp_t ((par2_y (P := (eTg n X Y px.toInt py.toInt)) (i := i) (by have h9 := hne (by omega); unfold eTg; omega)).mpr (by first | with_reducible assumption | assumption)) | exact zp_f (fun q => (par2_y (P := (eTg n X Y px.toInt py.toInt)) (i := i) (by have h9 := hne (by omega); unfold eTg; omega)).mp q (by first | with_reducible assumption | assumption))
                            have hl9 : lv_has ls 7 [(4, .int (nI (i + 1))), (3, .int (pI (par2 (eTg n X Y px.toInt py.toInt) (i + 1)))), (0, .ref r), (1, .int px), (2, .int py)] := by rw [e9_3]; exact hl9
                            exact ih_5 (i + 1) H locs ls (by first | with_reducible assumption | omega) (by first | with_reducible assumption | omega) (by intro k hk; rcases Nat.lt_or_ge k i with h | h; exact hno k h; have e9 : k = i := (by first | with_reducible assumption | omega); subst e9; first | exact (sk_tg (by first | with_reducible assumption | omega)).2 | (unfold eOn onS; unfold eCr at *; omega)) hP hD hS hl9
              · have c_11 : py.toInt < (Y i).toInt := zc_nle rfl rfl c_11
                refine lv_iconst (v := 1) hx hb dX7_where_197 rfl ?_
                refine lv_goto (tgt := 202) hx hb dX7_where_198 rfl ?_
                refine lv_aload_n hx hb dX7_where_202 rfl (lv_at hl 4 rfl) ?_
                refine va_get (D := (dC, dI)) (ci := 6) (v := .ref ry) (C := RX7) (T := TX7) (N := 4) hx hb hts inX7 hown hK hP 0 rfl rfl 1 (Nat.le_of_ble_eq_true rfl) (hts _ mw_168) (fun _ h9 => h9) rfl dX7_where_203 ?_
                refine lv_iload hx hb dX7_where_206 (lv_at hl 1 rfl) ?_
                have b9_28 : nxt n i < cap := by omega
                refine z_iald hx hb hK hP 2 0 rfl rfl (e := nxt n i) rfl b9_28 b9_8 dX7_where_208 ?_
                refine lv_iload_n hx hb dX7_where_209 rfl (lv_at hl 6 rfl) ?_
                refine lv_icmp_le (tgt := 217) hx hb dX7_where_210 rfl (fun c_29 => ?_) (fun c_29 => ?_)
                · have c_29 : (Y (nxt n i)).toInt ≤ py.toInt := zc_le rfl rfl c_29
                  refine lv_iconst (v := 0) hx hb dX7_where_217 rfl ?_
                  refine lv_icmp_eq (tgt := 266) hx hb dX7_where_218 rfl (fun c_30 => ?_) (fun c_30 => ?_)
                  · exact absurd c_30 (by decide)
                  · refine lv_iload hx hb dX7_where_221 (lv_at hl 0 rfl) ?_
                    refine lv_if_le (tgt := 230) hx hb dX7_where_223 rfl (fun c_31 => ?_) (fun c_31 => ?_)
                    · have c_31 : (eCr n X Y i px.toInt py.toInt) ≤ 0 := zc_le (iI_toInt (by omega)) rfl c_31
                      refine lv_iconst (v := 0) hx hb dX7_where_230 rfl ?_
                      refine lv_aload_n hx hb dX7_where_231 rfl (lv_at hl 4 rfl) ?_
                      refine va_get (D := (dC, dI)) (ci := 6) (v := .ref ry) (C := RX7) (T := TX7) (N := 4) hx hb hts inX7 hown hK hP 0 rfl rfl 1 (Nat.le_of_ble_eq_true rfl) (hts _ mw_168) (fun _ h9 => h9) rfl dX7_where_232 ?_
                      refine lv_iload hx hb dX7_where_235 (lv_at hl 1 rfl) ?_
                      refine z_iald hx hb hK hP 2 0 rfl rfl (e := nxt n i) rfl b9_28 b9_8 dX7_where_237 ?_
                      refine lv_aload_n hx hb dX7_where_238 rfl (lv_at hl 4 rfl) ?_
                      refine va_get (D := (dC, dI)) (ci := 6) (v := .ref ry) (C := RX7) (T := TX7) (N := 4) hx hb hts inX7 hown hK hP 0 rfl rfl 1 (Nat.le_of_ble_eq_true rfl) (hts _ mw_168) (fun _ h9 => h9) rfl dX7_where_239 ?_
                      refine lv_iload hx hb dX7_where_242 (lv_at hl 2 rfl) ?_
                      have b9_32 : i < cap := by omega
                      refine z_iald hx hb hK hP 2 0 rfl rfl (e := i) rfl b9_32 b9_8 dX7_where_244 ?_
                      refine lv_icmp_le (tgt := 252) hx hb dX7_where_245 rfl (fun c_33 => ?_) (fun c_33 => ?_)
                      · have c_33 : (Y (nxt n i)).toInt ≤ (Y i).toInt := zc_le rfl rfl c_33
                        refine lv_iconst (v := 0) hx hb dX7_where_252 rfl ?_
                        refine lv_icmp_ne (tgt := 266) hx hb dX7_where_253 rfl (fun c_34 => ?_) (fun c_34 => ?_)
                        · exact absurd (by decide) c_34
                        · refine lv_iload_n hx hb dX7_where_256 rfl (lv_at hl 3 rfl) ?_
                          refine lv_if_ne (tgt := 264) hx hb dX7_where_257 rfl (fun c_35 => ?_) (fun c_35 => ?_)
                          · have c_35 : par2 (eTg n X Y px.toInt py.toInt) i := zp_1 c_35
                            refine lv_iconst (v := 0) hx hb dX7_where_264 rfl ?_
                            refine lv_istore_n (lv' := [(3, .int 0), (6, .int (iI (eCr n X Y i px.toInt py.toInt))), (5, .int (nI (nxt n i))), (4, .int (nI i)), (0, .ref r), (1, .int px), (2, .int py)]) hx hb dX7_where_265 rfl hl (Nat.le_of_ble_eq_true rfl) rfl (fun ls hl => ?_)
                            refine lv_iinc (v := nI (i + 1)) (lv' := [(4, .int (nI (i + 1))), (3, .int 0), (6, .int (iI (eCr n X Y i px.toInt py.toInt))), (5, .int (nI (nxt n i))), (0, .ref r), (1, .int px), (2, .int py)]) hx hb dX7_where_266 hl (k := 3) rfl (nI_add i 1) (Nat.le_of_ble_eq_true rfl) rfl (fun ls hl => ?_)
                            refine lv_goto (tgt := 5) hx hb dX7_where_269 rfl ?_
                            have hl9 := lv_sub hl [0, 1, 4, 5, 6] rfl
                            have e9_3 : pI (par2 (eTg n X Y px.toInt py.toInt) (i + 1)) = (0 : Int32) := by first | exact zp_iff (par2_n (sk_tg (by omega)).1) | exact zp_iff (par2_n (by unfold eTg; omega)) | exact zp_t ((par2_y (P := (eTg n X Y px.toInt py.toInt)) (i := i) (by have h9 := hne (by omega); unfold eTg; omega)).mpr (by first | with_reducible assumption | assumption)) | exact zp_f (fun q => (par2_y (P := (eTg n X Y px.toInt py.toInt)) (i := i) (by have h9 := hne (by omega); unfold eTg; omega)).mp q (by first | with_reducible assumption | assumption))
                            have hl9 : lv_has ls 7 [(4, .int (nI (i + 1))), (3, .int (pI (par2 (eTg n X Y px.toInt py.toInt) (i + 1)))), (0, .ref r), (1, .int px), (2, .int py)] := by rw [e9_3]; exact hl9
                            exact ih_5 (i + 1) H locs ls (by first | with_reducible assumption | omega) (by first | with_reducible assumption | omega) (by intro k hk; rcases Nat.lt_or_ge k i with h | h; exact hno k h; have e9 : k = i := (by first | with_reducible assumption | omega); subst e9; first | exact (sk_tg (by first | with_reducible assumption | omega)).2 | (unfold eOn onS; unfold eCr at *; omega)) hP hD hS hl9
                          · have c_35 : ¬ (par2 (eTg n X Y px.toInt py.toInt) i) := zp_0 c_35
                            refine lv_iconst (v := 1) hx hb dX7_where_260 rfl ?_
                            refine lv_goto (tgt := 265) hx hb dX7_where_261 rfl ?_
                            refine lv_istore_n (lv' := [(3, .int 1), (6, .int (iI (eCr n X Y i px.toInt py.toInt))), (5, .int (nI (nxt n i))), (4, .int (nI i)), (0, .ref r), (1, .int px), (2, .int py)]) hx hb dX7_where_265 rfl hl (Nat.le_of_ble_eq_true rfl) rfl (fun ls hl => ?_)
                            refine lv_iinc (v := nI (i + 1)) (lv' := [(4, .int (nI (i + 1))), (3, .int 1), (6, .int (iI (eCr n X Y i px.toInt py.toInt))), (5, .int (nI (nxt n i))), (0, .ref r), (1, .int px), (2, .int py)]) hx hb dX7_where_266 hl (k := 3) rfl (nI_add i 1) (Nat.le_of_ble_eq_true rfl) rfl (fun ls hl => ?_)
                            refine lv_goto (tgt := 5) hx hb dX7_where_269 rfl ?_
                            have hl9 := lv_sub hl [0, 1, 4, 5, 6] rfl
                            have e9_3 : pI (par2 (eTg n X Y px.toInt py.toInt) (i + 1)) = (1 : Int32) := by first | exact zp_iff (par2_n (sk_tg (by omega)).1) | exact zp_iff (par2_n (by unfold eTg; omega)) | exact zp_t ((par2_y (P := (eTg n X Y px.toInt py.toInt)) (i := i) (by have h9 := hne (by omega); unfold eTg; omega)).mpr (by first | with_reducible assumption | assumption)) | exact zp_f (fun q => (par2_y (P := (eTg n X Y px.toInt py.toInt)) (i := i) (by have h9 := hne (by omega); unfold eTg; omega)).mp q (by first | with_reducible assumption | assumption))
                            have hl9 : lv_has ls 7 [(4, .int (nI (i + 1))), (3, .int (pI (par2 (eTg n X Y px.toInt py.toInt) (i + 1)))), (0, .ref r), (1, .int px), (2, .int py)] := by rw [e9_3]; exact hl9
                            exact ih_5 (i + 1) H locs ls (by first | with_reducible assumption | omega) (by first | with_reducible assumption | omega) (by intro k hk; rcases Nat.lt_or_ge k i with h | h; exact hno k h; have e9 : k = i := (by first | with_reducible assumption | omega); subst e9; first | exact (sk_tg (by first | with_reducible assumption | omega)).2 | (unfold eOn onS; unfold eCr at *; omega)) hP hD hS hl9
                      · have c_33 : (Y i).toInt < (Y (nxt n i)).toInt := zc_nle rfl rfl c_33
                        refine lv_iconst (v := 1) hx hb dX7_where_248 rfl ?_
                        refine lv_goto (tgt := 253) hx hb dX7_where_249 rfl ?_
                        refine lv_icmp_ne (tgt := 266) hx hb dX7_where_253 rfl (fun c_36 => ?_) (fun c_36 => ?_)
                        · refine lv_iinc (v := nI (i + 1)) (lv' := [(4, .int (nI (i + 1))), (6, .int (iI (eCr n X Y i px.toInt py.toInt))), (5, .int (nI (nxt n i))), (3, .int (pI (par2 (eTg n X Y px.toInt py.toInt) i))), (0, .ref r), (1, .int px), (2, .int py)]) hx hb dX7_where_266 hl (k := 2) rfl (nI_add i 1) (Nat.le_of_ble_eq_true rfl) rfl (fun ls hl => ?_)
                          refine lv_goto (tgt := 5) hx hb dX7_where_269 rfl ?_
                          have hl9 := lv_sub hl [0, 3, 4, 5, 6] rfl
                          have e9_3 : pI (par2 (eTg n X Y px.toInt py.toInt) (i + 1)) = (pI (par2 (eTg n X Y px.toInt py.toInt) i) : Int32) := by first | exact zp_iff (par2_n (sk_tg (by omega)).1) | exact zp_iff (par2_n (by unfold eTg; omega)) | exact zp_t ((par2_y (P := (eTg n X Y px.toInt py.toInt)) (i := i) (by have h9 := hne (by omega); unfold eTg; omega)).mpr (by first | with_reducible assumption | assumption)) | exact zp_f (fun q => (par2_y (P := (eTg n X Y px.toInt py.toInt)) (i := i) (by have h9 := hne (by omega); unfold eTg; omega)).mp q (by first | with_reducible assumption | assumption))
                          have hl9 : lv_has ls 7 [(4, .int (nI (i + 1))), (3, .int (pI (par2 (eTg n X Y px.toInt py.toInt) (i + 1)))), (0, .ref r), (1, .int px), (2, .int py)] := by rw [e9_3]; exact hl9
                          exact ih_5 (i + 1) H locs ls (by first | with_reducible assumption | omega) (by first | with_reducible assumption | omega) (by intro k hk; rcases Nat.lt_or_ge k i with h | h; exact hno k h; have e9 : k = i := (by first | with_reducible assumption | omega); subst e9; first | exact (sk_tg (by first | with_reducible assumption | omega)).2 | (unfold eOn onS; unfold eCr at *; omega)) hP hD hS hl9
                        · exact absurd c_36 (by decide)
                    · have c_31 : 0 < (eCr n X Y i px.toInt py.toInt) := zc_nle (iI_toInt (by omega)) rfl c_31
                      refine lv_iconst (v := 1) hx hb dX7_where_226 rfl ?_
                      refine lv_goto (tgt := 231) hx hb dX7_where_227 rfl ?_
                      refine lv_aload_n hx hb dX7_where_231 rfl (lv_at hl 4 rfl) ?_
                      refine va_get (D := (dC, dI)) (ci := 6) (v := .ref ry) (C := RX7) (T := TX7) (N := 4) hx hb hts inX7 hown hK hP 0 rfl rfl 1 (Nat.le_of_ble_eq_true rfl) (hts _ mw_168) (fun _ h9 => h9) rfl dX7_where_232 ?_
                      refine lv_iload hx hb dX7_where_235 (lv_at hl 1 rfl) ?_
                      have b9_37 : nxt n i < cap := by omega
                      refine z_iald hx hb hK hP 2 0 rfl rfl (e := nxt n i) rfl b9_37 b9_8 dX7_where_237 ?_
                      refine lv_aload_n hx hb dX7_where_238 rfl (lv_at hl 4 rfl) ?_
                      refine va_get (D := (dC, dI)) (ci := 6) (v := .ref ry) (C := RX7) (T := TX7) (N := 4) hx hb hts inX7 hown hK hP 0 rfl rfl 1 (Nat.le_of_ble_eq_true rfl) (hts _ mw_168) (fun _ h9 => h9) rfl dX7_where_239 ?_
                      refine lv_iload hx hb dX7_where_242 (lv_at hl 2 rfl) ?_
                      have b9_38 : i < cap := by omega
                      refine z_iald hx hb hK hP 2 0 rfl rfl (e := i) rfl b9_38 b9_8 dX7_where_244 ?_
                      refine lv_icmp_le (tgt := 252) hx hb dX7_where_245 rfl (fun c_39 => ?_) (fun c_39 => ?_)
                      · have c_39 : (Y (nxt n i)).toInt ≤ (Y i).toInt := zc_le rfl rfl c_39
                        refine lv_iconst (v := 0) hx hb dX7_where_252 rfl ?_
                        refine lv_icmp_ne (tgt := 266) hx hb dX7_where_253 rfl (fun c_40 => ?_) (fun c_40 => ?_)
                        · refine lv_iinc (v := nI (i + 1)) (lv' := [(4, .int (nI (i + 1))), (6, .int (iI (eCr n X Y i px.toInt py.toInt))), (5, .int (nI (nxt n i))), (3, .int (pI (par2 (eTg n X Y px.toInt py.toInt) i))), (0, .ref r), (1, .int px), (2, .int py)]) hx hb dX7_where_266 hl (k := 2) rfl (nI_add i 1) (Nat.le_of_ble_eq_true rfl) rfl (fun ls hl => ?_)
                          refine lv_goto (tgt := 5) hx hb dX7_where_269 rfl ?_
                          have hl9 := lv_sub hl [0, 3, 4, 5, 6] rfl
                          have e9_3 : pI (par2 (eTg n X Y px.toInt py.toInt) (i + 1)) = (pI (par2 (eTg n X Y px.toInt py.toInt) i) : Int32) := by first | exact zp_iff (par2_n (sk_tg (by omega)).1) | exact zp_iff (par2_n (by unfold eTg; omega)) | exact zp_t ((par2_y (P := (eTg n X Y px.toInt py.toInt)) (i := i) (by have h9 := hne (by omega); unfold eTg; omega)).mpr (by first | with_reducible assumption | assumption)) | exact zp_f (fun q => (par2_y (P := (eTg n X Y px.toInt py.toInt)) (i := i) (by have h9 := hne (by omega); unfold eTg; omega)).mp q (by first | with_reducible assumption | assumption))
                          have hl9 : lv_has ls 7 [(4, .int (nI (i + 1))), (3, .int (pI (par2 (eTg n X Y px.toInt py.toInt) (i + 1)))), (0, .ref r), (1, .int px), (2, .int py)] := by rw [e9_3]; exact hl9
                          exact ih_5 (i + 1) H locs ls (by first | with_reducible assumption | omega) (by first | with_reducible assumption | omega) (by intro k hk; rcases Nat.lt_or_ge k i with h | h; exact hno k h; have e9 : k = i := (by first | with_reducible assumption | omega); subst e9; first | exact (sk_tg (by first | with_reducible assumption | omega)).2 | (unfold eOn onS; unfold eCr at *; omega)) hP hD hS hl9
                        · exact absurd c_40 (by decide)
                      · have c_39 : (Y i).toInt < (Y (nxt n i)).toInt := zc_nle rfl rfl c_39
                        refine lv_iconst (v := 1) hx hb dX7_where_248 rfl ?_
                        refine lv_goto (tgt := 253) hx hb dX7_where_249 rfl ?_
                        refine lv_icmp_ne (tgt := 266) hx hb dX7_where_253 rfl (fun c_41 => ?_) (fun c_41 => ?_)
                        · exact absurd (by decide) c_41
                        · refine lv_iload_n hx hb dX7_where_256 rfl (lv_at hl 3 rfl) ?_
                          refine lv_if_ne (tgt := 264) hx hb dX7_where_257 rfl (fun c_42 => ?_) (fun c_42 => ?_)
                          · have c_42 : par2 (eTg n X Y px.toInt py.toInt) i := zp_1 c_42
                            refine lv_iconst (v := 0) hx hb dX7_where_264 rfl ?_
                            refine lv_istore_n (lv' := [(3, .int 0), (6, .int (iI (eCr n X Y i px.toInt py.toInt))), (5, .int (nI (nxt n i))), (4, .int (nI i)), (0, .ref r), (1, .int px), (2, .int py)]) hx hb dX7_where_265 rfl hl (Nat.le_of_ble_eq_true rfl) rfl (fun ls hl => ?_)
                            refine lv_iinc (v := nI (i + 1)) (lv' := [(4, .int (nI (i + 1))), (3, .int 0), (6, .int (iI (eCr n X Y i px.toInt py.toInt))), (5, .int (nI (nxt n i))), (0, .ref r), (1, .int px), (2, .int py)]) hx hb dX7_where_266 hl (k := 3) rfl (nI_add i 1) (Nat.le_of_ble_eq_true rfl) rfl (fun ls hl => ?_)
                            refine lv_goto (tgt := 5) hx hb dX7_where_269 rfl ?_
                            have hl9 := lv_sub hl [0, 1, 4, 5, 6] rfl
                            have e9_3 : pI (par2 (eTg n X Y px.toInt py.toInt) (i + 1)) = (0 : Int32) := by first | exact zp_iff (par2_n (sk_tg (by omega)).1) | exact zp_iff (par2_n (by unfold eTg; omega)) | exact zp_t ((par2_y (P := (eTg n X Y px.toInt py.toInt)) (i := i) (by have h9 := hne (by omega); unfold eTg; omega)).mpr (by first | with_reducible assumption | assumption)) | exact zp_f (fun q => (par2_y (P := (eTg n X Y px.toInt py.toInt)) (i := i) (by have h9 := hne (by omega); unfold eTg; omega)).mp q (by first | with_reducible assumption | assumption))
                            have hl9 : lv_has ls 7 [(4, .int (nI (i + 1))), (3, .int (pI (par2 (eTg n X Y px.toInt py.toInt) (i + 1)))), (0, .ref r), (1, .int px), (2, .int py)] := by rw [e9_3]; exact hl9
                            exact ih_5 (i + 1) H locs ls (by first | with_reducible assumption | omega) (by first | with_reducible assumption | omega) (by intro k hk; rcases Nat.lt_or_ge k i with h | h; exact hno k h; have e9 : k = i := (by first | with_reducible assumption | omega); subst e9; first | exact (sk_tg (by first | with_reducible assumption | omega)).2 | (unfold eOn onS; unfold eCr at *; omega)) hP hD hS hl9
                          · have c_42 : ¬ (par2 (eTg n X Y px.toInt py.toInt) i) := zp_0 c_42
                            refine lv_iconst (v := 1) hx hb dX7_where_260 rfl ?_
                            refine lv_goto (tgt := 265) hx hb dX7_where_261 rfl ?_
                            refine lv_istore_n (lv' := [(3, .int 1), (6, .int (iI (eCr n X Y i px.toInt py.toInt))), (5, .int (nI (nxt n i))), (4, .int (nI i)), (0, .ref r), (1, .int px), (2, .int py)]) hx hb dX7_where_265 rfl hl (Nat.le_of_ble_eq_true rfl) rfl (fun ls hl => ?_)
                            refine lv_iinc (v := nI (i + 1)) (lv' := [(4, .int (nI (i + 1))), (3, .int 1), (6, .int (iI (eCr n X Y i px.toInt py.toInt))), (5, .int (nI (nxt n i))), (0, .ref r), (1, .int px), (2, .int py)]) hx hb dX7_where_266 hl (k := 3) rfl (nI_add i 1) (Nat.le_of_ble_eq_true rfl) rfl (fun ls hl => ?_)
                            refine lv_goto (tgt := 5) hx hb dX7_where_269 rfl ?_
                            have hl9 := lv_sub hl [0, 1, 4, 5, 6] rfl
                            have e9_3 : pI (par2 (eTg n X Y px.toInt py.toInt) (i + 1)) = (1 : Int32) := by first | exact zp_iff (par2_n (sk_tg (by omega)).1) | exact zp_iff (par2_n (by unfold eTg; omega)) | exact zp_t ((par2_y (P := (eTg n X Y px.toInt py.toInt)) (i := i) (by have h9 := hne (by omega); unfold eTg; omega)).mpr (by first | with_reducible assumption | assumption)) | exact zp_f (fun q => (par2_y (P := (eTg n X Y px.toInt py.toInt)) (i := i) (by have h9 := hne (by omega); unfold eTg; omega)).mp q (by first | with_reducible assumption | assumption))
                            have hl9 : lv_has ls 7 [(4, .int (nI (i + 1))), (3, .int (pI (par2 (eTg n X Y px.toInt py.toInt) (i + 1)))), (0, .ref r), (1, .int px), (2, .int py)] := by rw [e9_3]; exact hl9
                            exact ih_5 (i + 1) H locs ls (by first | with_reducible assumption | omega) (by first | with_reducible assumption | omega) (by intro k hk; rcases Nat.lt_or_ge k i with h | h; exact hno k h; have e9 : k = i := (by first | with_reducible assumption | omega); subst e9; first | exact (sk_tg (by first | with_reducible assumption | omega)).2 | (unfold eOn onS; unfold eCr at *; omega)) hP hD hS hl9
                · have c_29 : py.toInt < (Y (nxt n i)).toInt := zc_nle rfl rfl c_29
                  refine lv_iconst (v := 1) hx hb dX7_where_213 rfl ?_
                  refine lv_goto (tgt := 218) hx hb dX7_where_214 rfl ?_
                  refine lv_icmp_eq (tgt := 266) hx hb dX7_where_218 rfl (fun c_43 => ?_) (fun c_43 => ?_)
                  · refine lv_iinc (v := nI (i + 1)) (lv' := [(4, .int (nI (i + 1))), (6, .int (iI (eCr n X Y i px.toInt py.toInt))), (5, .int (nI (nxt n i))), (3, .int (pI (par2 (eTg n X Y px.toInt py.toInt) i))), (0, .ref r), (1, .int px), (2, .int py)]) hx hb dX7_where_266 hl (k := 2) rfl (nI_add i 1) (Nat.le_of_ble_eq_true rfl) rfl (fun ls hl => ?_)
                    refine lv_goto (tgt := 5) hx hb dX7_where_269 rfl ?_
                    have hl9 := lv_sub hl [0, 3, 4, 5, 6] rfl
                    have e9_3 : pI (par2 (eTg n X Y px.toInt py.toInt) (i + 1)) = (pI (par2 (eTg n X Y px.toInt py.toInt) i) : Int32) := by first | exact zp_iff (par2_n (sk_tg (by omega)).1) | exact zp_iff (par2_n (by unfold eTg; omega)) | exact zp_t ((par2_y (P := (eTg n X Y px.toInt py.toInt)) (i := i) (by have h9 := hne (by omega); unfold eTg; omega)).mpr (by first | with_reducible assumption | assumption)) | exact zp_f (fun q => (par2_y (P := (eTg n X Y px.toInt py.toInt)) (i := i) (by have h9 := hne (by omega); unfold eTg; omega)).mp q (by first | with_reducible assumption | assumption))
                    have hl9 : lv_has ls 7 [(4, .int (nI (i + 1))), (3, .int (pI (par2 (eTg n X Y px.toInt py.toInt) (i + 1)))), (0, .ref r), (1, .int px), (2, .int py)] := by rw [e9_3]; exact hl9
                    exact ih_5 (i + 1) H locs ls (by first | with_reducible assumption | omega) (by first | with_reducible assumption | omega) (by intro k hk; rcases Nat.lt_or_ge k i with h | h; exact hno k h; have e9 : k = i := (by first | with_reducible assumption | omega); subst e9; first | exact (sk_tg (by first | with_reducible assumption | omega)).2 | (unfold eOn onS; unfold eCr at *; omega)) hP hD hS hl9
                  · exact absurd (by decide) c_43
            refine lv_iload hx hb dX7_where_157 (lv_at hl 0 rfl) ?_
            refine lv_if_ne (tgt := 186) hx hb dX7_where_159 rfl (fun c_44 => ?_) (fun c_44 => ?_)
            · have c_44 : ¬ (eCr n X Y i px.toInt py.toInt) = 0 := zc_ne (iI_toInt (by omega)) rfl c_44
              exact hj_10 (by omega)
            · have c_44 : (eCr n X Y i px.toInt py.toInt) = 0 := zc_eq (iI_toInt (by omega)) rfl c_44
              refine lv_aload_n hx hb dX7_where_162 rfl (lv_at hl 4 rfl) ?_
              refine va_get (D := (dC, dI)) (ci := 6) (v := .ref rx) (C := RX7) (T := TX7) (N := 4) hx hb hts inX7 hown hK hP 0 rfl rfl 0 (Nat.le_of_ble_eq_true rfl) (hts _ mw_161) (fun _ h9 => h9) rfl dX7_where_163 ?_
              refine lv_iload hx hb dX7_where_166 (lv_at hl 2 rfl) ?_
              have b9_45 : i < cap := by omega
              refine z_iald hx hb hK hP 1 0 rfl rfl (e := i) rfl b9_45 b9_8 dX7_where_168 ?_
              refine lv_iload_n hx hb dX7_where_169 rfl (lv_at hl 5 rfl) ?_
              refine lv_icmp_le (tgt := 184) hx hb dX7_where_170 rfl (fun c_46 => ?_) (fun c_46 => ?_)
              · have c_46 : (X i).toInt ≤ px.toInt := zc_le rfl rfl c_46
                refine lv_iconst (v := 2) hx hb dX7_where_184 rfl ?_
                obtain ⟨hP9, hD9⟩ := zu_sub (wc := [_, _, _]) hP hD [true, true, true] rfl rfl
                rw [hQ9]
                exact W.iret (v := 2) hx hb hr (fun t ht hW => ⟨⟨congrArg (fun z => Outcome.returned (some (Value.int z))) (show (2 : Int32) = whr n X Y px.toInt py.toInt from (whr_2 ⟨i, by omega, by unfold eOn onS; unfold eCr at *; omega⟩).symm), by rw [ht]; exact hP9, hD9⟩, hS.F ht⟩) hS.2.2 dX7_where_185
              · have c_46 : px.toInt < (X i).toInt := zc_nle rfl rfl c_46
                refine lv_aload_n hx hb dX7_where_173 rfl (lv_at hl 4 rfl) ?_
                refine va_get (D := (dC, dI)) (ci := 6) (v := .ref rx) (C := RX7) (T := TX7) (N := 4) hx hb hts inX7 hown hK hP 0 rfl rfl 0 (Nat.le_of_ble_eq_true rfl) (hts _ mw_161) (fun _ h9 => h9) rfl dX7_where_174 ?_
                refine lv_iload hx hb dX7_where_177 (lv_at hl 1 rfl) ?_
                have b9_47 : nxt n i < cap := by omega
                refine z_iald hx hb hK hP 1 0 rfl rfl (e := nxt n i) rfl b9_47 b9_8 dX7_where_179 ?_
                refine lv_iload_n hx hb dX7_where_180 rfl (lv_at hl 5 rfl) ?_
                refine lv_icmp_gt (tgt := 186) hx hb dX7_where_181 rfl (fun c_48 => ?_) (fun c_48 => ?_)
                · have c_48 : px.toInt < (X (nxt n i)).toInt := zc_lt rfl rfl c_48
                  exact hj_10 (by omega)
                · have c_48 : (X (nxt n i)).toInt ≤ px.toInt := zc_nlt rfl rfl c_48
                  refine lv_iconst (v := 2) hx hb dX7_where_184 rfl ?_
                  obtain ⟨hP9, hD9⟩ := zu_sub (wc := [_, _, _]) hP hD [true, true, true] rfl rfl
                  rw [hQ9]
                  exact W.iret (v := 2) hx hb hr (fun t ht hW => ⟨⟨congrArg (fun z => Outcome.returned (some (Value.int z))) (show (2 : Int32) = whr n X Y px.toInt py.toInt from (whr_2 ⟨i, by omega, by unfold eOn onS; unfold eCr at *; omega⟩).symm), by rw [ht]; exact hP9, hD9⟩, hS.F ht⟩) hS.2.2 dX7_where_185
          have hj_49 : (¬ ((py.toInt < (Y i).toInt ∧ py.toInt < (Y (nxt n i)).toInt) ∨ ((Y i).toInt < py.toInt ∧ (Y (nxt n i)).toInt < py.toInt))) → W p l e ({ frames := 0, cells := 0, slots := 0, locals := 0 } : Room) s m ([.ref r, .int px, .int py] : List Value).toArray below meth c H locs 0 0 Q9 (F0 m 79 ls []) := by
            intro hsk2
            refine lv_aload_n hx hb dX7_where_79 rfl (lv_at hl 3 rfl) ?_
            refine va_get (D := (dC, dI)) (ci := 6) (v := .ref rx) (C := RX7) (T := TX7) (N := 4) hx hb hts inX7 hown hK hP 0 rfl rfl 0 (Nat.le_of_ble_eq_true rfl) (hts _ mw_161) (fun _ h9 => h9) rfl dX7_where_80 ?_
            refine lv_iload hx hb dX7_where_83 (lv_at hl 1 rfl) ?_
            have b9_50 : i < cap := by omega
            have b9_51 : cap < 2147483648 := by omega
            refine z_iald hx hb hK hP 1 0 rfl rfl (e := i) rfl b9_50 b9_51 dX7_where_85 ?_
            refine lv_iload_n hx hb dX7_where_86 rfl (lv_at hl 4 rfl) ?_
            refine lv_icmp_ge (tgt := 104) hx hb dX7_where_87 rfl (fun c_52 => ?_) (fun c_52 => ?_)
            · have c_52 : px.toInt ≤ (X i).toInt := zc_le rfl rfl c_52
              exact hj_6 (by omega)
            · have c_52 : (X i).toInt < px.toInt := zc_nle rfl rfl c_52
              refine lv_aload_n hx hb dX7_where_90 rfl (lv_at hl 3 rfl) ?_
              refine va_get (D := (dC, dI)) (ci := 6) (v := .ref rx) (C := RX7) (T := TX7) (N := 4) hx hb hts inX7 hown hK hP 0 rfl rfl 0 (Nat.le_of_ble_eq_true rfl) (hts _ mw_161) (fun _ h9 => h9) rfl dX7_where_91 ?_
              refine lv_iload hx hb dX7_where_94 (lv_at hl 0 rfl) ?_
              have b9_53 : nxt n i < cap := by omega
              refine z_iald hx hb hK hP 1 0 rfl rfl (e := nxt n i) rfl b9_53 b9_51 dX7_where_96 ?_
              refine lv_iload_n hx hb dX7_where_97 rfl (lv_at hl 4 rfl) ?_
              refine lv_icmp_ge (tgt := 104) hx hb dX7_where_98 rfl (fun c_54 => ?_) (fun c_54 => ?_)
              · have c_54 : px.toInt ≤ (X (nxt n i)).toInt := zc_le rfl rfl c_54
                exact hj_6 (by omega)
              · have c_54 : (X (nxt n i)).toInt < px.toInt := zc_nle rfl rfl c_54
                refine lv_goto (tgt := 266) hx hb dX7_where_101 rfl ?_
                refine lv_iinc (v := nI (i + 1)) (lv' := [(4, .int (nI (i + 1))), (5, .int (nI (nxt n i))), (3, .int (pI (par2 (eTg n X Y px.toInt py.toInt) i))), (0, .ref r), (1, .int px), (2, .int py)]) hx hb dX7_where_266 hl (k := 1) rfl (nI_add i 1) (Nat.le_of_ble_eq_true rfl) rfl (fun ls hl => ?_)
                refine lv_goto (tgt := 5) hx hb dX7_where_269 rfl ?_
                have hl9 := lv_sub hl [0, 2, 3, 4, 5] rfl
                have e9_3 : pI (par2 (eTg n X Y px.toInt py.toInt) (i + 1)) = (pI (par2 (eTg n X Y px.toInt py.toInt) i) : Int32) := by first | exact zp_iff (par2_n (sk_tg (by omega)).1) | exact zp_iff (par2_n (by unfold eTg; omega)) | exact zp_t ((par2_y (P := (eTg n X Y px.toInt py.toInt)) (i := i) (by have h9 := hne (by omega); unfold eTg; omega)).mpr (by first | with_reducible assumption | assumption)) | exact zp_f (fun q => (par2_y (P := (eTg n X Y px.toInt py.toInt)) (i := i) (by have h9 := hne (by omega); unfold eTg; omega)).mp q (by first | with_reducible assumption | assumption))
                have hl9 : lv_has ls 7 [(4, .int (nI (i + 1))), (3, .int (pI (par2 (eTg n X Y px.toInt py.toInt) (i + 1)))), (0, .ref r), (1, .int px), (2, .int py)] := by rw [e9_3]; exact hl9
                exact ih_5 (i + 1) H locs ls (by first | with_reducible assumption | omega) (by first | with_reducible assumption | omega) (by intro k hk; rcases Nat.lt_or_ge k i with h | h; exact hno k h; have e9 : k = i := (by first | with_reducible assumption | omega); subst e9; first | exact (sk_tg (by first | with_reducible assumption | omega)).2 | (unfold eOn onS; unfold eCr at *; omega)) hP hD hS hl9
          have hj_55 : (¬ (py.toInt < (Y i).toInt ∧ py.toInt < (Y (nxt n i)).toInt)) → W p l e ({ frames := 0, cells := 0, slots := 0, locals := 0 } : Room) s m ([.ref r, .int px, .int py] : List Value).toArray below meth c H locs 0 0 Q9 (F0 m 57 ls []) := by
            intro hsk1
            refine lv_aload_n hx hb dX7_where_57 rfl (lv_at hl 3 rfl) ?_
            refine va_get (D := (dC, dI)) (ci := 6) (v := .ref ry) (C := RX7) (T := TX7) (N := 4) hx hb hts inX7 hown hK hP 0 rfl rfl 1 (Nat.le_of_ble_eq_true rfl) (hts _ mw_168) (fun _ h9 => h9) rfl dX7_where_58 ?_
            refine lv_iload hx hb dX7_where_61 (lv_at hl 1 rfl) ?_
            have b9_56 : i < cap := by omega
            have b9_57 : cap < 2147483648 := by omega
            refine z_iald hx hb hK hP 2 0 rfl rfl (e := i) rfl b9_56 b9_57 dX7_where_63 ?_
            refine lv_iload_n hx hb dX7_where_64 rfl (lv_at hl 5 rfl) ?_
            refine lv_icmp_ge (tgt := 79) hx hb dX7_where_65 rfl (fun c_58 => ?_) (fun c_58 => ?_)
            · have c_58 : py.toInt ≤ (Y i).toInt := zc_le rfl rfl c_58
              exact hj_49 (by omega)
            · have c_58 : (Y i).toInt < py.toInt := zc_nle rfl rfl c_58
              refine lv_aload_n hx hb dX7_where_68 rfl (lv_at hl 3 rfl) ?_
              refine va_get (D := (dC, dI)) (ci := 6) (v := .ref ry) (C := RX7) (T := TX7) (N := 4) hx hb hts inX7 hown hK hP 0 rfl rfl 1 (Nat.le_of_ble_eq_true rfl) (hts _ mw_168) (fun _ h9 => h9) rfl dX7_where_69 ?_
              refine lv_iload hx hb dX7_where_72 (lv_at hl 0 rfl) ?_
              have b9_59 : nxt n i < cap := by omega
              refine z_iald hx hb hK hP 2 0 rfl rfl (e := nxt n i) rfl b9_59 b9_57 dX7_where_74 ?_
              refine lv_iload_n hx hb dX7_where_75 rfl (lv_at hl 5 rfl) ?_
              refine lv_icmp_lt (tgt := 266) hx hb dX7_where_76 rfl (fun c_60 => ?_) (fun c_60 => ?_)
              · have c_60 : (Y (nxt n i)).toInt < py.toInt := zc_lt rfl rfl c_60
                refine lv_iinc (v := nI (i + 1)) (lv' := [(4, .int (nI (i + 1))), (5, .int (nI (nxt n i))), (3, .int (pI (par2 (eTg n X Y px.toInt py.toInt) i))), (0, .ref r), (1, .int px), (2, .int py)]) hx hb dX7_where_266 hl (k := 1) rfl (nI_add i 1) (Nat.le_of_ble_eq_true rfl) rfl (fun ls hl => ?_)
                refine lv_goto (tgt := 5) hx hb dX7_where_269 rfl ?_
                have hl9 := lv_sub hl [0, 2, 3, 4, 5] rfl
                have e9_3 : pI (par2 (eTg n X Y px.toInt py.toInt) (i + 1)) = (pI (par2 (eTg n X Y px.toInt py.toInt) i) : Int32) := by first | exact zp_iff (par2_n (sk_tg (by omega)).1) | exact zp_iff (par2_n (by unfold eTg; omega)) | exact zp_t ((par2_y (P := (eTg n X Y px.toInt py.toInt)) (i := i) (by have h9 := hne (by omega); unfold eTg; omega)).mpr (by first | with_reducible assumption | assumption)) | exact zp_f (fun q => (par2_y (P := (eTg n X Y px.toInt py.toInt)) (i := i) (by have h9 := hne (by omega); unfold eTg; omega)).mp q (by first | with_reducible assumption | assumption))
                have hl9 : lv_has ls 7 [(4, .int (nI (i + 1))), (3, .int (pI (par2 (eTg n X Y px.toInt py.toInt) (i + 1)))), (0, .ref r), (1, .int px), (2, .int py)] := by rw [e9_3]; exact hl9
                exact ih_5 (i + 1) H locs ls (by first | with_reducible assumption | omega) (by first | with_reducible assumption | omega) (by intro k hk; rcases Nat.lt_or_ge k i with h | h; exact hno k h; have e9 : k = i := (by first | with_reducible assumption | omega); subst e9; first | exact (sk_tg (by first | with_reducible assumption | omega)).2 | (unfold eOn onS; unfold eCr at *; omega)) hP hD hS hl9
              · have c_60 : py.toInt ≤ (Y (nxt n i)).toInt := zc_nlt rfl rfl c_60
                exact hj_49 (by omega)
          refine lv_aload_n hx hb dX7_where_35 rfl (lv_at hl 3 rfl) ?_
          refine va_get (D := (dC, dI)) (ci := 6) (v := .ref ry) (C := RX7) (T := TX7) (N := 4) hx hb hts inX7 hown hK hP 0 rfl rfl 1 (Nat.le_of_ble_eq_true rfl) (hts _ mw_168) (fun _ h9 => h9) rfl dX7_where_36 ?_
          refine lv_iload hx hb dX7_where_39 (lv_at hl 1 rfl) ?_
          have b9_61 : i < cap := by omega
          have b9_62 : cap < 2147483648 := by omega
          refine z_iald hx hb hK hP 2 0 rfl rfl (e := i) rfl b9_61 b9_62 dX7_where_41 ?_
          refine lv_iload_n hx hb dX7_where_42 rfl (lv_at hl 5 rfl) ?_
          refine lv_icmp_le (tgt := 57) hx hb dX7_where_43 rfl (fun c_63 => ?_) (fun c_63 => ?_)
          · have c_63 : (Y i).toInt ≤ py.toInt := zc_le rfl rfl c_63
            exact hj_55 (by omega)
          · have c_63 : py.toInt < (Y i).toInt := zc_nle rfl rfl c_63
            refine lv_aload_n hx hb dX7_where_46 rfl (lv_at hl 3 rfl) ?_
            refine va_get (D := (dC, dI)) (ci := 6) (v := .ref ry) (C := RX7) (T := TX7) (N := 4) hx hb hts inX7 hown hK hP 0 rfl rfl 1 (Nat.le_of_ble_eq_true rfl) (hts _ mw_168) (fun _ h9 => h9) rfl dX7_where_47 ?_
            refine lv_iload hx hb dX7_where_50 (lv_at hl 0 rfl) ?_
            have b9_64 : nxt n i < cap := by omega
            refine z_iald hx hb hK hP 2 0 rfl rfl (e := nxt n i) rfl b9_64 b9_62 dX7_where_52 ?_
            refine lv_iload_n hx hb dX7_where_53 rfl (lv_at hl 5 rfl) ?_
            refine lv_icmp_gt (tgt := 266) hx hb dX7_where_54 rfl (fun c_65 => ?_) (fun c_65 => ?_)
            · have c_65 : py.toInt < (Y (nxt n i)).toInt := zc_lt rfl rfl c_65
              refine lv_iinc (v := nI (i + 1)) (lv' := [(4, .int (nI (i + 1))), (5, .int (nI (nxt n i))), (3, .int (pI (par2 (eTg n X Y px.toInt py.toInt) i))), (0, .ref r), (1, .int px), (2, .int py)]) hx hb dX7_where_266 hl (k := 1) rfl (nI_add i 1) (Nat.le_of_ble_eq_true rfl) rfl (fun ls hl => ?_)
              refine lv_goto (tgt := 5) hx hb dX7_where_269 rfl ?_
              have hl9 := lv_sub hl [0, 2, 3, 4, 5] rfl
              have e9_3 : pI (par2 (eTg n X Y px.toInt py.toInt) (i + 1)) = (pI (par2 (eTg n X Y px.toInt py.toInt) i) : Int32) := by first | exact zp_iff (par2_n (sk_tg (by omega)).1) | exact zp_iff (par2_n (by unfold eTg; omega)) | exact zp_t ((par2_y (P := (eTg n X Y px.toInt py.toInt)) (i := i) (by have h9 := hne (by omega); unfold eTg; omega)).mpr (by first | with_reducible assumption | assumption)) | exact zp_f (fun q => (par2_y (P := (eTg n X Y px.toInt py.toInt)) (i := i) (by have h9 := hne (by omega); unfold eTg; omega)).mp q (by first | with_reducible assumption | assumption))
              have hl9 : lv_has ls 7 [(4, .int (nI (i + 1))), (3, .int (pI (par2 (eTg n X Y px.toInt py.toInt) (i + 1)))), (0, .ref r), (1, .int px), (2, .int py)] := by rw [e9_3]; exact hl9
              exact ih_5 (i + 1) H locs ls (by first | with_reducible assumption | omega) (by first | with_reducible assumption | omega) (by intro k hk; rcases Nat.lt_or_ge k i with h | h; exact hno k h; have e9 : k = i := (by first | with_reducible assumption | omega); subst e9; first | exact (sk_tg (by first | with_reducible assumption | omega)).2 | (unfold eOn onS; unfold eCr at *; omega)) hP hD hS hl9
            · have c_65 : (Y (nxt n i)).toInt ≤ py.toInt := zc_nlt rfl rfl c_65
              exact hj_55 (by omega)
        have b9_67 : (i + 1) < 2147483648 := by omega
        refine lv_icmp_ge (tgt := 32) hx hb dX7_where_22 rfl (fun c_66 => ?_) (fun c_66 => ?_)
        · have c_66 : ((n : Nat) : Int) ≤ ((i + 1 : Nat) : Int) := zc_le (nI_toInt b9_3) (nI_toInt b9_67) c_66
          refine lv_iconst (v := 0) hx hb dX7_where_32 rfl ?_
          refine zz_i (v := nI (nxt n i)) (by first | (rw [nxt, if_pos (by omega)]) | (rw [nxt, if_neg (by omega)]; first | done | rfl)) ?_
          exact hj_5 
        · have c_66 : ((i + 1 : Nat) : Int) < ((n : Nat) : Int) := zc_nle (nI_toInt b9_3) (nI_toInt b9_67) c_66
          refine lv_iload hx hb dX7_where_25 (lv_at hl 0 rfl) ?_
          refine lv_iconst (v := 1) hx hb dX7_where_27 rfl ?_
          refine lv_iadd hx hb dX7_where_28 ?_
          refine zz_i (v := nI (i + 1)) (nI_add i 1) ?_
          refine lv_goto (tgt := 33) hx hb dX7_where_29 rfl ?_
          refine zz_i (v := nI (nxt n i)) (by first | (rw [nxt, if_pos (by omega)]) | (rw [nxt, if_neg (by omega)]; first | done | rfl)) ?_
          exact hj_5 
  have e9_3 : pI (par2 (eTg n X Y px.toInt py.toInt) 0) = (0 : Int32) := by exact zp_f (fun h => h)
  have hl9 : lv_has ls 7 [(4, .int (nI 0)), (3, .int (pI (par2 (eTg n X Y px.toInt py.toInt) 0))), (0, .ref r), (1, .int px), (2, .int py)] := by rw [e9_3]; exact lv_sub hl [0, 1, 2, 3, 4] rfl
  exact hl_5 _ 0 s.heap [] ls (Nat.lt_succ_self _) (by first | with_reducible assumption | omega) (by intro k hk; omega) hP hD hS hl9
end
section
set_option maxHeartbeats 4000000 in
set_option maxRecDepth 100000 in
theorem k_Row_foldsBack (l : Launch) (dC : Nat → ClassId) (dI : Nat → Nat → Nat) (cI cZ cF : ClassId) (sz : Nat) (r : Nat) (rx : Nat) (ry : Nat) (n : Nat) (cap : Nat) (X : Nat → Int32) (Y : Nat → Int32) (rg : Int32) (k : Nat) (hn : n ≤ cap) (hcap : cap ≤ 1000) (hp : pls n X Y) (hi : k < n) : zM l yX7_foldsBack cX7_foldsBack 8 (some .boolean) ({ frames := 0, cells := 0, slots := 0, locals := 0 } : Room) [.ref r, .int (nI k)] (dC, dI) (zTy cI cZ cF) [(oc6 r (.ref rx) (.ref ry) (nI n) rg), (oa rx cI cap X), (oa ry cI cap Y)] sz (some (.int (pI (eFd n X Y k)))) (fun A t => zPD (dC, dI) classes A [(oc6 r (.ref rx) (.ref ry) (nI n) rg), (oa rx cI cap X), (oa ry cI cap Y)] t.heap) 0 0 := by
  refine zIn (own := "ScaleShop$Row") (loc := [(0, .ref r), (1, .int (nI k))]) rfl rfl rfl rfl (fun p e s m below meth c hx hb hr hts hown hlocks hml hnm9 A hA hS hP hD hK hXN Q9 hQ9 ls hl => ?_)
  refine lv_iload_n hx hb dX7_foldsBack_0 rfl (lv_at hl 1 rfl) ?_
  have hj_1 : W p l e ({ frames := 0, cells := 0, slots := 0, locals := 0 } : Room) s m ([.ref r, .int (nI k)] : List Value).toArray below meth c s.heap [] 0 0 Q9 (F0 m 16 ls [.int (nI (prv n k))]) := by
    have hpv := prv_lt (n := n) (i := k) (by omega)
    refine lv_istore_n (lv' := [(2, .int (nI (prv n k))), (0, .ref r), (1, .int (nI k))]) hx hb dX7_foldsBack_16 rfl hl (Nat.le_of_ble_eq_true rfl) rfl (fun ls hl => ?_)
    refine lv_iload_n hx hb dX7_foldsBack_17 rfl (lv_at hl 2 rfl) ?_
    refine lv_iconst (v := 1) hx hb dX7_foldsBack_18 rfl ?_
    refine lv_iadd hx hb dX7_foldsBack_19 ?_
    refine zz_i (v := nI (k + 1)) (nI_add k 1) ?_
    refine lv_aload_n hx hb dX7_foldsBack_20 rfl (lv_at hl 1 rfl) ?_
    refine va_get (D := (dC, dI)) (ci := 6) (v := .int (nI n)) (C := RX7) (T := TX7) (N := 4) hx hb hts inX7 hown hK hP 0 rfl rfl 2 (Nat.le_of_ble_eq_true rfl) (hts _ mw_175) (fun _ h9 => h9) rfl dX7_foldsBack_21 ?_
    have hj_2 : W p l e ({ frames := 0, cells := 0, slots := 0, locals := 0 } : Room) s m ([.ref r, .int (nI k)] : List Value).toArray below meth c s.heap [] 0 0 Q9 (F0 m 34 ls [.int (nI (nxt n k))]) := by
      have hnk := nxt_lt (n := n) (i := k) (by omega)
      refine lv_istore_n (lv' := [(3, .int (nI (nxt n k))), (2, .int (nI (prv n k))), (0, .ref r), (1, .int (nI k))]) hx hb dX7_foldsBack_34 rfl hl (Nat.le_of_ble_eq_true rfl) rfl (fun ls hl => ?_)
      refine lv_aload_n hx hb dX7_foldsBack_35 rfl (lv_at hl 2 rfl) ?_
      refine va_get (D := (dC, dI)) (ci := 6) (v := .ref rx) (C := RX7) (T := TX7) (N := 4) hx hb hts inX7 hown hK hP 0 rfl rfl 0 (Nat.le_of_ble_eq_true rfl) (hts _ mw_161) (fun _ h9 => h9) rfl dX7_foldsBack_36 ?_
      refine lv_iload_n hx hb dX7_foldsBack_39 rfl (lv_at hl 1 rfl) ?_
      have b9_3 : prv n k < cap := by omega
      have b9_4 : cap < 2147483648 := by omega
      refine z_iald hx hb hK hP 1 0 rfl rfl (e := prv n k) rfl b9_3 b9_4 dX7_foldsBack_40 ?_
      refine lv_aload_n hx hb dX7_foldsBack_41 rfl (lv_at hl 2 rfl) ?_
      refine va_get (D := (dC, dI)) (ci := 6) (v := .ref rx) (C := RX7) (T := TX7) (N := 4) hx hb hts inX7 hown hK hP 0 rfl rfl 0 (Nat.le_of_ble_eq_true rfl) (hts _ mw_161) (fun _ h9 => h9) rfl dX7_foldsBack_42 ?_
      refine lv_iload_n hx hb dX7_foldsBack_45 rfl (lv_at hl 3 rfl) ?_
      have b9_5 : k < cap := by omega
      refine z_iald hx hb hK hP 1 0 rfl rfl (e := k) rfl b9_5 b9_4 dX7_foldsBack_46 ?_
      refine lv_isub hx hb dX7_foldsBack_47 ?_
      refine lv_istore (lv' := [(4, .int ((X (prv n k)) - (X k))), (3, .int (nI (nxt n k))), (2, .int (nI (prv n k))), (0, .ref r), (1, .int (nI k))]) hx hb dX7_foldsBack_48 hl (Nat.le_of_ble_eq_true rfl) rfl (fun ls hl => ?_)
      refine lv_aload_n hx hb dX7_foldsBack_50 rfl (lv_at hl 3 rfl) ?_
      refine va_get (D := (dC, dI)) (ci := 6) (v := .ref ry) (C := RX7) (T := TX7) (N := 4) hx hb hts inX7 hown hK hP 0 rfl rfl 1 (Nat.le_of_ble_eq_true rfl) (hts _ mw_168) (fun _ h9 => h9) rfl dX7_foldsBack_51 ?_
      refine lv_iload_n hx hb dX7_foldsBack_54 rfl (lv_at hl 2 rfl) ?_
      refine z_iald hx hb hK hP 2 0 rfl rfl (e := prv n k) rfl b9_3 b9_4 dX7_foldsBack_55 ?_
      refine lv_aload_n hx hb dX7_foldsBack_56 rfl (lv_at hl 3 rfl) ?_
      refine va_get (D := (dC, dI)) (ci := 6) (v := .ref ry) (C := RX7) (T := TX7) (N := 4) hx hb hts inX7 hown hK hP 0 rfl rfl 1 (Nat.le_of_ble_eq_true rfl) (hts _ mw_168) (fun _ h9 => h9) rfl dX7_foldsBack_57 ?_
      refine lv_iload_n hx hb dX7_foldsBack_60 rfl (lv_at hl 4 rfl) ?_
      refine z_iald hx hb hK hP 2 0 rfl rfl (e := k) rfl b9_5 b9_4 dX7_foldsBack_61 ?_
      refine lv_isub hx hb dX7_foldsBack_62 ?_
      refine lv_istore (lv' := [(5, .int ((Y (prv n k)) - (Y k))), (4, .int ((X (prv n k)) - (X k))), (3, .int (nI (nxt n k))), (2, .int (nI (prv n k))), (0, .ref r), (1, .int (nI k))]) hx hb dX7_foldsBack_63 hl (Nat.le_of_ble_eq_true rfl) rfl (fun ls hl => ?_)
      refine lv_aload_n hx hb dX7_foldsBack_65 rfl (lv_at hl 4 rfl) ?_
      refine va_get (D := (dC, dI)) (ci := 6) (v := .ref rx) (C := RX7) (T := TX7) (N := 4) hx hb hts inX7 hown hK hP 0 rfl rfl 0 (Nat.le_of_ble_eq_true rfl) (hts _ mw_161) (fun _ h9 => h9) rfl dX7_foldsBack_66 ?_
      refine lv_iload_n hx hb dX7_foldsBack_69 rfl (lv_at hl 2 rfl) ?_
      have b9_6 : nxt n k < cap := by omega
      refine z_iald hx hb hK hP 1 0 rfl rfl (e := nxt n k) rfl b9_6 b9_4 dX7_foldsBack_70 ?_
      refine lv_aload_n hx hb dX7_foldsBack_71 rfl (lv_at hl 4 rfl) ?_
      refine va_get (D := (dC, dI)) (ci := 6) (v := .ref rx) (C := RX7) (T := TX7) (N := 4) hx hb hts inX7 hown hK hP 0 rfl rfl 0 (Nat.le_of_ble_eq_true rfl) (hts _ mw_161) (fun _ h9 => h9) rfl dX7_foldsBack_72 ?_
      refine lv_iload_n hx hb dX7_foldsBack_75 rfl (lv_at hl 5 rfl) ?_
      refine z_iald hx hb hK hP 1 0 rfl rfl (e := k) rfl b9_5 b9_4 dX7_foldsBack_76 ?_
      refine lv_isub hx hb dX7_foldsBack_77 ?_
      refine lv_istore (lv' := [(6, .int ((X (nxt n k)) - (X k))), (5, .int ((Y (prv n k)) - (Y k))), (4, .int ((X (prv n k)) - (X k))), (3, .int (nI (nxt n k))), (2, .int (nI (prv n k))), (0, .ref r), (1, .int (nI k))]) hx hb dX7_foldsBack_78 hl (Nat.le_of_ble_eq_true rfl) rfl (fun ls hl => ?_)
      refine lv_aload_n hx hb dX7_foldsBack_80 rfl (lv_at hl 5 rfl) ?_
      refine va_get (D := (dC, dI)) (ci := 6) (v := .ref ry) (C := RX7) (T := TX7) (N := 4) hx hb hts inX7 hown hK hP 0 rfl rfl 1 (Nat.le_of_ble_eq_true rfl) (hts _ mw_168) (fun _ h9 => h9) rfl dX7_foldsBack_81 ?_
      refine lv_iload_n hx hb dX7_foldsBack_84 rfl (lv_at hl 3 rfl) ?_
      refine z_iald hx hb hK hP 2 0 rfl rfl (e := nxt n k) rfl b9_6 b9_4 dX7_foldsBack_85 ?_
      refine lv_aload_n hx hb dX7_foldsBack_86 rfl (lv_at hl 5 rfl) ?_
      refine va_get (D := (dC, dI)) (ci := 6) (v := .ref ry) (C := RX7) (T := TX7) (N := 4) hx hb hts inX7 hown hK hP 0 rfl rfl 1 (Nat.le_of_ble_eq_true rfl) (hts _ mw_168) (fun _ h9 => h9) rfl dX7_foldsBack_87 ?_
      refine lv_iload_n hx hb dX7_foldsBack_90 rfl (lv_at hl 6 rfl) ?_
      refine z_iald hx hb hK hP 2 0 rfl rfl (e := k) rfl b9_5 b9_4 dX7_foldsBack_91 ?_
      refine lv_isub hx hb dX7_foldsBack_92 ?_
      refine lv_istore (lv' := [(7, .int ((Y (nxt n k)) - (Y k))), (6, .int ((X (nxt n k)) - (X k))), (5, .int ((Y (prv n k)) - (Y k))), (4, .int ((X (prv n k)) - (X k))), (3, .int (nI (nxt n k))), (2, .int (nI (prv n k))), (0, .ref r), (1, .int (nI k))]) hx hb dX7_foldsBack_93 hl (Nat.le_of_ble_eq_true rfl) rfl (fun ls hl => ?_)
      refine lv_iload hx hb dX7_foldsBack_95 (lv_at hl 3 rfl) ?_
      refine lv_iload hx hb dX7_foldsBack_97 (lv_at hl 0 rfl) ?_
      refine lv_imul hx hb dX7_foldsBack_99 ?_
      refine zz_i (v := iI (((X (prv n k)).toInt - (X k).toInt) * ((Y (nxt n k)).toInt - (Y k).toInt))) (mlI (hp _ hpv).1 (hp k hi).1 (hp _ hnk).2 (hp k hi).2) ?_
      have hB1 := mlB (hp _ hpv).1 (hp k hi).1 (hp _ hnk).2 (hp k hi).2
      refine lv_iload hx hb dX7_foldsBack_100 (lv_at hl 2 rfl) ?_
      refine lv_iload hx hb dX7_foldsBack_102 (lv_at hl 1 rfl) ?_
      refine lv_imul hx hb dX7_foldsBack_104 ?_
      refine zz_i (v := iI (((Y (prv n k)).toInt - (Y k).toInt) * ((X (nxt n k)).toInt - (X k).toInt))) (mlI (hp _ hpv).2 (hp k hi).2 (hp _ hnk).1 (hp k hi).1) ?_
      have hB2 := mlB (hp _ hpv).2 (hp k hi).2 (hp _ hnk).1 (hp k hi).1
      refine lv_icmp_ne (tgt := 126) hx hb dX7_foldsBack_105 rfl (fun c_7 => ?_) (fun c_7 => ?_)
      · have c_7 : ¬ (((X (prv n k)).toInt - (X k).toInt) * ((Y (nxt n k)).toInt - (Y k).toInt)) = (((Y (prv n k)).toInt - (Y k).toInt) * ((X (nxt n k)).toInt - (X k).toInt)) := zc_ne (iI_toInt (by omega)) (iI_toInt (by omega)) c_7
        refine lv_iconst (v := 0) hx hb dX7_foldsBack_126 rfl ?_
        obtain ⟨hP9, hD9⟩ := zu_sub (wc := [_, _, _]) hP hD [true, true, true] rfl rfl
        rw [hQ9]
        exact W.zret (ty := .boolean) (v := 0) hx hb hr (rfl) (fun t ht hW => ⟨⟨congrArg (fun z => Outcome.returned (some (Value.int z))) (show (0 : Int32) = pI (eFd n X Y k) from (zp_f (by have h9 := cr_ml (X (prv n k)).toInt (Y (prv n k)).toInt (X k).toInt (Y k).toInt (X (nxt n k)).toInt (Y (nxt n k)).toInt; unfold eFd fld; omega)).symm), by rw [ht]; exact hP9, hD9⟩, hS.F ht⟩) hS.2.2 dX7_foldsBack_127
      · have c_7 : (((X (prv n k)).toInt - (X k).toInt) * ((Y (nxt n k)).toInt - (Y k).toInt)) = (((Y (prv n k)).toInt - (Y k).toInt) * ((X (nxt n k)).toInt - (X k).toInt)) := zc_eq (iI_toInt (by omega)) (iI_toInt (by omega)) c_7
        refine lv_iload hx hb dX7_foldsBack_108 (lv_at hl 3 rfl) ?_
        refine lv_iload hx hb dX7_foldsBack_110 (lv_at hl 1 rfl) ?_
        refine lv_imul hx hb dX7_foldsBack_112 ?_
        refine lv_iload hx hb dX7_foldsBack_113 (lv_at hl 2 rfl) ?_
        refine lv_iload hx hb dX7_foldsBack_115 (lv_at hl 0 rfl) ?_
        refine lv_imul hx hb dX7_foldsBack_117 ?_
        refine lv_iadd hx hb dX7_foldsBack_118 ?_
        refine zz_i (v := iI (dt (X (prv n k)).toInt (Y (prv n k)).toInt (X k).toInt (Y k).toInt (X (nxt n k)).toInt (Y (nxt n k)).toInt)) (dtI (hp _ hpv).1 (hp _ hpv).2 (hp k hi).1 (hp k hi).2 (hp _ hnk).1 (hp _ hnk).2) ?_
        have hB3 := dtB (hp _ hpv).1 (hp _ hpv).2 (hp k hi).1 (hp k hi).2 (hp _ hnk).1 (hp _ hnk).2
        refine lv_if_le (tgt := 126) hx hb dX7_foldsBack_119 rfl (fun c_8 => ?_) (fun c_8 => ?_)
        · have c_8 : (dt (X (prv n k)).toInt (Y (prv n k)).toInt (X k).toInt (Y k).toInt (X (nxt n k)).toInt (Y (nxt n k)).toInt) ≤ 0 := zc_le (iI_toInt (by omega)) rfl c_8
          refine lv_iconst (v := 0) hx hb dX7_foldsBack_126 rfl ?_
          obtain ⟨hP9, hD9⟩ := zu_sub (wc := [_, _, _]) hP hD [true, true, true] rfl rfl
          rw [hQ9]
          exact W.zret (ty := .boolean) (v := 0) hx hb hr (rfl) (fun t ht hW => ⟨⟨congrArg (fun z => Outcome.returned (some (Value.int z))) (show (0 : Int32) = pI (eFd n X Y k) from (zp_f (by have h9 := cr_ml (X (prv n k)).toInt (Y (prv n k)).toInt (X k).toInt (Y k).toInt (X (nxt n k)).toInt (Y (nxt n k)).toInt; unfold eFd fld; omega)).symm), by rw [ht]; exact hP9, hD9⟩, hS.F ht⟩) hS.2.2 dX7_foldsBack_127
        · have c_8 : 0 < (dt (X (prv n k)).toInt (Y (prv n k)).toInt (X k).toInt (Y k).toInt (X (nxt n k)).toInt (Y (nxt n k)).toInt) := zc_nle (iI_toInt (by omega)) rfl c_8
          refine lv_iconst (v := 1) hx hb dX7_foldsBack_122 rfl ?_
          refine lv_goto (tgt := 127) hx hb dX7_foldsBack_123 rfl ?_
          obtain ⟨hP9, hD9⟩ := zu_sub (wc := [_, _, _]) hP hD [true, true, true] rfl rfl
          rw [hQ9]
          exact W.zret (ty := .boolean) (v := 1) hx hb hr (rfl) (fun t ht hW => ⟨⟨congrArg (fun z => Outcome.returned (some (Value.int z))) (show (1 : Int32) = pI (eFd n X Y k) from (zp_t (by have h9 := cr_ml (X (prv n k)).toInt (Y (prv n k)).toInt (X k).toInt (Y k).toInt (X (nxt n k)).toInt (Y (nxt n k)).toInt; unfold eFd fld; omega)).symm), by rw [ht]; exact hP9, hD9⟩, hS.F ht⟩) hS.2.2 dX7_foldsBack_127
    have b9_10 : (k + 1) < 2147483648 := by omega
    have b9_11 : n < 2147483648 := by omega
    refine lv_icmp_ge (tgt := 33) hx hb dX7_foldsBack_24 rfl (fun c_9 => ?_) (fun c_9 => ?_)
    · have c_9 : ((n : Nat) : Int) ≤ ((k + 1 : Nat) : Int) := zc_le (nI_toInt b9_11) (nI_toInt b9_10) c_9
      refine lv_iconst (v := 0) hx hb dX7_foldsBack_33 rfl ?_
      refine zz_i (v := nI (nxt n k)) (by first | (rw [nxt, if_pos (by omega)]) | (rw [nxt, if_neg (by omega)]; first | done | rfl)) ?_
      exact hj_2 
    · have c_9 : ((k + 1 : Nat) : Int) < ((n : Nat) : Int) := zc_nle (nI_toInt b9_11) (nI_toInt b9_10) c_9
      refine lv_iload_n hx hb dX7_foldsBack_27 rfl (lv_at hl 2 rfl) ?_
      refine lv_iconst (v := 1) hx hb dX7_foldsBack_28 rfl ?_
      refine lv_iadd hx hb dX7_foldsBack_29 ?_
      refine zz_i (v := nI (k + 1)) (nI_add k 1) ?_
      refine lv_goto (tgt := 34) hx hb dX7_foldsBack_30 rfl ?_
      refine zz_i (v := nI (nxt n k)) (by first | (rw [nxt, if_pos (by omega)]) | (rw [nxt, if_neg (by omega)]; first | done | rfl)) ?_
      exact hj_2 
  have b9_13 : k < 2147483648 := by omega
  refine lv_if_le (tgt := 10) hx hb dX7_foldsBack_1 rfl (fun c_12 => ?_) (fun c_12 => ?_)
  · have c_12 : ((k : Nat) : Int) ≤ 0 := zc_le (nI_toInt b9_13) rfl c_12
    refine lv_aload_n hx hb dX7_foldsBack_10 rfl (lv_at hl 0 rfl) ?_
    refine va_get (D := (dC, dI)) (ci := 6) (v := .int (nI n)) (C := RX7) (T := TX7) (N := 4) hx hb hts inX7 hown hK hP 0 rfl rfl 2 (Nat.le_of_ble_eq_true rfl) (hts _ mw_175) (fun _ h9 => h9) rfl dX7_foldsBack_11 ?_
    refine lv_iconst (v := 1) hx hb dX7_foldsBack_14 rfl ?_
    refine lv_isub hx hb dX7_foldsBack_15 ?_
    refine zz_i (v := nI (n - 1)) (pk_sub (a := n) (b := 1) (by omega)) ?_
    refine zz_i (v := nI (prv n k)) (by first | (rw [prv, if_pos (by omega)]) | (rw [prv, if_neg (by omega)])) ?_
    exact hj_1 
  · have c_12 : 0 < ((k : Nat) : Int) := zc_nle (nI_toInt b9_13) rfl c_12
    refine lv_iload_n hx hb dX7_foldsBack_4 rfl (lv_at hl 1 rfl) ?_
    refine lv_iconst (v := 1) hx hb dX7_foldsBack_5 rfl ?_
    refine lv_isub hx hb dX7_foldsBack_6 ?_
    refine zz_i (v := nI (k - 1)) (pk_sub (a := k) (b := 1) (by omega)) ?_
    refine lv_goto (tgt := 16) hx hb dX7_foldsBack_7 rfl ?_
    refine zz_i (v := nI (prv n k)) (by first | (rw [prv, if_pos (by omega)]) | (rw [prv, if_neg (by omega)])) ?_
    exact hj_1 
set_option maxHeartbeats 4000000 in
set_option maxRecDepth 100000 in
theorem k_Row_hasRightAngles (l : Launch) (dC : Nat → ClassId) (dI : Nat → Nat → Nat) (cI cZ cF : ClassId) (sz : Nat) (r : Nat) (rx : Nat) (ry : Nat) (n : Nat) (cap : Nat) (X : Nat → Int32) (Y : Nat → Int32) (rg : Int32) (hn : n ≤ cap) (hcap : cap ≤ 1000) (hp : pls n X Y) : zM l yX7_hasRightAngles cX7_hasRightAngles 4 (some .boolean) ({ frames := 1, cells := 0, slots := 0, locals := 21 } : Room) [.ref r] (dC, dI) (zTy cI cZ cF) [(oc6 r (.ref rx) (.ref ry) (nI n) rg), (oa rx cI cap X), (oa ry cI cap Y)] sz (some (.int (pI (∀ k, k < n → eRt n X Y k)))) (fun A t => zPD (dC, dI) classes A [(oc6 r (.ref rx) (.ref ry) (nI n) rg), (oa rx cI cap X), (oa ry cI cap Y)] t.heap) 0 0 := by
  refine zIn (own := "ScaleShop$Row") (loc := [(0, .ref r)]) rfl rfl rfl rfl (fun p e s m below meth c hx hb hr hts hown hlocks hml hnm9 A hA hS hP hD hK hXN Q9 hQ9 ls hl => ?_)
  refine lv_iconst (v := 0) hx hb dX7_hasRightAngles_0 rfl ?_
  refine lv_istore_n (lv' := [(1, .int 0), (0, .ref r)]) hx hb dX7_hasRightAngles_1 rfl hl (Nat.le_of_ble_eq_true rfl) rfl (fun ls hl => ?_)
  have hl_2 : ∀ (n9 : Nat) (k : Nat) (H : Heap) (locs : List Loc) (ls : Array Slot), n - k < n9 → (k ≤ n) → (∀ j, j < k → eRt n X Y j) → va_P (dC, dI) classes [(oc6 r (.ref rx) (.ref ry) (nI n) rg), (oa rx cI cap X), (oa ry cI cap Y)] H → va_D A [(oc6 r (.ref rx) (.ref ry) (nI n) rg), (oa rx cI cap X), (oa ry cI cap Y)] → va_S A s.heap H locs → lv_has ls 4 [(1, .int (nI k)), (0, .ref r)] → W p l e ({ frames := 1, cells := 0, slots := 0, locals := 21 } : Room) s m ([.ref r] : List Value).toArray below meth c H locs 0 0 Q9 (F0 m 2 ls []) := by
    intro n9
    induction n9 with
    | zero => intro k H locs ls hm; exact absurd hm (Nat.not_lt_zero _)
    | succ n9 ih_2 =>
      intro k H locs ls hm hi0 hall hP hD hS hl
      refine lv_iload_n hx hb dX7_hasRightAngles_2 rfl (lv_at hl 0 rfl) ?_
      refine lv_aload_n hx hb dX7_hasRightAngles_3 rfl (lv_at hl 1 rfl) ?_
      refine va_get (D := (dC, dI)) (ci := 6) (v := .int (nI n)) (C := RX7) (T := TX7) (N := 4) hx hb hts inX7 hown hK hP 0 rfl rfl 2 (Nat.le_of_ble_eq_true rfl) (hts _ mw_175) (fun _ h9 => h9) rfl dX7_hasRightAngles_4 ?_
      have b9_2 : k < 2147483648 := by omega
      have b9_3 : n < 2147483648 := by omega
      refine lv_icmp_ge (tgt := 88) hx hb dX7_hasRightAngles_7 rfl (fun c_1 => ?_) (fun c_1 => ?_)
      · have c_1 : ((n : Nat) : Int) ≤ ((k : Nat) : Int) := zc_le (nI_toInt b9_3) (nI_toInt b9_2) c_1
        refine lv_iconst (v := 1) hx hb dX7_hasRightAngles_88 rfl ?_
        obtain ⟨hP9, hD9⟩ := zu_sub (wc := [_, _, _]) hP hD [true, true, true] rfl rfl
        rw [hQ9]
        exact W.zret (ty := .boolean) (v := 1) hx hb hr (rfl) (fun t ht hW => ⟨⟨congrArg (fun z => Outcome.returned (some (Value.int z))) (show (1 : Int32) = pI (∀ k, k < n → eRt n X Y k) from (zp_t (fun j hj => hall j (by omega))).symm), by rw [ht]; exact hP9, hD9⟩, hS.F ht⟩) hS.2.2 dX7_hasRightAngles_89
      · have c_1 : ((k : Nat) : Int) < ((n : Nat) : Int) := zc_nle (nI_toInt b9_3) (nI_toInt b9_2) c_1
        have hi : k < n := (by omega)
        have hpv := prv_lt (n := n) (i := k) (by omega)
        have hnk := nxt_lt (n := n) (i := k) (by omega)
        refine lv_aload_n hx hb dX7_hasRightAngles_10 rfl (lv_at hl 1 rfl) ?_
        refine lv_iload_n hx hb dX7_hasRightAngles_11 rfl (lv_at hl 0 rfl) ?_
        obtain ⟨hPc, hDc, hFc⟩ := zo_sub (wc := [_, _, _]) hP hD hS hA [0, 1, 2] rfl rfl
        refine zcall (st1 := [.int (nI (prv n k))]) (va_runV (As := [.int (nI k)]) (rest := []) ⟨hx, hb, hml, hown, hts⟩ (k_Row_previous l dC dI cI cZ cF H.size r rx ry n cap X Y rg k (by first | with_reducible assumption | omega) (by first | with_reducible assumption | omega) (by first | with_reducible assumption | omega)) (csV_5 hts rfl rfl ⟨Nat.le_of_ble_eq_true rfl, Nat.le_of_ble_eq_true rfl⟩) (zPV2 (q0 := 0) (ci := 6) hPc hDc hK hXN rfl rfl) rfl rfl hl.1 rfl (lv_room (Nat.le_of_ble_eq_true rfl)) dX7_hasRightAngles_12 ⟨Nat.le_of_ble_eq_true rfl, Nat.le_of_ble_eq_true rfl⟩) hS hFc hFc rfl (fun t H locs ht hB hk1 hS => ?_)
        obtain ⟨hP1, hD1⟩ := hB
        rw [ht] at hP1
        obtain ⟨hP, hD⟩ := zn (W2 := [_, _, _]) hP hD hk1 hFc hP1 hD1 [0, 1, 2] [] [false, false, false] [0, 1, 2] (by decide +kernel) rfl rfl rfl rfl rfl
        clear hk1 hPc hDc hFc hP1 hD1 ht
        refine lv_istore_n (lv' := [(2, .int (nI (prv n k))), (1, .int (nI k)), (0, .ref r)]) hx hb dX7_hasRightAngles_15 rfl hl (Nat.le_of_ble_eq_true rfl) rfl (fun ls hl => ?_)
        refine lv_aload_n hx hb dX7_hasRightAngles_16 rfl (lv_at hl 2 rfl) ?_
        refine lv_iload_n hx hb dX7_hasRightAngles_17 rfl (lv_at hl 1 rfl) ?_
        obtain ⟨hPc, hDc, hFc⟩ := zo_sub (wc := [_, _, _]) hP hD hS hA [0, 1, 2] rfl rfl
        refine zcall (st1 := [.int (nI (nxt n k))]) (va_runV (As := [.int (nI k)]) (rest := []) ⟨hx, hb, hml, hown, hts⟩ (k_Row_next l dC dI cI cZ cF H.size r rx ry n cap X Y rg k (by first | with_reducible assumption | omega) (by first | with_reducible assumption | omega) (by first | with_reducible assumption | omega)) (csV_6 hts rfl rfl ⟨Nat.le_of_ble_eq_true rfl, Nat.le_of_ble_eq_true rfl⟩) (zPV2 (q0 := 0) (ci := 6) hPc hDc hK hXN rfl rfl) rfl rfl hl.1 rfl (lv_room (Nat.le_of_ble_eq_true rfl)) dX7_hasRightAngles_18 ⟨Nat.le_of_ble_eq_true rfl, Nat.le_of_ble_eq_true rfl⟩) hS hFc hFc rfl (fun t H locs ht hB hk1 hS => ?_)
        obtain ⟨hP1, hD1⟩ := hB
        rw [ht] at hP1
        obtain ⟨hP, hD⟩ := zn (W2 := [_, _, _]) hP hD hk1 hFc hP1 hD1 [0, 1, 2] [] [false, false, false] [0, 1, 2] (by decide +kernel) rfl rfl rfl rfl rfl
        clear hk1 hPc hDc hFc hP1 hD1 ht
        refine lv_istore_n (lv' := [(3, .int (nI (nxt n k))), (2, .int (nI (prv n k))), (1, .int (nI k)), (0, .ref r)]) hx hb dX7_hasRightAngles_21 rfl hl (Nat.le_of_ble_eq_true rfl) rfl (fun ls hl => ?_)
        refine lv_aload_n hx hb dX7_hasRightAngles_22 rfl (lv_at hl 3 rfl) ?_
        refine va_get (D := (dC, dI)) (ci := 6) (v := .ref rx) (C := RX7) (T := TX7) (N := 4) hx hb hts inX7 hown hK hP 0 rfl rfl 0 (Nat.le_of_ble_eq_true rfl) (hts _ mw_161) (fun _ h9 => h9) rfl dX7_hasRightAngles_23 ?_
        refine lv_iload_n hx hb dX7_hasRightAngles_26 rfl (lv_at hl 1 rfl) ?_
        have b9_4 : prv n k < cap := by omega
        have b9_5 : cap < 2147483648 := by omega
        refine z_iald hx hb hK hP 1 0 rfl rfl (e := prv n k) rfl b9_4 b9_5 dX7_hasRightAngles_27 ?_
        refine lv_aload_n hx hb dX7_hasRightAngles_28 rfl (lv_at hl 3 rfl) ?_
        refine va_get (D := (dC, dI)) (ci := 6) (v := .ref rx) (C := RX7) (T := TX7) (N := 4) hx hb hts inX7 hown hK hP 0 rfl rfl 0 (Nat.le_of_ble_eq_true rfl) (hts _ mw_161) (fun _ h9 => h9) rfl dX7_hasRightAngles_29 ?_
        refine lv_iload_n hx hb dX7_hasRightAngles_32 rfl (lv_at hl 2 rfl) ?_
        have b9_6 : k < cap := by omega
        refine z_iald hx hb hK hP 1 0 rfl rfl (e := k) rfl b9_6 b9_5 dX7_hasRightAngles_33 ?_
        refine lv_isub hx hb dX7_hasRightAngles_34 ?_
        refine lv_aload_n hx hb dX7_hasRightAngles_35 rfl (lv_at hl 3 rfl) ?_
        refine va_get (D := (dC, dI)) (ci := 6) (v := .ref rx) (C := RX7) (T := TX7) (N := 4) hx hb hts inX7 hown hK hP 0 rfl rfl 0 (Nat.le_of_ble_eq_true rfl) (hts _ mw_161) (fun _ h9 => h9) rfl dX7_hasRightAngles_36 ?_
        refine lv_iload_n hx hb dX7_hasRightAngles_39 rfl (lv_at hl 0 rfl) ?_
        have b9_7 : nxt n k < cap := by omega
        refine z_iald hx hb hK hP 1 0 rfl rfl (e := nxt n k) rfl b9_7 b9_5 dX7_hasRightAngles_40 ?_
        refine lv_aload_n hx hb dX7_hasRightAngles_41 rfl (lv_at hl 3 rfl) ?_
        refine va_get (D := (dC, dI)) (ci := 6) (v := .ref rx) (C := RX7) (T := TX7) (N := 4) hx hb hts inX7 hown hK hP 0 rfl rfl 0 (Nat.le_of_ble_eq_true rfl) (hts _ mw_161) (fun _ h9 => h9) rfl dX7_hasRightAngles_42 ?_
        refine lv_iload_n hx hb dX7_hasRightAngles_45 rfl (lv_at hl 2 rfl) ?_
        refine z_iald hx hb hK hP 1 0 rfl rfl (e := k) rfl b9_6 b9_5 dX7_hasRightAngles_46 ?_
        refine lv_isub hx hb dX7_hasRightAngles_47 ?_
        refine lv_imul hx hb dX7_hasRightAngles_48 ?_
        refine lv_aload_n hx hb dX7_hasRightAngles_49 rfl (lv_at hl 3 rfl) ?_
        refine va_get (D := (dC, dI)) (ci := 6) (v := .ref ry) (C := RX7) (T := TX7) (N := 4) hx hb hts inX7 hown hK hP 0 rfl rfl 1 (Nat.le_of_ble_eq_true rfl) (hts _ mw_168) (fun _ h9 => h9) rfl dX7_hasRightAngles_50 ?_
        refine lv_iload_n hx hb dX7_hasRightAngles_53 rfl (lv_at hl 1 rfl) ?_
        refine z_iald hx hb hK hP 2 0 rfl rfl (e := prv n k) rfl b9_4 b9_5 dX7_hasRightAngles_54 ?_
        refine lv_aload_n hx hb dX7_hasRightAngles_55 rfl (lv_at hl 3 rfl) ?_
        refine va_get (D := (dC, dI)) (ci := 6) (v := .ref ry) (C := RX7) (T := TX7) (N := 4) hx hb hts inX7 hown hK hP 0 rfl rfl 1 (Nat.le_of_ble_eq_true rfl) (hts _ mw_168) (fun _ h9 => h9) rfl dX7_hasRightAngles_56 ?_
        refine lv_iload_n hx hb dX7_hasRightAngles_59 rfl (lv_at hl 2 rfl) ?_
        refine z_iald hx hb hK hP 2 0 rfl rfl (e := k) rfl b9_6 b9_5 dX7_hasRightAngles_60 ?_
        refine lv_isub hx hb dX7_hasRightAngles_61 ?_
        refine lv_aload_n hx hb dX7_hasRightAngles_62 rfl (lv_at hl 3 rfl) ?_
        refine va_get (D := (dC, dI)) (ci := 6) (v := .ref ry) (C := RX7) (T := TX7) (N := 4) hx hb hts inX7 hown hK hP 0 rfl rfl 1 (Nat.le_of_ble_eq_true rfl) (hts _ mw_168) (fun _ h9 => h9) rfl dX7_hasRightAngles_63 ?_
        refine lv_iload_n hx hb dX7_hasRightAngles_66 rfl (lv_at hl 0 rfl) ?_
        refine z_iald hx hb hK hP 2 0 rfl rfl (e := nxt n k) rfl b9_7 b9_5 dX7_hasRightAngles_67 ?_
        refine lv_aload_n hx hb dX7_hasRightAngles_68 rfl (lv_at hl 3 rfl) ?_
        refine va_get (D := (dC, dI)) (ci := 6) (v := .ref ry) (C := RX7) (T := TX7) (N := 4) hx hb hts inX7 hown hK hP 0 rfl rfl 1 (Nat.le_of_ble_eq_true rfl) (hts _ mw_168) (fun _ h9 => h9) rfl dX7_hasRightAngles_69 ?_
        refine lv_iload_n hx hb dX7_hasRightAngles_72 rfl (lv_at hl 2 rfl) ?_
        refine z_iald hx hb hK hP 2 0 rfl rfl (e := k) rfl b9_6 b9_5 dX7_hasRightAngles_73 ?_
        refine lv_isub hx hb dX7_hasRightAngles_74 ?_
        refine lv_imul hx hb dX7_hasRightAngles_75 ?_
        refine lv_iadd hx hb dX7_hasRightAngles_76 ?_
        refine zz_i (v := iI (dt (X (prv n k)).toInt (Y (prv n k)).toInt (X k).toInt (Y k).toInt (X (nxt n k)).toInt (Y (nxt n k)).toInt)) (dtI (hp _ hpv).1 (hp _ hpv).2 (hp k hi).1 (hp k hi).2 (hp _ hnk).1 (hp _ hnk).2) ?_
        have hB3 := dtB (hp _ hpv).1 (hp _ hpv).2 (hp k hi).1 (hp k hi).2 (hp _ hnk).1 (hp _ hnk).2
        refine lv_if_eq (tgt := 82) hx hb dX7_hasRightAngles_77 rfl (fun c_8 => ?_) (fun c_8 => ?_)
        · have c_8 : (dt (X (prv n k)).toInt (Y (prv n k)).toInt (X k).toInt (Y k).toInt (X (nxt n k)).toInt (Y (nxt n k)).toInt) = 0 := zc_eq (iI_toInt (by omega)) rfl c_8
          refine lv_iinc (v := nI (k + 1)) (lv' := [(1, .int (nI (k + 1))), (3, .int (nI (nxt n k))), (2, .int (nI (prv n k))), (0, .ref r)]) hx hb dX7_hasRightAngles_82 hl (k := 2) rfl (nI_add k 1) (Nat.le_of_ble_eq_true rfl) rfl (fun ls hl => ?_)
          refine lv_goto (tgt := 2) hx hb dX7_hasRightAngles_85 rfl ?_
          exact ih_2 (k + 1) H locs ls (by first | with_reducible assumption | omega) (by first | with_reducible assumption | omega) (by intro j hj; rcases Nat.lt_or_ge j k with h | h; exact hall j h; have e9 : j = k := (by first | with_reducible assumption | omega); subst e9; unfold eRt; assumption) hP hD hS (lv_sub hl [0, 3] rfl)
        · have c_8 : ¬ (dt (X (prv n k)).toInt (Y (prv n k)).toInt (X k).toInt (Y k).toInt (X (nxt n k)).toInt (Y (nxt n k)).toInt) = 0 := zc_ne (iI_toInt (by omega)) rfl c_8
          refine lv_iconst (v := 0) hx hb dX7_hasRightAngles_80 rfl ?_
          obtain ⟨hP9, hD9⟩ := zu_sub (wc := [_, _, _]) hP hD [true, true, true] rfl rfl
          rw [hQ9]
          exact W.zret (ty := .boolean) (v := 0) hx hb hr (rfl) (fun t ht hW => ⟨⟨congrArg (fun z => Outcome.returned (some (Value.int z))) (show (0 : Int32) = pI (∀ k, k < n → eRt n X Y k) from (zp_f (fun h => absurd (h k (by omega)) (by unfold eRt; assumption))).symm), by rw [ht]; exact hP9, hD9⟩, hS.F ht⟩) hS.2.2 dX7_hasRightAngles_81
  exact hl_2 _ 0 s.heap [] ls (Nat.lt_succ_self _) (by first | with_reducible assumption | omega) (by intro j hj; omega) hP hD hS (lv_sub hl [0, 1] rfl)
set_option maxHeartbeats 4000000 in
set_option maxRecDepth 100000 in
theorem k_Row_isEdgeFree (l : Launch) (dC : Nat → ClassId) (dI : Nat → Nat → Nat) (cI cZ cF : ClassId) (sz : Nat) (r : Nat) (rx : Nat) (ry : Nat) (n : Nat) (cap : Nat) (X : Nat → Int32) (Y : Nat → Int32) (rg : Int32) (i : Nat) (f : Nat) (hn : n ≤ cap) (hcap : cap ≤ 1000) (hp : pls n X Y) (hi : i < n) (hf : f ≤ n) : zM l yX7_isEdgeFree cX7_isEdgeFree 5 (some .boolean) ({ frames := 1, cells := 0, slots := 0, locals := 37 } : Room) [.ref r, .int (nI i), .int (nI f)] (dC, dI) (zTy cI cZ cF) [(oc6 r (.ref rx) (.ref ry) (nI n) rg), (oa rx cI cap X), (oa ry cI cap Y)] sz (some (.int (pI (eFr n X Y rg i f)))) (fun A t => zPD (dC, dI) classes A [(oc6 r (.ref rx) (.ref ry) (nI n) rg), (oa rx cI cap X), (oa ry cI cap Y)] t.heap) 0 0 := by
  refine zIn (own := "ScaleShop$Row") (loc := [(0, .ref r), (1, .int (nI i)), (2, .int (nI f))]) rfl rfl rfl rfl (fun p e s m below meth c hx hb hr hts hown hlocks hml hnm9 A hA hS hP hD hK hXN Q9 hQ9 ls hl => ?_)
  have hnx := nxt_lt (n := n) (i := i) (by omega)
  have hle := edg_le n rg
  refine lv_aload_n hx hb dX7_isEdgeFree_0 rfl (lv_at hl 0 rfl) ?_
  refine lv_iload_n hx hb dX7_isEdgeFree_1 rfl (lv_at hl 1 rfl) ?_
  refine lv_aload_n hx hb dX7_isEdgeFree_2 rfl (lv_at hl 0 rfl) ?_
  refine va_get (D := (dC, dI)) (ci := 6) (v := .ref rx) (C := RX7) (T := TX7) (N := 4) hx hb hts inX7 hown hK hP 0 rfl rfl 0 (Nat.le_of_ble_eq_true rfl) (hts _ mw_161) (fun _ h9 => h9) rfl dX7_isEdgeFree_3 ?_
  refine lv_aload_n hx hb dX7_isEdgeFree_6 rfl (lv_at hl 0 rfl) ?_
  refine lv_iload_n hx hb dX7_isEdgeFree_7 rfl (lv_at hl 1 rfl) ?_
  obtain ⟨hPc, hDc, hFc⟩ := zo_sub (wc := [_, _, _]) hP hD hS hA [0, 1, 2] rfl rfl
  refine zcall (st1 := [.int (nI (nxt n i)), .ref rx, .int (nI i), .ref r]) (va_runV (As := [.int (nI i)]) (rest := [.ref rx, .int (nI i), .ref r]) ⟨hx, hb, hml, hown, hts⟩ (k_Row_next l dC dI cI cZ cF s.heap.size r rx ry n cap X Y rg i (by first | with_reducible assumption | omega) (by first | with_reducible assumption | omega) (by first | with_reducible assumption | omega)) (csV_6 hts rfl rfl ⟨Nat.le_of_ble_eq_true rfl, Nat.le_of_ble_eq_true rfl⟩) (zPV2 (q0 := 0) (ci := 6) hPc hDc hK hXN rfl rfl) rfl rfl hl.1 rfl (lv_room (Nat.le_of_ble_eq_true rfl)) dX7_isEdgeFree_8 ⟨Nat.le_of_ble_eq_true rfl, Nat.le_of_ble_eq_true rfl⟩) hS hFc hFc rfl (fun t H locs ht hB hk1 hS => ?_)
  obtain ⟨hP1, hD1⟩ := hB
  rw [ht] at hP1
  obtain ⟨hP, hD⟩ := zn (W2 := [_, _, _]) hP hD hk1 hFc hP1 hD1 [0, 1, 2] [] [false, false, false] [0, 1, 2] (by decide +kernel) rfl rfl rfl rfl rfl
  clear hk1 hPc hDc hFc hP1 hD1 ht
  have b9_1 : nxt n i < cap := by omega
  have b9_2 : cap < 2147483648 := by omega
  refine z_iald hx hb hK hP 1 0 rfl rfl (e := nxt n i) rfl b9_1 b9_2 dX7_isEdgeFree_11 ?_
  refine lv_aload_n hx hb dX7_isEdgeFree_12 rfl (lv_at hl 0 rfl) ?_
  refine va_get (D := (dC, dI)) (ci := 6) (v := .ref ry) (C := RX7) (T := TX7) (N := 4) hx hb hts inX7 hown hK hP 0 rfl rfl 1 (Nat.le_of_ble_eq_true rfl) (hts _ mw_168) (fun _ h9 => h9) rfl dX7_isEdgeFree_13 ?_
  refine lv_aload_n hx hb dX7_isEdgeFree_16 rfl (lv_at hl 0 rfl) ?_
  refine lv_iload_n hx hb dX7_isEdgeFree_17 rfl (lv_at hl 1 rfl) ?_
  obtain ⟨hPc, hDc, hFc⟩ := zo_sub (wc := [_, _, _]) hP hD hS hA [0, 1, 2] rfl rfl
  refine zcall (st1 := [.int (nI (nxt n i)), .ref ry, .int (X (nxt n i)), .int (nI i), .ref r]) (va_runV (As := [.int (nI i)]) (rest := [.ref ry, .int (X (nxt n i)), .int (nI i), .ref r]) ⟨hx, hb, hml, hown, hts⟩ (k_Row_next l dC dI cI cZ cF H.size r rx ry n cap X Y rg i (by first | with_reducible assumption | omega) (by first | with_reducible assumption | omega) (by first | with_reducible assumption | omega)) (csV_6 hts rfl rfl ⟨Nat.le_of_ble_eq_true rfl, Nat.le_of_ble_eq_true rfl⟩) (zPV2 (q0 := 0) (ci := 6) hPc hDc hK hXN rfl rfl) rfl rfl hl.1 rfl (lv_room (Nat.le_of_ble_eq_true rfl)) dX7_isEdgeFree_18 ⟨Nat.le_of_ble_eq_true rfl, Nat.le_of_ble_eq_true rfl⟩) hS hFc hFc rfl (fun t H locs ht hB hk1 hS => ?_)
  obtain ⟨hP1, hD1⟩ := hB
  rw [ht] at hP1
  obtain ⟨hP, hD⟩ := zn (W2 := [_, _, _]) hP hD hk1 hFc hP1 hD1 [0, 1, 2] [] [false, false, false] [0, 1, 2] (by decide +kernel) rfl rfl rfl rfl rfl
  clear hk1 hPc hDc hFc hP1 hD1 ht
  refine z_iald hx hb hK hP 2 0 rfl rfl (e := nxt n i) rfl b9_1 b9_2 dX7_isEdgeFree_21 ?_
  obtain ⟨hPc, hDc, hFc⟩ := zo_sub (wc := [_, _, _]) hP hD hS hA [0, 1, 2] rfl rfl
  refine zcall (st1 := [.int (pI ((X i).toInt = (X (nxt n i)).toInt ∧ (Y i).toInt = (Y (nxt n i)).toInt))]) (va_runV (As := [.int (nI i), .int (X (nxt n i)), .int (Y (nxt n i))]) (rest := []) ⟨hx, hb, hml, hown, hts⟩ (k_Row_isCorner l dC dI cI cZ cF H.size r rx ry n cap X Y rg i (X (nxt n i)) (Y (nxt n i)) (by first | with_reducible assumption | omega) (by first | with_reducible assumption | omega) (by first | with_reducible assumption | omega)) (csV_7 hts rfl rfl ⟨Nat.le_of_ble_eq_true rfl, Nat.le_of_ble_eq_true rfl⟩) (zPV2 (q0 := 0) (ci := 6) hPc hDc hK hXN rfl rfl) rfl rfl hl.1 rfl (lv_room (Nat.le_of_ble_eq_true rfl)) dX7_isEdgeFree_22 ⟨Nat.le_of_ble_eq_true rfl, Nat.le_of_ble_eq_true rfl⟩) hS hFc hFc rfl (fun t H locs ht hB hk1 hS => ?_)
  obtain ⟨hP1, hD1⟩ := hB
  rw [ht] at hP1
  obtain ⟨hP, hD⟩ := zn (W2 := [_, _, _]) hP hD hk1 hFc hP1 hD1 [0, 1, 2] [] [false, false, false] [0, 1, 2] (by decide +kernel) rfl rfl rfl rfl rfl
  clear hk1 hPc hDc hFc hP1 hD1 ht
  refine lv_if_eq (tgt := 30) hx hb dX7_isEdgeFree_25 rfl (fun c_3 => ?_) (fun c_3 => ?_)
  · have c_3 : ¬ ((X i).toInt = (X (nxt n i)).toInt ∧ (Y i).toInt = (Y (nxt n i)).toInt) := zp_0 c_3
    refine lv_iload_n hx hb dX7_isEdgeFree_30 rfl (lv_at hl 2 rfl) ?_
    refine lv_istore_n (lv' := [(3, .int (nI f)), (0, .ref r), (1, .int (nI i)), (2, .int (nI f))]) hx hb dX7_isEdgeFree_31 rfl hl (Nat.le_of_ble_eq_true rfl) rfl (fun ls hl => ?_)
    have hl_32 : ∀ (n9 : Nat) (j : Nat) (H : Heap) (locs : List Loc) (ls : Array Slot), edg n rg - j < n9 → (j ≤ n) → (f ≤ j) → (∀ q, f ≤ q → q < j → q ≠ i → (nxt n i = q → ¬ eFd n X Y q) ∧ (nxt n i ≠ q → nxt n q = i → ¬ eFd n X Y i) ∧ (nxt n i ≠ q → nxt n q ≠ i → ¬ eMt n X Y i n X Y q)) → va_P (dC, dI) classes [(oc6 r (.ref rx) (.ref ry) (nI n) rg), (oa rx cI cap X), (oa ry cI cap Y)] H → va_D A [(oc6 r (.ref rx) (.ref ry) (nI n) rg), (oa rx cI cap X), (oa ry cI cap Y)] → va_S A s.heap H locs → lv_has ls 5 [(3, .int (nI j)), (0, .ref r), (1, .int (nI i)), (2, .int (nI f))] → W p l e ({ frames := 1, cells := 0, slots := 0, locals := 37 } : Room) s m ([.ref r, .int (nI i), .int (nI f)] : List Value).toArray below meth c H locs 0 0 Q9 (F0 m 32 ls []) := by
      intro n9
      induction n9 with
      | zero => intro j H locs ls hm; exact absurd hm (Nat.not_lt_zero _)
      | succ n9 ih_32 =>
        intro j H locs ls hm hj hfj hall hP hD hS hl
        refine lv_iload_n hx hb dX7_isEdgeFree_32 rfl (lv_at hl 0 rfl) ?_
        refine lv_aload_n hx hb dX7_isEdgeFree_33 rfl (lv_at hl 1 rfl) ?_
        obtain ⟨hPc, hDc, hFc⟩ := zo_sub (wc := [_, _, _]) hP hD hS hA [0, 1, 2] rfl rfl
        refine zcall (st1 := [.int (nI (edg n rg)), .int (nI j)]) (va_runV (As := []) (rest := [.int (nI j)]) ⟨hx, hb, hml, hown, hts⟩ (k_Row_edges l dC dI cI cZ cF H.size r rx ry n cap X Y rg (by first | with_reducible assumption | omega) (by first | with_reducible assumption | omega)) (csV_0 hts rfl rfl ⟨Nat.le_of_ble_eq_true rfl, Nat.le_of_ble_eq_true rfl⟩) (zPV2 (q0 := 0) (ci := 6) hPc hDc hK hXN rfl rfl) rfl rfl hl.1 rfl (lv_room (Nat.le_of_ble_eq_true rfl)) dX7_isEdgeFree_34 ⟨Nat.le_of_ble_eq_true rfl, Nat.le_of_ble_eq_true rfl⟩) hS hFc hFc rfl (fun t H locs ht hB hk1 hS => ?_)
        obtain ⟨hP1, hD1⟩ := hB
        rw [ht] at hP1
        obtain ⟨hP, hD⟩ := zn (W2 := [_, _, _]) hP hD hk1 hFc hP1 hD1 [0, 1, 2] [] [false, false, false] [0, 1, 2] (by decide +kernel) rfl rfl rfl rfl rfl
        clear hk1 hPc hDc hFc hP1 hD1 ht
        have b9_5 : j < 2147483648 := by omega
        have b9_6 : (edg n rg) < 2147483648 := by omega
        refine lv_icmp_ge (tgt := 132) hx hb dX7_isEdgeFree_37 rfl (fun c_4 => ?_) (fun c_4 => ?_)
        · have c_4 : ((edg n rg : Nat) : Int) ≤ ((j : Nat) : Int) := zc_le (nI_toInt b9_6) (nI_toInt b9_5) c_4
          refine lv_iconst (v := 1) hx hb dX7_isEdgeFree_132 rfl ?_
          obtain ⟨hP9, hD9⟩ := zu_sub (wc := [_, _, _]) hP hD [true, true, true] rfl rfl
          rw [hQ9]
          exact W.zret (ty := .boolean) (v := 1) hx hb hr (rfl) (fun t ht hW => ⟨⟨congrArg (fun z => Outcome.returned (some (Value.int z))) (show (1 : Int32) = pI (eFr n X Y rg i f) from (zp_t (⟨by assumption, fun q h1 h2 h3 => hall q h1 (by omega) h3⟩)).symm), by rw [ht]; exact hP9, hD9⟩, hS.F ht⟩) hS.2.2 dX7_isEdgeFree_133
        · have c_4 : ((j : Nat) : Int) < ((edg n rg : Nat) : Int) := zc_nle (nI_toInt b9_6) (nI_toInt b9_5) c_4
          have hnj := nxt_lt (n := n) (i := j) (by omega)
          have hjn : j < n := (by omega)
          refine lv_iload_n hx hb dX7_isEdgeFree_40 rfl (lv_at hl 0 rfl) ?_
          refine lv_iload_n hx hb dX7_isEdgeFree_41 rfl (lv_at hl 2 rfl) ?_
          have b9_8 : i < 2147483648 := by omega
          refine lv_icmp_ne (tgt := 48) hx hb dX7_isEdgeFree_42 rfl (fun c_7 => ?_) (fun c_7 => ?_)
          · have c_7 : ¬ ((j : Nat) : Int) = ((i : Nat) : Int) := zc_ne (nI_toInt b9_5) (nI_toInt b9_8) c_7
            refine lv_aload_n hx hb dX7_isEdgeFree_48 rfl (lv_at hl 1 rfl) ?_
            refine lv_iload_n hx hb dX7_isEdgeFree_49 rfl (lv_at hl 2 rfl) ?_
            obtain ⟨hPc, hDc, hFc⟩ := zo_sub (wc := [_, _, _]) hP hD hS hA [0, 1, 2] rfl rfl
            refine zcall (st1 := [.int (nI (nxt n i))]) (va_runV (As := [.int (nI i)]) (rest := []) ⟨hx, hb, hml, hown, hts⟩ (k_Row_next l dC dI cI cZ cF H.size r rx ry n cap X Y rg i (by first | with_reducible assumption | omega) (by first | with_reducible assumption | omega) (by first | with_reducible assumption | omega)) (csV_6 hts rfl rfl ⟨Nat.le_of_ble_eq_true rfl, Nat.le_of_ble_eq_true rfl⟩) (zPV2 (q0 := 0) (ci := 6) hPc hDc hK hXN rfl rfl) rfl rfl hl.1 rfl (lv_room (Nat.le_of_ble_eq_true rfl)) dX7_isEdgeFree_50 ⟨Nat.le_of_ble_eq_true rfl, Nat.le_of_ble_eq_true rfl⟩) hS hFc hFc rfl (fun t H locs ht hB hk1 hS => ?_)
            obtain ⟨hP1, hD1⟩ := hB
            rw [ht] at hP1
            obtain ⟨hP, hD⟩ := zn (W2 := [_, _, _]) hP hD hk1 hFc hP1 hD1 [0, 1, 2] [] [false, false, false] [0, 1, 2] (by decide +kernel) rfl rfl rfl rfl rfl
            clear hk1 hPc hDc hFc hP1 hD1 ht
            refine lv_iload_n hx hb dX7_isEdgeFree_53 rfl (lv_at hl 0 rfl) ?_
            have b9_10 : (nxt n i) < 2147483648 := by omega
            refine lv_icmp_ne (tgt := 75) hx hb dX7_isEdgeFree_54 rfl (fun c_9 => ?_) (fun c_9 => ?_)
            · have c_9 : ¬ ((nxt n i : Nat) : Int) = ((j : Nat) : Int) := zc_ne (nI_toInt b9_10) (nI_toInt b9_5) c_9
              refine lv_aload_n hx hb dX7_isEdgeFree_75 rfl (lv_at hl 1 rfl) ?_
              refine lv_iload_n hx hb dX7_isEdgeFree_76 rfl (lv_at hl 0 rfl) ?_
              obtain ⟨hPc, hDc, hFc⟩ := zo_sub (wc := [_, _, _]) hP hD hS hA [0, 1, 2] rfl rfl
              refine zcall (st1 := [.int (nI (nxt n j))]) (va_runV (As := [.int (nI j)]) (rest := []) ⟨hx, hb, hml, hown, hts⟩ (k_Row_next l dC dI cI cZ cF H.size r rx ry n cap X Y rg j (by first | with_reducible assumption | omega) (by first | with_reducible assumption | omega) (by first | with_reducible assumption | omega)) (csV_6 hts rfl rfl ⟨Nat.le_of_ble_eq_true rfl, Nat.le_of_ble_eq_true rfl⟩) (zPV2 (q0 := 0) (ci := 6) hPc hDc hK hXN rfl rfl) rfl rfl hl.1 rfl (lv_room (Nat.le_of_ble_eq_true rfl)) dX7_isEdgeFree_77 ⟨Nat.le_of_ble_eq_true rfl, Nat.le_of_ble_eq_true rfl⟩) hS hFc hFc rfl (fun t H locs ht hB hk1 hS => ?_)
              obtain ⟨hP1, hD1⟩ := hB
              rw [ht] at hP1
              obtain ⟨hP, hD⟩ := zn (W2 := [_, _, _]) hP hD hk1 hFc hP1 hD1 [0, 1, 2] [] [false, false, false] [0, 1, 2] (by decide +kernel) rfl rfl rfl rfl rfl
              clear hk1 hPc hDc hFc hP1 hD1 ht
              refine lv_iload_n hx hb dX7_isEdgeFree_80 rfl (lv_at hl 2 rfl) ?_
              have b9_12 : (nxt n j) < 2147483648 := by omega
              refine lv_icmp_ne (tgt := 102) hx hb dX7_isEdgeFree_81 rfl (fun c_11 => ?_) (fun c_11 => ?_)
              · have c_11 : ¬ ((nxt n j : Nat) : Int) = ((i : Nat) : Int) := zc_ne (nI_toInt b9_12) (nI_toInt b9_8) c_11
                refine lv_aload_n hx hb dX7_isEdgeFree_102 rfl (lv_at hl 1 rfl) ?_
                refine lv_iload_n hx hb dX7_isEdgeFree_103 rfl (lv_at hl 2 rfl) ?_
                refine lv_aload_n hx hb dX7_isEdgeFree_104 rfl (lv_at hl 1 rfl) ?_
                refine lv_iload_n hx hb dX7_isEdgeFree_105 rfl (lv_at hl 0 rfl) ?_
                obtain ⟨hPc, hDc, hFc⟩ := zo_sub (wc := [_, _, _]) hP hD hS hA [0, 1, 2] rfl rfl
                refine zcall (st1 := [.int (pI (eMt n X Y i n X Y j))]) (va_runV (As := [.int (nI i), .ref r, .int (nI j)]) (rest := []) ⟨hx, hb, hml, hown, hts⟩ (k_Row_partsMeet_self l dC dI cI cZ cF H.size r rx ry n cap X Y rg i j (by first | with_reducible assumption | omega) (by first | with_reducible assumption | omega) (by first | with_reducible assumption | assumption) (by first | with_reducible assumption | omega) (by first | with_reducible assumption | omega)) (csV_4 hts rfl rfl ⟨Nat.le_of_ble_eq_true rfl, Nat.le_of_ble_eq_true rfl⟩) (zPV2 (q0 := 0) (ci := 6) hPc hDc hK hXN rfl rfl) rfl rfl hl.1 rfl (lv_room (Nat.le_of_ble_eq_true rfl)) dX7_isEdgeFree_106 ⟨Nat.le_of_ble_eq_true rfl, Nat.le_of_ble_eq_true rfl⟩) hS hFc hFc rfl (fun t H locs ht hB hk1 hS => ?_)
                obtain ⟨hP1, hD1⟩ := hB
                rw [ht] at hP1
                obtain ⟨hP, hD⟩ := zn (W2 := [_, _, _]) hP hD hk1 hFc hP1 hD1 [0, 1, 2] [] [false, false, false] [0, 1, 2] (by decide +kernel) rfl rfl rfl rfl rfl
                clear hk1 hPc hDc hFc hP1 hD1 ht
                refine lv_if_ne (tgt := 116) hx hb dX7_isEdgeFree_109 rfl (fun c_13 => ?_) (fun c_13 => ?_)
                · have c_13 : eMt n X Y i n X Y j := zp_1 c_13
                  refine lv_iconst (v := 0) hx hb dX7_isEdgeFree_116 rfl ?_
                  refine lv_istore (lv' := [(4, .int 0), (3, .int (nI j)), (0, .ref r), (1, .int (nI i)), (2, .int (nI f))]) hx hb dX7_isEdgeFree_117 hl (Nat.le_of_ble_eq_true rfl) rfl (fun ls hl => ?_)
                  refine lv_iload hx hb dX7_isEdgeFree_119 (lv_at hl 0 rfl) ?_
                  refine lv_if_ne (tgt := 126) hx hb dX7_isEdgeFree_121 rfl (fun c_14 => ?_) (fun c_14 => ?_)
                  · exact absurd (by decide) c_14
                  · refine lv_iconst (v := 0) hx hb dX7_isEdgeFree_124 rfl ?_
                    obtain ⟨hP9, hD9⟩ := zu_sub (wc := [_, _, _]) hP hD [true, true, true] rfl rfl
                    rw [hQ9]
                    exact W.zret (ty := .boolean) (v := 0) hx hb hr (rfl) (fun t ht hW => ⟨⟨congrArg (fun z => Outcome.returned (some (Value.int z))) (show (0 : Int32) = pI (eFr n X Y rg i f) from (zp_f (fun h => by have h9 := h.2 j (by omega) (by omega) (by omega); have h91 := h9.1; have h92 := h9.2.1; have h93 := h9.2.2; first | exact h91 (by omega) (by first | with_reducible assumption | assumption) | exact h92 (by omega) (by omega) (by first | with_reducible assumption | assumption) | exact h93 (by omega) (by omega) (by first | with_reducible assumption | assumption))).symm), by rw [ht]; exact hP9, hD9⟩, hS.F ht⟩) hS.2.2 dX7_isEdgeFree_125
                · have c_13 : ¬ (eMt n X Y i n X Y j) := zp_0 c_13
                  refine lv_iconst (v := 1) hx hb dX7_isEdgeFree_112 rfl ?_
                  refine lv_goto (tgt := 117) hx hb dX7_isEdgeFree_113 rfl ?_
                  refine lv_istore (lv' := [(4, .int 1), (3, .int (nI j)), (0, .ref r), (1, .int (nI i)), (2, .int (nI f))]) hx hb dX7_isEdgeFree_117 hl (Nat.le_of_ble_eq_true rfl) rfl (fun ls hl => ?_)
                  refine lv_iload hx hb dX7_isEdgeFree_119 (lv_at hl 0 rfl) ?_
                  refine lv_if_ne (tgt := 126) hx hb dX7_isEdgeFree_121 rfl (fun c_15 => ?_) (fun c_15 => ?_)
                  · refine lv_iinc (v := nI (j + 1)) (lv' := [(3, .int (nI (j + 1))), (4, .int 1), (0, .ref r), (1, .int (nI i)), (2, .int (nI f))]) hx hb dX7_isEdgeFree_126 hl (k := 1) rfl (nI_add j 1) (Nat.le_of_ble_eq_true rfl) rfl (fun ls hl => ?_)
                    refine lv_goto (tgt := 32) hx hb dX7_isEdgeFree_129 rfl ?_
                    exact ih_32 (j + 1) H locs ls (by first | with_reducible assumption | omega) (by first | with_reducible assumption | omega) (by first | with_reducible assumption | omega) (by intro q h1 h2 h3; rcases Nat.lt_or_ge q j with h | h; exact hall q h1 h h3; have e9 : q = j := (by first | with_reducible assumption | omega); subst e9; first | (exact absurd (by first | with_reducible assumption | omega) h3) | (refine ⟨fun h => ?_, fun h h4 => ?_, fun h h4 => ?_⟩ <;> first | assumption | (exfalso; omega))) hP hD hS (lv_sub hl [0, 2, 3, 4] rfl)
                  · exact absurd c_15 (by decide)
              · have c_11 : ((nxt n j : Nat) : Int) = ((i : Nat) : Int) := zc_eq (nI_toInt b9_12) (nI_toInt b9_8) c_11
                refine lv_aload_n hx hb dX7_isEdgeFree_84 rfl (lv_at hl 1 rfl) ?_
                refine lv_iload_n hx hb dX7_isEdgeFree_85 rfl (lv_at hl 2 rfl) ?_
                obtain ⟨hPc, hDc, hFc⟩ := zo_sub (wc := [_, _, _]) hP hD hS hA [0, 1, 2] rfl rfl
                refine zcall (st1 := [.int (pI (eFd n X Y i))]) (va_runV (As := [.int (nI i)]) (rest := []) ⟨hx, hb, hml, hown, hts⟩ (k_Row_foldsBack l dC dI cI cZ cF H.size r rx ry n cap X Y rg i (by first | with_reducible assumption | omega) (by first | with_reducible assumption | omega) (by first | with_reducible assumption | assumption) (by first | with_reducible assumption | omega)) (csV_8 hts rfl rfl ⟨Nat.le_of_ble_eq_true rfl, Nat.le_of_ble_eq_true rfl⟩) (zPV2 (q0 := 0) (ci := 6) hPc hDc hK hXN rfl rfl) rfl rfl hl.1 rfl (lv_room (Nat.le_of_ble_eq_true rfl)) dX7_isEdgeFree_86 ⟨Nat.le_of_ble_eq_true rfl, Nat.le_of_ble_eq_true rfl⟩) hS hFc hFc rfl (fun t H locs ht hB hk1 hS => ?_)
                obtain ⟨hP1, hD1⟩ := hB
                rw [ht] at hP1
                obtain ⟨hP, hD⟩ := zn (W2 := [_, _, _]) hP hD hk1 hFc hP1 hD1 [0, 1, 2] [] [false, false, false] [0, 1, 2] (by decide +kernel) rfl rfl rfl rfl rfl
                clear hk1 hPc hDc hFc hP1 hD1 ht
                refine lv_if_ne (tgt := 96) hx hb dX7_isEdgeFree_89 rfl (fun c_16 => ?_) (fun c_16 => ?_)
                · have c_16 : eFd n X Y i := zp_1 c_16
                  refine lv_iconst (v := 0) hx hb dX7_isEdgeFree_96 rfl ?_
                  refine lv_istore (lv' := [(4, .int 0), (3, .int (nI j)), (0, .ref r), (1, .int (nI i)), (2, .int (nI f))]) hx hb dX7_isEdgeFree_97 hl (Nat.le_of_ble_eq_true rfl) rfl (fun ls hl => ?_)
                  refine lv_goto (tgt := 119) hx hb dX7_isEdgeFree_99 rfl ?_
                  refine lv_iload hx hb dX7_isEdgeFree_119 (lv_at hl 0 rfl) ?_
                  refine lv_if_ne (tgt := 126) hx hb dX7_isEdgeFree_121 rfl (fun c_17 => ?_) (fun c_17 => ?_)
                  · exact absurd (by decide) c_17
                  · refine lv_iconst (v := 0) hx hb dX7_isEdgeFree_124 rfl ?_
                    obtain ⟨hP9, hD9⟩ := zu_sub (wc := [_, _, _]) hP hD [true, true, true] rfl rfl
                    rw [hQ9]
                    exact W.zret (ty := .boolean) (v := 0) hx hb hr (rfl) (fun t ht hW => ⟨⟨congrArg (fun z => Outcome.returned (some (Value.int z))) (show (0 : Int32) = pI (eFr n X Y rg i f) from (zp_f (fun h => by have h9 := h.2 j (by omega) (by omega) (by omega); have h91 := h9.1; have h92 := h9.2.1; have h93 := h9.2.2; first | exact h91 (by omega) (by first | with_reducible assumption | assumption) | exact h92 (by omega) (by omega) (by first | with_reducible assumption | assumption) | exact h93 (by omega) (by omega) (by first | with_reducible assumption | assumption))).symm), by rw [ht]; exact hP9, hD9⟩, hS.F ht⟩) hS.2.2 dX7_isEdgeFree_125
                · have c_16 : ¬ (eFd n X Y i) := zp_0 c_16
                  refine lv_iconst (v := 1) hx hb dX7_isEdgeFree_92 rfl ?_
                  refine lv_goto (tgt := 97) hx hb dX7_isEdgeFree_93 rfl ?_
                  refine lv_istore (lv' := [(4, .int 1), (3, .int (nI j)), (0, .ref r), (1, .int (nI i)), (2, .int (nI f))]) hx hb dX7_isEdgeFree_97 hl (Nat.le_of_ble_eq_true rfl) rfl (fun ls hl => ?_)
                  refine lv_goto (tgt := 119) hx hb dX7_isEdgeFree_99 rfl ?_
                  refine lv_iload hx hb dX7_isEdgeFree_119 (lv_at hl 0 rfl) ?_
                  refine lv_if_ne (tgt := 126) hx hb dX7_isEdgeFree_121 rfl (fun c_18 => ?_) (fun c_18 => ?_)
                  · refine lv_iinc (v := nI (j + 1)) (lv' := [(3, .int (nI (j + 1))), (4, .int 1), (0, .ref r), (1, .int (nI i)), (2, .int (nI f))]) hx hb dX7_isEdgeFree_126 hl (k := 1) rfl (nI_add j 1) (Nat.le_of_ble_eq_true rfl) rfl (fun ls hl => ?_)
                    refine lv_goto (tgt := 32) hx hb dX7_isEdgeFree_129 rfl ?_
                    exact ih_32 (j + 1) H locs ls (by first | with_reducible assumption | omega) (by first | with_reducible assumption | omega) (by first | with_reducible assumption | omega) (by intro q h1 h2 h3; rcases Nat.lt_or_ge q j with h | h; exact hall q h1 h h3; have e9 : q = j := (by first | with_reducible assumption | omega); subst e9; first | (exact absurd (by first | with_reducible assumption | omega) h3) | (refine ⟨fun h => ?_, fun h h4 => ?_, fun h h4 => ?_⟩ <;> first | assumption | (exfalso; omega))) hP hD hS (lv_sub hl [0, 2, 3, 4] rfl)
                  · exact absurd c_18 (by decide)
            · have c_9 : ((nxt n i : Nat) : Int) = ((j : Nat) : Int) := zc_eq (nI_toInt b9_10) (nI_toInt b9_5) c_9
              refine lv_aload_n hx hb dX7_isEdgeFree_57 rfl (lv_at hl 1 rfl) ?_
              refine lv_iload_n hx hb dX7_isEdgeFree_58 rfl (lv_at hl 0 rfl) ?_
              obtain ⟨hPc, hDc, hFc⟩ := zo_sub (wc := [_, _, _]) hP hD hS hA [0, 1, 2] rfl rfl
              refine zcall (st1 := [.int (pI (eFd n X Y j))]) (va_runV (As := [.int (nI j)]) (rest := []) ⟨hx, hb, hml, hown, hts⟩ (k_Row_foldsBack l dC dI cI cZ cF H.size r rx ry n cap X Y rg j (by first | with_reducible assumption | omega) (by first | with_reducible assumption | omega) (by first | with_reducible assumption | assumption) (by first | with_reducible assumption | omega)) (csV_8 hts rfl rfl ⟨Nat.le_of_ble_eq_true rfl, Nat.le_of_ble_eq_true rfl⟩) (zPV2 (q0 := 0) (ci := 6) hPc hDc hK hXN rfl rfl) rfl rfl hl.1 rfl (lv_room (Nat.le_of_ble_eq_true rfl)) dX7_isEdgeFree_59 ⟨Nat.le_of_ble_eq_true rfl, Nat.le_of_ble_eq_true rfl⟩) hS hFc hFc rfl (fun t H locs ht hB hk1 hS => ?_)
              obtain ⟨hP1, hD1⟩ := hB
              rw [ht] at hP1
              obtain ⟨hP, hD⟩ := zn (W2 := [_, _, _]) hP hD hk1 hFc hP1 hD1 [0, 1, 2] [] [false, false, false] [0, 1, 2] (by decide +kernel) rfl rfl rfl rfl rfl
              clear hk1 hPc hDc hFc hP1 hD1 ht
              refine lv_if_ne (tgt := 69) hx hb dX7_isEdgeFree_62 rfl (fun c_19 => ?_) (fun c_19 => ?_)
              · have c_19 : eFd n X Y j := zp_1 c_19
                refine lv_iconst (v := 0) hx hb dX7_isEdgeFree_69 rfl ?_
                refine lv_istore (lv' := [(4, .int 0), (3, .int (nI j)), (0, .ref r), (1, .int (nI i)), (2, .int (nI f))]) hx hb dX7_isEdgeFree_70 hl (Nat.le_of_ble_eq_true rfl) rfl (fun ls hl => ?_)
                refine lv_goto (tgt := 119) hx hb dX7_isEdgeFree_72 rfl ?_
                refine lv_iload hx hb dX7_isEdgeFree_119 (lv_at hl 0 rfl) ?_
                refine lv_if_ne (tgt := 126) hx hb dX7_isEdgeFree_121 rfl (fun c_20 => ?_) (fun c_20 => ?_)
                · exact absurd (by decide) c_20
                · refine lv_iconst (v := 0) hx hb dX7_isEdgeFree_124 rfl ?_
                  obtain ⟨hP9, hD9⟩ := zu_sub (wc := [_, _, _]) hP hD [true, true, true] rfl rfl
                  rw [hQ9]
                  exact W.zret (ty := .boolean) (v := 0) hx hb hr (rfl) (fun t ht hW => ⟨⟨congrArg (fun z => Outcome.returned (some (Value.int z))) (show (0 : Int32) = pI (eFr n X Y rg i f) from (zp_f (fun h => by have h9 := h.2 j (by omega) (by omega) (by omega); have h91 := h9.1; have h92 := h9.2.1; have h93 := h9.2.2; first | exact h91 (by omega) (by first | with_reducible assumption | assumption) | exact h92 (by omega) (by omega) (by first | with_reducible assumption | assumption) | exact h93 (by omega) (by omega) (by first | with_reducible assumption | assumption))).symm), by rw [ht]; exact hP9, hD9⟩, hS.F ht⟩) hS.2.2 dX7_isEdgeFree_125
              · have c_19 : ¬ (eFd n X Y j) := zp_0 c_19
                refine lv_iconst (v := 1) hx hb dX7_isEdgeFree_65 rfl ?_
                refine lv_goto (tgt := 70) hx hb dX7_isEdgeFree_66 rfl ?_
                refine lv_istore (lv' := [(4, .int 1), (3, .int (nI j)), (0, .ref r), (1, .int (nI i)), (2, .int (nI f))]) hx hb dX7_isEdgeFree_70 hl (Nat.le_of_ble_eq_true rfl) rfl (fun ls hl => ?_)
                refine lv_goto (tgt := 119) hx hb dX7_isEdgeFree_72 rfl ?_
                refine lv_iload hx hb dX7_isEdgeFree_119 (lv_at hl 0 rfl) ?_
                refine lv_if_ne (tgt := 126) hx hb dX7_isEdgeFree_121 rfl (fun c_21 => ?_) (fun c_21 => ?_)
                · refine lv_iinc (v := nI (j + 1)) (lv' := [(3, .int (nI (j + 1))), (4, .int 1), (0, .ref r), (1, .int (nI i)), (2, .int (nI f))]) hx hb dX7_isEdgeFree_126 hl (k := 1) rfl (nI_add j 1) (Nat.le_of_ble_eq_true rfl) rfl (fun ls hl => ?_)
                  refine lv_goto (tgt := 32) hx hb dX7_isEdgeFree_129 rfl ?_
                  exact ih_32 (j + 1) H locs ls (by first | with_reducible assumption | omega) (by first | with_reducible assumption | omega) (by first | with_reducible assumption | omega) (by intro q h1 h2 h3; rcases Nat.lt_or_ge q j with h | h; exact hall q h1 h h3; have e9 : q = j := (by first | with_reducible assumption | omega); subst e9; first | (exact absurd (by first | with_reducible assumption | omega) h3) | (refine ⟨fun h => ?_, fun h h4 => ?_, fun h h4 => ?_⟩ <;> first | assumption | (exfalso; omega))) hP hD hS (lv_sub hl [0, 2, 3, 4] rfl)
                · exact absurd c_21 (by decide)
          · have c_7 : ((j : Nat) : Int) = ((i : Nat) : Int) := zc_eq (nI_toInt b9_5) (nI_toInt b9_8) c_7
            refine lv_goto (tgt := 126) hx hb dX7_isEdgeFree_45 rfl ?_
            refine lv_iinc (v := nI (j + 1)) (lv' := [(3, .int (nI (j + 1))), (0, .ref r), (1, .int (nI i)), (2, .int (nI f))]) hx hb dX7_isEdgeFree_126 hl (k := 0) rfl (nI_add j 1) (Nat.le_of_ble_eq_true rfl) rfl (fun ls hl => ?_)
            refine lv_goto (tgt := 32) hx hb dX7_isEdgeFree_129 rfl ?_
            exact ih_32 (j + 1) H locs ls (by first | with_reducible assumption | omega) (by first | with_reducible assumption | omega) (by first | with_reducible assumption | omega) (by intro q h1 h2 h3; rcases Nat.lt_or_ge q j with h | h; exact hall q h1 h h3; have e9 : q = j := (by first | with_reducible assumption | omega); subst e9; first | (exact absurd (by first | with_reducible assumption | omega) h3) | (refine ⟨fun h => ?_, fun h h4 => ?_, fun h h4 => ?_⟩ <;> first | assumption | (exfalso; omega))) hP hD hS (lv_sub hl [0, 1, 2, 3] rfl)
    exact hl_32 _ f H locs ls (Nat.lt_succ_self _) (by first | with_reducible assumption | omega) (by first | with_reducible assumption | omega) (by intro q h1 h2; omega) hP hD hS (lv_sub hl [0, 1, 2, 3] rfl)
  · have c_3 : (X i).toInt = (X (nxt n i)).toInt ∧ (Y i).toInt = (Y (nxt n i)).toInt := zp_1 c_3
    refine lv_iconst (v := 0) hx hb dX7_isEdgeFree_28 rfl ?_
    obtain ⟨hP9, hD9⟩ := zu_sub (wc := [_, _, _]) hP hD [true, true, true] rfl rfl
    rw [hQ9]
    exact W.zret (ty := .boolean) (v := 0) hx hb hr (rfl) (fun t ht hW => ⟨⟨congrArg (fun z => Outcome.returned (some (Value.int z))) (show (0 : Int32) = pI (eFr n X Y rg i f) from (zp_f (fun h => h.1 (by first | with_reducible assumption | assumption))).symm), by rw [ht]; exact hP9, hD9⟩, hS.F ht⟩) hS.2.2 dX7_isEdgeFree_29
set_option maxHeartbeats 4000000 in
set_option maxRecDepth 100000 in
theorem k_Row_isSound (l : Launch) (dC : Nat → ClassId) (dI : Nat → Nat → Nat) (cI cZ cF : ClassId) (sz : Nat) (r : Nat) (rx : Nat) (ry : Nat) (n : Nat) (cap : Nat) (X : Nat → Int32) (Y : Nat → Int32) (rg : Int32) (kd : Int32) (hn : n ≤ cap) (hcap : cap ≤ 1000) (hp : pls n X Y) : zM l yX7_isSound cX7_isSound 3 (some .boolean) ({ frames := 2, cells := 0, slots := 0, locals := 61 } : Room) [.ref r, .int kd] (dC, dI) (zTy cI cZ cF) [(oc6 r (.ref rx) (.ref ry) (nI n) rg), (oa rx cI cap X), (oa ry cI cap Y)] sz (some (.int (pI ((∀ i, i < edg n rg → eFr n X Y rg i (i + 1)) ∧ (¬ kd.toInt = 6 ∨ ∀ k, k < n → eRt n X Y k))))) (fun A t => zPD (dC, dI) classes A [(oc6 r (.ref rx) (.ref ry) (nI n) rg), (oa rx cI cap X), (oa ry cI cap Y)] t.heap) 0 0 := by
  refine zIn (own := "ScaleShop$Row") (loc := [(0, .ref r), (1, .int kd)]) rfl rfl rfl rfl (fun p e s m below meth c hx hb hr hts hown hlocks hml hnm9 A hA hS hP hD hK hXN Q9 hQ9 ls hl => ?_)
  have hle := edg_le n rg
  refine lv_iconst (v := 0) hx hb dX7_isSound_0 rfl ?_
  refine lv_istore_n (lv' := [(2, .int 0), (0, .ref r), (1, .int kd)]) hx hb dX7_isSound_1 rfl hl (Nat.le_of_ble_eq_true rfl) rfl (fun ls hl => ?_)
  have hl_2 : ∀ (n9 : Nat) (i : Nat) (H : Heap) (locs : List Loc) (ls : Array Slot), edg n rg - i < n9 → (i ≤ edg n rg) → (∀ j, j < i → eFr n X Y rg j (j + 1)) → va_P (dC, dI) classes [(oc6 r (.ref rx) (.ref ry) (nI n) rg), (oa rx cI cap X), (oa ry cI cap Y)] H → va_D A [(oc6 r (.ref rx) (.ref ry) (nI n) rg), (oa rx cI cap X), (oa ry cI cap Y)] → va_S A s.heap H locs → lv_has ls 3 [(2, .int (nI i)), (0, .ref r), (1, .int kd)] → W p l e ({ frames := 2, cells := 0, slots := 0, locals := 61 } : Room) s m ([.ref r, .int kd] : List Value).toArray below meth c H locs 0 0 Q9 (F0 m 2 ls []) := by
    intro n9
    induction n9 with
    | zero => intro i H locs ls hm; exact absurd hm (Nat.not_lt_zero _)
    | succ n9 ih_2 =>
      intro i H locs ls hm hi hall hP hD hS hl
      refine lv_iload_n hx hb dX7_isSound_2 rfl (lv_at hl 0 rfl) ?_
      refine lv_aload_n hx hb dX7_isSound_3 rfl (lv_at hl 1 rfl) ?_
      obtain ⟨hPc, hDc, hFc⟩ := zo_sub (wc := [_, _, _]) hP hD hS hA [0, 1, 2] rfl rfl
      refine zcall (st1 := [.int (nI (edg n rg)), .int (nI i)]) (va_runV (As := []) (rest := [.int (nI i)]) ⟨hx, hb, hml, hown, hts⟩ (k_Row_edges l dC dI cI cZ cF H.size r rx ry n cap X Y rg (by first | with_reducible assumption | omega) (by first | with_reducible assumption | omega)) (csV_0 hts rfl rfl ⟨Nat.le_of_ble_eq_true rfl, Nat.le_of_ble_eq_true rfl⟩) (zPV2 (q0 := 0) (ci := 6) hPc hDc hK hXN rfl rfl) rfl rfl hl.1 rfl (lv_room (Nat.le_of_ble_eq_true rfl)) dX7_isSound_4 ⟨Nat.le_of_ble_eq_true rfl, Nat.le_of_ble_eq_true rfl⟩) hS hFc hFc rfl (fun t H locs ht hB hk1 hS => ?_)
      obtain ⟨hP1, hD1⟩ := hB
      rw [ht] at hP1
      obtain ⟨hP, hD⟩ := zn (W2 := [_, _, _]) hP hD hk1 hFc hP1 hD1 [0, 1, 2] [] [false, false, false] [0, 1, 2] (by decide +kernel) rfl rfl rfl rfl rfl
      clear hk1 hPc hDc hFc hP1 hD1 ht
      have b9_2 : i < 2147483648 := by omega
      have b9_3 : (edg n rg) < 2147483648 := by omega
      refine lv_icmp_ge (tgt := 29) hx hb dX7_isSound_7 rfl (fun c_1 => ?_) (fun c_1 => ?_)
      · have c_1 : ((edg n rg : Nat) : Int) ≤ ((i : Nat) : Int) := zc_le (nI_toInt b9_3) (nI_toInt b9_2) c_1
        refine lv_iload_n hx hb dX7_isSound_29 rfl (lv_at hl 2 rfl) ?_
        refine lv_bipush (v := 6) hx hb dX7_isSound_30 rfl ?_
        refine lv_icmp_ne (tgt := 42) hx hb dX7_isSound_32 rfl (fun c_4 => ?_) (fun c_4 => ?_)
        · have c_4 : ¬ kd.toInt = 6 := zc_ne rfl rfl c_4
          refine lv_iconst (v := 1) hx hb dX7_isSound_42 rfl ?_
          refine lv_goto (tgt := 47) hx hb dX7_isSound_43 rfl ?_
          obtain ⟨hP9, hD9⟩ := zu_sub (wc := [_, _, _]) hP hD [true, true, true] rfl rfl
          rw [hQ9]
          exact W.zret (ty := .boolean) (v := 1) hx hb hr (rfl) (fun t ht hW => ⟨⟨congrArg (fun z => Outcome.returned (some (Value.int z))) (show (1 : Int32) = pI ((∀ i, i < edg n rg → eFr n X Y rg i (i + 1)) ∧ (¬ kd.toInt = 6 ∨ ∀ k, k < n → eRt n X Y k)) from (zp_t (by first | exact ⟨fun j hj => hall j (by omega), Or.inl (by omega)⟩ | exact ⟨fun j hj => hall j (by omega), Or.inr (by first | with_reducible assumption | assumption)⟩ | exact fun h => h.2.elim (fun h => h (by omega)) (by first | with_reducible assumption | assumption))).symm), by rw [ht]; exact hP9, hD9⟩, hS.F ht⟩) hS.2.2 dX7_isSound_47
        · have c_4 : kd.toInt = 6 := zc_eq rfl rfl c_4
          refine lv_aload_n hx hb dX7_isSound_35 rfl (lv_at hl 1 rfl) ?_
          obtain ⟨hPc, hDc, hFc⟩ := zo_sub (wc := [_, _, _]) hP hD hS hA [0, 1, 2] rfl rfl
          refine zcall (st1 := [.int (pI (∀ k, k < n → eRt n X Y k))]) (va_runV (As := []) (rest := []) ⟨hx, hb, hml, hown, hts⟩ (k_Row_hasRightAngles l dC dI cI cZ cF H.size r rx ry n cap X Y rg (by first | with_reducible assumption | omega) (by first | with_reducible assumption | omega) (by first | with_reducible assumption | assumption)) (csV_9 hts rfl rfl ⟨Nat.le_of_ble_eq_true rfl, Nat.le_of_ble_eq_true rfl⟩) (zPV2 (q0 := 0) (ci := 6) hPc hDc hK hXN rfl rfl) rfl rfl hl.1 rfl (lv_room (Nat.le_of_ble_eq_true rfl)) dX7_isSound_36 ⟨Nat.le_of_ble_eq_true rfl, Nat.le_of_ble_eq_true rfl⟩) hS hFc hFc rfl (fun t H locs ht hB hk1 hS => ?_)
          obtain ⟨hP1, hD1⟩ := hB
          rw [ht] at hP1
          obtain ⟨hP, hD⟩ := zn (W2 := [_, _, _]) hP hD hk1 hFc hP1 hD1 [0, 1, 2] [] [false, false, false] [0, 1, 2] (by decide +kernel) rfl rfl rfl rfl rfl
          clear hk1 hPc hDc hFc hP1 hD1 ht
          refine lv_if_eq (tgt := 46) hx hb dX7_isSound_39 rfl (fun c_5 => ?_) (fun c_5 => ?_)
          · have c_5 : ¬ (∀ k, k < n → eRt n X Y k) := zp_0 c_5
            refine lv_iconst (v := 0) hx hb dX7_isSound_46 rfl ?_
            obtain ⟨hP9, hD9⟩ := zu_sub (wc := [_, _, _]) hP hD [true, true, true] rfl rfl
            rw [hQ9]
            exact W.zret (ty := .boolean) (v := 0) hx hb hr (rfl) (fun t ht hW => ⟨⟨congrArg (fun z => Outcome.returned (some (Value.int z))) (show (0 : Int32) = pI ((∀ i, i < edg n rg → eFr n X Y rg i (i + 1)) ∧ (¬ kd.toInt = 6 ∨ ∀ k, k < n → eRt n X Y k)) from (zp_f (by first | exact ⟨fun j hj => hall j (by omega), Or.inl (by omega)⟩ | exact ⟨fun j hj => hall j (by omega), Or.inr (by first | with_reducible assumption | assumption)⟩ | exact fun h => h.2.elim (fun h => h (by omega)) (by first | with_reducible assumption | assumption))).symm), by rw [ht]; exact hP9, hD9⟩, hS.F ht⟩) hS.2.2 dX7_isSound_47
          · have c_5 : ∀ k, k < n → eRt n X Y k := zp_1 c_5
            refine lv_iconst (v := 1) hx hb dX7_isSound_42 rfl ?_
            refine lv_goto (tgt := 47) hx hb dX7_isSound_43 rfl ?_
            obtain ⟨hP9, hD9⟩ := zu_sub (wc := [_, _, _]) hP hD [true, true, true] rfl rfl
            rw [hQ9]
            exact W.zret (ty := .boolean) (v := 1) hx hb hr (rfl) (fun t ht hW => ⟨⟨congrArg (fun z => Outcome.returned (some (Value.int z))) (show (1 : Int32) = pI ((∀ i, i < edg n rg → eFr n X Y rg i (i + 1)) ∧ (¬ kd.toInt = 6 ∨ ∀ k, k < n → eRt n X Y k)) from (zp_t (by first | exact ⟨fun j hj => hall j (by omega), Or.inl (by omega)⟩ | exact ⟨fun j hj => hall j (by omega), Or.inr (by first | with_reducible assumption | assumption)⟩ | exact fun h => h.2.elim (fun h => h (by omega)) (by first | with_reducible assumption | assumption))).symm), by rw [ht]; exact hP9, hD9⟩, hS.F ht⟩) hS.2.2 dX7_isSound_47
      · have c_1 : ((i : Nat) : Int) < ((edg n rg : Nat) : Int) := zc_nle (nI_toInt b9_3) (nI_toInt b9_2) c_1
        refine lv_aload_n hx hb dX7_isSound_10 rfl (lv_at hl 1 rfl) ?_
        refine lv_iload_n hx hb dX7_isSound_11 rfl (lv_at hl 0 rfl) ?_
        refine lv_iload_n hx hb dX7_isSound_12 rfl (lv_at hl 0 rfl) ?_
        refine lv_iconst (v := 1) hx hb dX7_isSound_13 rfl ?_
        refine lv_iadd hx hb dX7_isSound_14 ?_
        refine zz_i (v := nI (i + 1)) (nI_add i 1) ?_
        obtain ⟨hPc, hDc, hFc⟩ := zo_sub (wc := [_, _, _]) hP hD hS hA [0, 1, 2] rfl rfl
        refine zcall (st1 := [.int (pI (eFr n X Y rg i (i + 1)))]) (va_runV (As := [.int (nI i), .int (nI (i + 1))]) (rest := []) ⟨hx, hb, hml, hown, hts⟩ (k_Row_isEdgeFree l dC dI cI cZ cF H.size r rx ry n cap X Y rg i (i + 1) (by first | with_reducible assumption | omega) (by first | with_reducible assumption | omega) (by first | with_reducible assumption | assumption) (by first | with_reducible assumption | omega) (by first | with_reducible assumption | omega)) (csV_10 hts rfl rfl ⟨Nat.le_of_ble_eq_true rfl, Nat.le_of_ble_eq_true rfl⟩) (zPV2 (q0 := 0) (ci := 6) hPc hDc hK hXN rfl rfl) rfl rfl hl.1 rfl (lv_room (Nat.le_of_ble_eq_true rfl)) dX7_isSound_15 ⟨Nat.le_of_ble_eq_true rfl, Nat.le_of_ble_eq_true rfl⟩) hS hFc hFc rfl (fun t H locs ht hB hk1 hS => ?_)
        obtain ⟨hP1, hD1⟩ := hB
        rw [ht] at hP1
        obtain ⟨hP, hD⟩ := zn (W2 := [_, _, _]) hP hD hk1 hFc hP1 hD1 [0, 1, 2] [] [false, false, false] [0, 1, 2] (by decide +kernel) rfl rfl rfl rfl rfl
        clear hk1 hPc hDc hFc hP1 hD1 ht
        refine lv_if_ne (tgt := 23) hx hb dX7_isSound_18 rfl (fun c_6 => ?_) (fun c_6 => ?_)
        · have c_6 : eFr n X Y rg i (i + 1) := zp_1 c_6
          refine lv_iinc (v := nI (i + 1)) (lv' := [(2, .int (nI (i + 1))), (0, .ref r), (1, .int kd)]) hx hb dX7_isSound_23 hl (k := 0) rfl (nI_add i 1) (Nat.le_of_ble_eq_true rfl) rfl (fun ls hl => ?_)
          refine lv_goto (tgt := 2) hx hb dX7_isSound_26 rfl ?_
          exact ih_2 (i + 1) H locs ls (by first | with_reducible assumption | omega) (by first | with_reducible assumption | omega) (by intro j hj; rcases Nat.lt_or_ge j i with h | h; exact hall j h; have e9 : j = i := (by first | with_reducible assumption | omega); subst e9; assumption) hP hD hS (lv_sub hl [0, 1, 2] rfl)
        · have c_6 : ¬ (eFr n X Y rg i (i + 1)) := zp_0 c_6
          refine lv_iconst (v := 0) hx hb dX7_isSound_21 rfl ?_
          obtain ⟨hP9, hD9⟩ := zu_sub (wc := [_, _, _]) hP hD [true, true, true] rfl rfl
          rw [hQ9]
          exact W.zret (ty := .boolean) (v := 0) hx hb hr (rfl) (fun t ht hW => ⟨⟨congrArg (fun z => Outcome.returned (some (Value.int z))) (show (0 : Int32) = pI ((∀ i, i < edg n rg → eFr n X Y rg i (i + 1)) ∧ (¬ kd.toInt = 6 ∨ ∀ k, k < n → eRt n X Y k)) from (zp_f (fun h => absurd (h.1 i (by omega)) (by first | with_reducible assumption | assumption))).symm), by rw [ht]; exact hP9, hD9⟩, hS.F ht⟩) hS.2.2 dX7_isSound_22
  exact hl_2 _ 0 s.heap [] ls (Nat.lt_succ_self _) (by first | with_reducible assumption | omega) (by intro j hj; omega) hP hD hS (lv_sub hl [0, 1, 2] rfl)
end
