theorem sm_ifd {p : Prop} [Decidable p] {a b : Prop} : (if decide p = true then a else b) ↔ (if p then a else b) := by simp
theorem sm_ifn {p : Prop} [Decidable p] {a b : Prop} : (if decide (¬ p) = true then a else b) ↔ (if p then b else a) := by
  by_cases h : p <;> simp [h]
theorem sm_dd {y pc : Nat} {c : ByteArray} {r : Except DecodeError (Instr × Nat)} (h : sm_cd y = c) (hd : decode c pc = r) : decode (sm_cd y) pc = r := by rw [h]; exact hd
theorem sm_df {y c k : Nat} {r : Option (Nat × Nat)} (h : sm_cy y = c) (hd : sm_fld c k = r) : sm_fld (sm_cy y) k = r := by rw [h]; exact hd
theorem sm_di {y c k : Nat} {r : Option (Nat × Nat)} (h : sm_cy y = c) (hd : sm_inv c k = r) : sm_inv (sm_cy y) k = r := by rw [h]; exact hd
theorem sm_dn {y c k : Nat} {r : Option Nat} (h : sm_cy y = c) (hd : sm_nat c k = r) : sm_nat (sm_cy y) k = r := by rw [h]; exact hd
theorem cd0 : sm_cd 0 = cX0_copyFrom := rfl
theorem cy0 : sm_cy 0 = 0 := rfl
theorem rt0 : sm_rt 0 = none := rfl
theorem cd1 : sm_cd 1 = cX0_post := rfl
theorem cy1 : sm_cy 1 = 0 := rfl
theorem rt1 : sm_rt 1 = none := rfl
theorem cd2 : sm_cd 2 = cX0_postCombined := rfl
theorem cy2 : sm_cy 2 = 0 := rfl
theorem rt2 : sm_rt 2 = none := rfl
theorem cd3 : sm_cd 3 = cX0_countFor := rfl
theorem cy3 : sm_cy 3 = 0 := rfl
theorem rt3 : sm_rt 3 = (some .int) := rfl
theorem cd4 : sm_cd 4 = cX0_gistFor := rfl
theorem cy4 : sm_cy 4 = 0 := rfl
theorem rt4 : sm_rt 4 = (some .int) := rfl
theorem cd5 : sm_cd 5 = cX0_placeOfRank := rfl
theorem cy5 : sm_cy 5 = 0 := rfl
theorem rt5 : sm_rt 5 = (some .int) := rfl
theorem cd6 : sm_cd 6 = cX0_countAhead := rfl
theorem cy6 : sm_cy 6 = 0 := rfl
theorem rt6 : sm_rt 6 = (some .int) := rfl
theorem cd7 : sm_cd 7 = cX0_isAhead := rfl
theorem cy7 : sm_cy 7 = 0 := rfl
theorem rt7 : sm_rt 7 = (some .boolean) := rfl
theorem cd8 : sm_cd 8 = cX0_countCross := rfl
theorem cy8 : sm_cy 8 = 0 := rfl
theorem rt8 : sm_rt 8 = (some .int) := rfl
theorem cd9 : sm_cd 9 = cX1_reset := rfl
theorem cy9 : sm_cy 9 = 1 := rfl
theorem rt9 : sm_rt 9 = none := rfl
theorem cd10 : sm_cd 10 = cX1_takePoints := rfl
theorem cy10 : sm_cy 10 = 1 := rfl
theorem rt10 : sm_rt 10 = (some .boolean) := rfl
theorem cd11 : sm_cd 11 = cX1_takeLink := rfl
theorem cy11 : sm_cy 11 = 1 := rfl
theorem rt11 : sm_rt 11 = (some .boolean) := rfl
theorem cd12 : sm_cd 12 = cX1_takeValue := rfl
theorem cy12 : sm_cy 12 = 1 := rfl
theorem rt12 : sm_rt 12 = (some .boolean) := rfl
theorem cd13 : sm_cd 13 = cX1_takeTask := rfl
theorem cy13 : sm_cy 13 = 1 := rfl
theorem rt13 : sm_rt 13 = (some .boolean) := rfl
theorem cd14 : sm_cd 14 = cX1_takeWorkers := rfl
theorem cy14 : sm_cy 14 = 1 := rfl
theorem rt14 : sm_rt 14 = (some .boolean) := rfl
theorem cd15 : sm_cd 15 = cX1_takeCombined := rfl
theorem cy15 : sm_cy 15 = 1 := rfl
theorem rt15 : sm_rt 15 = (some .boolean) := rfl
theorem cd16 : sm_cd 16 = cX1_canBeLaid := rfl
theorem cy16 : sm_cy 16 = 1 := rfl
theorem rt16 : sm_rt 16 = (some .boolean) := rfl
theorem cd17 : sm_cd 17 = cX1_firstValue := rfl
theorem cy17 : sm_cy 17 = 1 := rfl
theorem rt17 : sm_rt 17 = (some .int) := rfl
theorem cd18 : sm_cd 18 = cX1_linksOf := rfl
theorem cy18 : sm_cy 18 = 1 := rfl
theorem rt18 : sm_rt 18 = (some .int) := rfl
theorem cd19 : sm_cd 19 = cX2_begin := rfl
theorem cy19 : sm_cy 19 = 2 := rfl
theorem rt19 : sm_rt 19 = none := rfl
theorem cd20 : sm_cd 20 = cX2_copyFrom := rfl
theorem cy20 : sm_cy 20 = 2 := rfl
theorem rt20 : sm_rt 20 = none := rfl
theorem cd21 : sm_cd 21 = cX2_isAwake := rfl
theorem cy21 : sm_cy 21 = 2 := rfl
theorem rt21 : sm_rt 21 = (some .boolean) := rfl
theorem cd22 : sm_cd 22 = cX2_countAwake := rfl
theorem cy22 : sm_cy 22 = 2 := rfl
theorem rt22 : sm_rt 22 = (some .int) := rfl
theorem cd23 : sm_cd 23 = cX2_totalValue := rfl
theorem cy23 : sm_cy 23 = 2 := rfl
theorem rt23 : sm_rt 23 = (some .int) := rfl
theorem cd24 : sm_cd 24 = cX2_pointsOf := rfl
theorem cy24 : sm_cy 24 = 2 := rfl
theorem rt24 : sm_rt 24 = (some .int) := rfl
theorem cd25 : sm_cd 25 = cX2_advance := rfl
theorem cy25 : sm_cy 25 = 2 := rfl
theorem rt25 : sm_rt 25 = none := rfl
theorem cd26 : sm_cd 26 = cX2_noteLoads := rfl
theorem cy26 : sm_cy 26 = 2 := rfl
theorem rt26 : sm_rt 26 = none := rfl
theorem cd27 : sm_cd 27 = cX2_workAll := rfl
theorem cy27 : sm_cy 27 = 2 := rfl
theorem rt27 : sm_rt 27 = (some .int) := rfl
theorem cd28 : sm_cd 28 = cX2_deliver := rfl
theorem cy28 : sm_cy 28 = 2 := rfl
theorem rt28 : sm_rt 28 = none := rfl
theorem cd29 : sm_cd 29 = cX2_workForBest := rfl
theorem cy29 : sm_cy 29 = 2 := rfl
theorem rt29 : sm_rt 29 = (some .int) := rfl
theorem cd30 : sm_cd 30 = cX2_workForRank := rfl
theorem cy30 : sm_cy 30 = 2 := rfl
theorem rt30 : sm_rt 30 = (some .int) := rfl
theorem cd31 : sm_cd 31 = cX2_sendAll := rfl
theorem cy31 : sm_cy 31 = 2 := rfl
theorem rt31 : sm_rt 31 = none := rfl
theorem cd32 : sm_cd 32 = cX2_balance := rfl
theorem cy32 : sm_cy 32 = 2 := rfl
theorem rt32 : sm_rt 32 = (some .int) := rfl
theorem cd33 : sm_cd 33 = cX2_heaviestBelow := rfl
theorem cy33 : sm_cy 33 = 2 := rfl
theorem rt33 : sm_rt 33 = (some .int) := rfl
theorem cd34 : sm_cd 34 = cX3_append := rfl
theorem cy34 : sm_cy 34 = 3 := rfl
theorem rt34 : sm_rt 34 = (some .boolean) := rfl
theorem cd35 : sm_cd 35 = cX3_firstFault := rfl
theorem cy35 : sm_cy 35 = 3 := rfl
theorem rt35 : sm_rt 35 = (some .int) := rfl
theorem cd36 : sm_cd 36 = cX3_readItem := rfl
theorem cy36 : sm_cy 36 = 3 := rfl
theorem rt36 : sm_rt 36 = (some .boolean) := rfl
theorem cd37 : sm_cd 37 = cX3_readNumbers := rfl
theorem cy37 : sm_cy 37 = 3 := rfl
theorem rt37 : sm_rt 37 = (some .boolean) := rfl
theorem cd38 : sm_cd 38 = cX3_readNumber := rfl
theorem cy38 : sm_cy 38 = 3 := rfl
theorem rt38 : sm_rt 38 = (some .int) := rfl
theorem cd39 : sm_cd 39 = cX3_isFigure := rfl
theorem cy39 : sm_cy 39 = 3 := rfl
theorem rt39 : sm_rt 39 = (some .boolean) := rfl
theorem cd40 : sm_cd 40 = cX3_letterAt := rfl
theorem cy40 : sm_cy 40 = 3 := rfl
theorem rt40 : sm_rt 40 = (some .int) := rfl
theorem cd41 : sm_cd 41 = cX4_write := rfl
theorem cy41 : sm_cy 41 = 4 := rfl
theorem rt41 : sm_rt 41 = (some .int) := rfl
theorem cd42 : sm_cd 42 = cX4_wipe := rfl
theorem cy42 : sm_cy 42 = 4 := rfl
theorem rt42 : sm_rt 42 = (some .int) := rfl
theorem cd43 : sm_cd 43 = cX4_fault := rfl
theorem cy43 : sm_cy 43 = 4 := rfl
theorem rt43 : sm_rt 43 = (some .int) := rfl
theorem cd44 : sm_cd 44 = cX4_lay := rfl
theorem cy44 : sm_cy 44 = 4 := rfl
theorem rt44 : sm_rt 44 = (some .int) := rfl
theorem cd45 : sm_cd 45 = cX4_step := rfl
theorem cy45 : sm_cy 45 = 4 := rfl
theorem rt45 : sm_rt 45 = (some .int) := rfl
theorem cd46 : sm_cd 46 = cX4_value := rfl
theorem cy46 : sm_cy 46 = 4 := rfl
theorem rt46 : sm_rt 46 = (some .int) := rfl
theorem cd47 : sm_cd 47 = cX4_move := rfl
theorem cy47 : sm_cy 47 = 4 := rfl
theorem rt47 : sm_rt 47 = (some .int) := rfl
theorem cd48 : sm_cd 48 = cX4_combine := rfl
theorem cy48 : sm_cy 48 = 4 := rfl
theorem rt48 : sm_rt 48 = (some .int) := rfl
theorem cd49 : sm_cd 49 = cX4_undo := rfl
theorem cy49 : sm_cy 49 = 4 := rfl
theorem rt49 : sm_rt 49 = (some .int) := rfl
theorem cd50 : sm_cd 50 = cX4_point := rfl
theorem cy50 : sm_cy 50 = 4 := rfl
theorem rt50 : sm_rt 50 = (some .int) := rfl
theorem cd51 : sm_cd 51 = cX4_letter := rfl
theorem cy51 : sm_cy 51 = 4 := rfl
theorem rt51 : sm_rt 51 = (some .int) := rfl
theorem cd52 : sm_cd 52 = cX4_worker := rfl
theorem cy52 : sm_cy 52 = 4 := rfl
theorem rt52 : sm_rt 52 = (some .int) := rfl
theorem cd53 : sm_cd 53 = cX4_sum := rfl
theorem cy53 : sm_cy 53 = 4 := rfl
theorem rt53 : sm_rt 53 = (some .int) := rfl
theorem cd54 : sm_cd 54 = cX4_rest := rfl
theorem cy54 : sm_cy 54 = 4 := rfl
theorem rt54 : sm_rt 54 = (some .int) := rfl
theorem cd55 : sm_cd 55 = cX4_count := rfl
theorem cy55 : sm_cy 55 = 4 := rfl
theorem rt55 : sm_rt 55 = (some .int) := rfl
theorem cd56 : sm_cd 56 = cX4_isPoint := rfl
theorem cy56 : sm_cy 56 = 4 := rfl
theorem rt56 : sm_rt 56 = (some .boolean) := rfl
theorem cd57 : sm_cd 57 = cX4_isWorker := rfl
theorem cy57 : sm_cy 57 = 4 := rfl
theorem rt57 : sm_rt 57 = (some .boolean) := rfl
theorem cd58 : sm_cd 58 = cX4_isOver := rfl
theorem cy58 : sm_cy 58 = 4 := rfl
theorem rt58 : sm_rt 58 = (some .boolean) := rfl
theorem cd59 : sm_cd 59 = cX4_layWhatWasRead := rfl
theorem cy59 : sm_cy 59 = 4 := rfl
theorem rt59 : sm_rt 59 = none := rfl
theorem cd60 : sm_cd 60 = cX4_keepForUndo := rfl
theorem cy60 : sm_cy 60 = 4 := rfl
theorem rt60 : sm_rt 60 = none := rfl
theorem cd61 : sm_cd 61 = cX4_dropOldest := rfl
theorem cy61 : sm_cy 61 = 4 := rfl
theorem rt61 : sm_rt 61 = none := rfl
theorem cd62 : sm_cd 62 = cX4_advanceAtMost := rfl
theorem cy62 : sm_cy 62 = 4 := rfl
theorem rt62 : sm_rt 62 = (some .int) := rfl
theorem cd63 : sm_cd 63 = cX4_rowOfStep := rfl
theorem cy63 : sm_cy 63 = 4 := rfl
theorem rt63 : sm_rt 63 = (some .int) := rfl
theorem cd64 : sm_cd 64 = cX4_together := rfl
theorem cy64 : sm_cy 64 = 4 := rfl
theorem rt64 : sm_rt 64 = (some .int) := rfl
theorem cd65 : sm_cd 65 = cX5_in := rfl
theorem cy65 : sm_cy 65 = 5 := rfl
theorem rt65 : sm_rt 65 = (some .boolean) := rfl
theorem cd66 : sm_cd 66 = cX5_greater := rfl
theorem cy66 : sm_cy 66 = 5 := rfl
theorem rt66 : sm_rt 66 = (some .int) := rfl
theorem cd67 : sm_cd 67 = cX5_lesser := rfl
theorem cy67 : sm_cy 67 = 5 := rfl
theorem rt67 : sm_rt 67 = (some .int) := rfl
theorem cd68 : sm_cd 68 = cX5_write := rfl
theorem cy68 : sm_cy 68 = 5 := rfl
theorem rt68 : sm_rt 68 = (some .int) := rfl
theorem cd69 : sm_cd 69 = cX5_wipe := rfl
theorem cy69 : sm_cy 69 = 5 := rfl
theorem rt69 : sm_rt 69 = (some .int) := rfl
theorem cd70 : sm_cd 70 = cX5_begins := rfl
theorem cy70 : sm_cy 70 = 5 := rfl
theorem rt70 : sm_rt 70 = none := rfl
theorem cd71 : sm_cd 71 = cX5_adds := rfl
theorem cy71 : sm_cy 71 = 5 := rfl
theorem rt71 : sm_rt 71 = none := rfl
theorem cd72 : sm_cd 72 = cX5_isFigure := rfl
theorem cy72 : sm_cy 72 = 5 := rfl
theorem rt72 : sm_rt 72 = (some .boolean) := rfl
theorem cd73 : sm_cd 73 = cX5_isSign := rfl
theorem cy73 : sm_cy 73 = 5 := rfl
theorem rt73 : sm_rt 73 = (some .boolean) := rfl
theorem cd74 : sm_cd 74 = cX5_readsNumbers := rfl
theorem cy74 : sm_cy 74 = 5 := rfl
theorem rt74 : sm_rt 74 = (some .boolean) := rfl
theorem cd75 : sm_cd 75 = cX5_isPoint := rfl
theorem cy75 : sm_cy 75 = 5 := rfl
theorem rt75 : sm_rt 75 = (some .boolean) := rfl
theorem cd76 : sm_cd 76 = cX5_readsLink := rfl
theorem cy76 : sm_cy 76 = 5 := rfl
theorem rt76 : sm_rt 76 = (some .boolean) := rfl
theorem cd77 : sm_cd 77 = cX5_readsPair := rfl
theorem cy77 : sm_cy 77 = 5 := rfl
theorem rt77 : sm_rt 77 = (some .boolean) := rfl
theorem cd78 : sm_cd 78 = cX5_readsItem := rfl
theorem cy78 : sm_cy 78 = 5 := rfl
theorem rt78 : sm_rt 78 = (some .boolean) := rfl
theorem cd79 : sm_cd 79 = cX5_reads := rfl
theorem cy79 : sm_cy 79 = 5 := rfl
theorem rt79 : sm_rt 79 = (some .int) := rfl
theorem cd80 : sm_cd 80 = cX5_fault := rfl
theorem cy80 : sm_cy 80 = 5 := rfl
theorem rt80 : sm_rt 80 = (some .int) := rfl
theorem cd81 : sm_cd 81 = cX5_lay := rfl
theorem cy81 : sm_cy 81 = 5 := rfl
theorem rt81 : sm_rt 81 = (some .int) := rfl
theorem cd82 : sm_cd 82 = cX5_lays := rfl
theorem cy82 : sm_cy 82 = 5 := rfl
theorem rt82 : sm_rt 82 = none := rfl
theorem cd83 : sm_cd 83 = cX5_of := rfl
theorem cy83 : sm_cy 83 = 5 := rfl
theorem rt83 : sm_rt 83 = (some .int) := rfl
theorem cd84 : sm_cd 84 = cX5_put := rfl
theorem cy84 : sm_cy 84 = 5 := rfl
theorem rt84 : sm_rt 84 = none := rfl
theorem cd85 : sm_cd 85 = cX5_letterOf := rfl
theorem cy85 : sm_cy 85 = 5 := rfl
theorem rt85 : sm_rt 85 = (some .int) := rfl
theorem cd86 : sm_cd 86 = cX5_had := rfl
theorem cy86 : sm_cy 86 = 5 := rfl
theorem rt86 : sm_rt 86 = (some .int) := rfl
theorem cd87 : sm_cd 87 = cX5_isAwake := rfl
theorem cy87 : sm_cy 87 = 5 := rfl
theorem rt87 : sm_rt 87 = (some .boolean) := rfl
theorem cd88 : sm_cd 88 = cX5_awake := rfl
theorem cy88 : sm_cy 88 = 5 := rfl
theorem rt88 : sm_rt 88 = (some .int) := rfl
theorem cd89 : sm_cd 89 = cX5_send := rfl
theorem cy89 : sm_cy 89 = 5 := rfl
theorem rt89 : sm_rt 89 = none := rfl
theorem cd90 : sm_cd 90 = cX5_linksOf := rfl
theorem cy90 : sm_cy 90 = 5 := rfl
theorem rt90 : sm_rt 90 = (some .int) := rfl
theorem cd91 : sm_cd 91 = cX5_sendAll := rfl
theorem cy91 : sm_cy 91 = 5 := rfl
theorem rt91 : sm_rt 91 = none := rfl
theorem cd92 : sm_cd 92 = cX5_gathered := rfl
theorem cy92 : sm_cy 92 = 5 := rfl
theorem rt92 : sm_rt 92 = (some .int) := rfl
theorem cd93 : sm_cd 93 = cX5_seeks := rfl
theorem cy93 : sm_cy 93 = 5 := rfl
theorem rt93 : sm_rt 93 = none := rfl
theorem cd94 : sm_cd 94 = cX5_ranks := rfl
theorem cy94 : sm_cy 94 = 5 := rfl
theorem rt94 : sm_rt 94 = none := rfl
theorem cd95 : sm_cd 95 = cX5_go := rfl
theorem cy95 : sm_cy 95 = 5 := rfl
theorem rt95 : sm_rt 95 = none := rfl
theorem cd96 : sm_cd 96 = cX5_values := rfl
theorem cy96 : sm_cy 96 = 5 := rfl
theorem rt96 : sm_rt 96 = (some .int) := rfl
theorem cd97 : sm_cd 97 = cX5_logs := rfl
theorem cy97 : sm_cy 97 = 5 := rfl
theorem rt97 : sm_rt 97 = none := rfl
theorem cd98 : sm_cd 98 = cX5_findLoads := rfl
theorem cy98 : sm_cy 98 = 5 := rfl
theorem rt98 : sm_rt 98 = none := rfl
theorem cd99 : sm_cd 99 = cX5_elsewhere := rfl
theorem cy99 : sm_cy 99 = 5 := rfl
theorem rt99 : sm_rt 99 = (some .int) := rfl
theorem cd100 : sm_cd 100 = cX5_notes := rfl
theorem cy100 : sm_cy 100 = 5 := rfl
theorem rt100 : sm_rt 100 = none := rfl
theorem cd101 : sm_cd 101 = cX5_isThere := rfl
theorem cy101 : sm_cy 101 = 5 := rfl
theorem rt101 : sm_rt 101 = (some .boolean) := rfl
theorem cd102 : sm_cd 102 = cX5_isWorker := rfl
theorem cy102 : sm_cy 102 = 5 := rfl
theorem rt102 : sm_rt 102 = (some .boolean) := rfl
theorem cd103 : sm_cd 103 = cX5_step := rfl
theorem cy103 : sm_cy 103 = 5 := rfl
theorem rt103 : sm_rt 103 = (some .int) := rfl
theorem cd104 : sm_cd 104 = cX5_value := rfl
theorem cy104 : sm_cy 104 = 5 := rfl
theorem rt104 : sm_rt 104 = (some .int) := rfl
theorem cd105 : sm_cd 105 = cX5_move := rfl
theorem cy105 : sm_cy 105 = 5 := rfl
theorem rt105 : sm_rt 105 = (some .int) := rfl
theorem cd106 : sm_cd 106 = cX5_combine := rfl
theorem cy106 : sm_cy 106 = 5 := rfl
theorem rt106 : sm_rt 106 = (some .int) := rfl
theorem cd107 : sm_cd 107 = cX5_undo := rfl
theorem cy107 : sm_cy 107 = 5 := rfl
theorem rt107 : sm_rt 107 = (some .int) := rfl
theorem cd108 : sm_cd 108 = cX5_point := rfl
theorem cy108 : sm_cy 108 = 5 := rfl
theorem rt108 : sm_rt 108 = (some .int) := rfl
theorem cd109 : sm_cd 109 = cX5_rankOf := rfl
theorem cy109 : sm_cy 109 = 5 := rfl
theorem rt109 : sm_rt 109 = (some .int) := rfl
theorem cd110 : sm_cd 110 = cX5_letter := rfl
theorem cy110 : sm_cy 110 = 5 := rfl
theorem rt110 : sm_rt 110 = (some .int) := rfl
theorem cd111 : sm_cd 111 = cX5_worker := rfl
theorem cy111 : sm_cy 111 = 5 := rfl
theorem rt111 : sm_rt 111 = (some .int) := rfl
theorem cd112 : sm_cd 112 = cX5_sum := rfl
theorem cy112 : sm_cy 112 = 5 := rfl
theorem rt112 : sm_rt 112 = (some .int) := rfl
theorem cd113 : sm_cd 113 = cX5_rest := rfl
theorem cy113 : sm_cy 113 = 5 := rfl
theorem rt113 : sm_rt 113 = (some .int) := rfl
theorem cd114 : sm_cd 114 = cX5_count := rfl
theorem cy114 : sm_cy 114 = 5 := rfl
theorem rt114 : sm_rt 114 = (some .int) := rfl
theorem cd115 : sm_cd 115 = cJ6_bitCount_0f7a4 := rfl
theorem cy115 : sm_cy 115 = 6 := rfl
theorem rt115 : sm_rt 115 = (some .int) := rfl
theorem cd116 : sm_cd 116 = cX4_init := rfl
theorem cy116 : sm_cy 116 = 4 := rfl
theorem rt116 : sm_rt 116 = none := rfl
theorem cd117 : sm_cd 117 = cX5_init := rfl
theorem cy117 : sm_cy 117 = 5 := rfl
theorem rt117 : sm_rt 117 = none := rfl
theorem fl0_9 : sm_fld 0 9 = some (0, 1) := by decide +kernel
theorem fl0_15 : sm_fld 0 15 = some (0, 2) := by decide +kernel
theorem fl0_18 : sm_fld 0 18 = some (0, 3) := by decide +kernel
theorem fl0_21 : sm_fld 0 21 = some (0, 0) := by decide +kernel
theorem fl1_9 : sm_fld 1 9 = some (1, 8) := by decide +kernel
theorem fl1_15 : sm_fld 1 15 = some (1, 9) := by decide +kernel
theorem fl1_18 : sm_fld 1 18 = some (1, 10) := by decide +kernel
theorem fl1_21 : sm_fld 1 21 = some (1, 11) := by decide +kernel
theorem fl1_24 : sm_fld 1 24 = some (1, 0) := by decide +kernel
theorem fl1_28 : sm_fld 1 28 = some (1, 1) := by decide +kernel
theorem fl1_31 : sm_fld 1 31 = some (1, 2) := by decide +kernel
theorem fl1_34 : sm_fld 1 34 = some (1, 3) := by decide +kernel
theorem fl1_37 : sm_fld 1 37 = some (1, 4) := by decide +kernel
theorem fl1_40 : sm_fld 1 40 = some (1, 5) := by decide +kernel
theorem fl1_43 : sm_fld 1 43 = some (1, 6) := by decide +kernel
theorem fl1_46 : sm_fld 1 46 = some (1, 7) := by decide +kernel
theorem fl2_9 : sm_fld 2 9 = some (2, 0) := by decide +kernel
theorem fl2_15 : sm_fld 2 15 = some (2, 1) := by decide +kernel
theorem fl2_18 : sm_fld 2 18 = some (2, 2) := by decide +kernel
theorem fl2_21 : sm_fld 2 21 = some (2, 3) := by decide +kernel
theorem fl2_24 : sm_fld 2 24 = some (2, 4) := by decide +kernel
theorem fl2_27 : sm_fld 2 27 = some (2, 5) := by decide +kernel
theorem fl2_30 : sm_fld 2 30 = some (2, 6) := by decide +kernel
theorem fl2_36 : sm_fld 2 36 = some (2, 7) := by decide +kernel
theorem fl2_40 : sm_fld 2 40 = some (2, 8) := by decide +kernel
theorem fl2_49 : sm_fld 2 49 = some (1, 4) := by decide +kernel
theorem fl2_62 : sm_fld 2 62 = some (0, 0) := by decide +kernel
theorem fl2_65 : sm_fld 2 65 = some (2, 9) := by decide +kernel
theorem fl2_68 : sm_fld 2 68 = some (2, 10) := by decide +kernel
theorem fl2_71 : sm_fld 2 71 = some (2, 11) := by decide +kernel
theorem fl2_74 : sm_fld 2 74 = some (1, 6) := by decide +kernel
theorem fl2_77 : sm_fld 2 77 = some (2, 12) := by decide +kernel
theorem fl2_95 : sm_fld 2 95 = some (1, 0) := by decide +kernel
theorem fl2_125 : sm_fld 2 125 = some (1, 2) := by decide +kernel
theorem fl2_149 : sm_fld 2 149 = some (1, 3) := by decide +kernel
theorem fl2_155 : sm_fld 2 155 = some (1, 1) := by decide +kernel
theorem fl2_158 : sm_fld 2 158 = some (1, 8) := by decide +kernel
theorem fl2_161 : sm_fld 2 161 = some (1, 10) := by decide +kernel
theorem fl2_164 : sm_fld 2 164 = some (1, 9) := by decide +kernel
theorem fl2_175 : sm_fld 2 175 = some (1, 5) := by decide +kernel
theorem fl3_9 : sm_fld 3 9 = some (3, 0) := by decide +kernel
theorem fl3_15 : sm_fld 3 15 = some (3, 3) := by decide +kernel
theorem fl3_18 : sm_fld 3 18 = some (3, 1) := by decide +kernel
theorem fl3_27 : sm_fld 3 27 = some (3, 2) := by decide +kernel
theorem fl4_10 : sm_fld 4 10 = some (4, 0) := by decide +kernel
theorem fl4_19 : sm_fld 4 19 = some (4, 1) := by decide +kernel
theorem fl4_23 : sm_fld 4 23 = some (4, 2) := by decide +kernel
theorem fl4_29 : sm_fld 4 29 = some (4, 3) := by decide +kernel
theorem fl4_33 : sm_fld 4 33 = some (4, 4) := by decide +kernel
theorem fl4_36 : sm_fld 4 36 = some (4, 5) := by decide +kernel
theorem fl4_63 : sm_fld 4 63 = some (3, 1) := by decide +kernel
theorem fl4_70 : sm_fld 4 70 = some (1, 0) := by decide +kernel
theorem fl4_87 : sm_fld 4 87 = some (2, 0) := by decide +kernel
theorem fl4_91 : sm_fld 4 91 = some (2, 2) := by decide +kernel
theorem fl4_94 : sm_fld 4 94 = some (2, 3) := by decide +kernel
theorem fl4_100 : sm_fld 4 100 = some (2, 1) := by decide +kernel
theorem fl4_103 : sm_fld 4 103 = some (2, 12) := by decide +kernel
theorem fl4_106 : sm_fld 4 106 = some (2, 7) := by decide +kernel
theorem fl4_110 : sm_fld 4 110 = some (0, 0) := by decide +kernel
theorem fl4_115 : sm_fld 4 115 = some (4, 6) := by decide +kernel
theorem fl4_132 : sm_fld 4 132 = some (2, 4) := by decide +kernel
theorem fl4_139 : sm_fld 4 139 = some (0, 2) := by decide +kernel
theorem fl4_142 : sm_fld 4 142 = some (0, 3) := by decide +kernel
theorem fl4_153 : sm_fld 4 153 = some (2, 5) := by decide +kernel
theorem fl4_156 : sm_fld 4 156 = some (2, 9) := by decide +kernel
theorem fl4_159 : sm_fld 4 159 = some (2, 6) := by decide +kernel
theorem fl4_165 : sm_fld 4 165 = some (2, 10) := by decide +kernel
theorem fl4_171 : sm_fld 4 171 = some (1, 1) := by decide +kernel
theorem fl4_174 : sm_fld 4 174 = some (1, 4) := by decide +kernel
theorem fl4_177 : sm_fld 4 177 = some (1, 2) := by decide +kernel
theorem fl4_183 : sm_fld 4 183 = some (2, 11) := by decide +kernel
theorem fl5_7 : sm_fld 5 7 = some (5, 0) := by decide +kernel
theorem fl5_13 : sm_fld 5 13 = some (5, 1) := by decide +kernel
theorem fl5_16 : sm_fld 5 16 = some (5, 2) := by decide +kernel
theorem fl5_19 : sm_fld 5 19 = some (5, 4) := by decide +kernel
theorem fl5_22 : sm_fld 5 22 = some (5, 7) := by decide +kernel
theorem fl5_25 : sm_fld 5 25 = some (5, 8) := by decide +kernel
theorem fl5_28 : sm_fld 5 28 = some (5, 10) := by decide +kernel
theorem fl5_32 : sm_fld 5 32 = some (5, 11) := by decide +kernel
theorem fl5_49 : sm_fld 5 49 = some (5, 5) := by decide +kernel
theorem fl5_53 : sm_fld 5 53 = some (5, 6) := by decide +kernel
theorem fl5_85 : sm_fld 5 85 = some (5, 3) := by decide +kernel
theorem fl5_102 : sm_fld 5 102 = some (5, 9) := by decide +kernel
theorem iv0_31 : sm_inv 0 31 = some (64, 2) := by decide +kernel
theorem in0_31 : sm_nat 0 31 = none := by decide +kernel
theorem iv0_35 : sm_inv 0 35 = some (1, 0) := by decide +kernel
theorem iv0_39 : sm_inv 0 39 = some (6, 0) := by decide +kernel
theorem iv0_43 : sm_inv 0 43 = some (7, 0) := by decide +kernel
theorem iv2_43 : sm_inv 2 43 = some (17, 0) := by decide +kernel
theorem iv2_84 : sm_inv 2 84 = some (0, 0) := by decide +kernel
theorem iv2_88 : sm_inv 2 88 = some (3, 0) := by decide +kernel
theorem iv2_91 : sm_inv 2 91 = some (21, 0) := by decide +kernel
theorem iv2_98 : sm_inv 2 98 = some (26, 0) := by decide +kernel
theorem iv2_102 : sm_inv 2 102 = some (22, 0) := by decide +kernel
theorem iv2_105 : sm_inv 2 105 = some (27, 0) := by decide +kernel
theorem iv2_109 : sm_inv 2 109 = some (28, 0) := by decide +kernel
theorem iv2_112 : sm_inv 2 112 = some (63, 2) := by decide +kernel
theorem in2_112 : sm_nat 2 112 = none := by decide +kernel
theorem iv2_115 : sm_inv 2 115 = some (8, 0) := by decide +kernel
theorem iv2_119 : sm_inv 2 119 = some (23, 0) := by decide +kernel
theorem iv2_122 : sm_inv 2 122 = some (32, 0) := by decide +kernel
theorem iv2_128 : sm_inv 2 128 = some (30, 0) := by decide +kernel
theorem iv2_132 : sm_inv 2 132 = some (29, 0) := by decide +kernel
theorem iv2_135 : sm_inv 2 135 = some (31, 0) := by decide +kernel
theorem iv2_139 : sm_inv 2 139 = some (4, 0) := by decide +kernel
theorem iv2_142 : sm_inv 2 142 = some (64, 2) := by decide +kernel
theorem in2_142 : sm_nat 2 142 = none := by decide +kernel
theorem iv2_152 : sm_inv 2 152 = some (18, 0) := by decide +kernel
theorem iv2_167 : sm_inv 2 167 = some (2, 0) := by decide +kernel
theorem iv2_171 : sm_inv 2 171 = some (1, 0) := by decide +kernel
theorem iv2_178 : sm_inv 2 178 = some (33, 0) := by decide +kernel
theorem iv3_22 : sm_inv 3 22 = some (9, 0) := by decide +kernel
theorem iv3_30 : sm_inv 3 30 = some (36, 0) := by decide +kernel
theorem iv3_34 : sm_inv 3 34 = some (40, 0) := by decide +kernel
theorem iv3_38 : sm_inv 3 38 = some (37, 0) := by decide +kernel
theorem iv3_42 : sm_inv 3 42 = some (10, 0) := by decide +kernel
theorem iv3_45 : sm_inv 3 45 = some (11, 0) := by decide +kernel
theorem iv3_49 : sm_inv 3 49 = some (12, 0) := by decide +kernel
theorem iv3_53 : sm_inv 3 53 = some (13, 0) := by decide +kernel
theorem iv3_56 : sm_inv 3 56 = some (14, 0) := by decide +kernel
theorem iv3_59 : sm_inv 3 59 = some (15, 0) := by decide +kernel
theorem iv3_62 : sm_inv 3 62 = some (38, 0) := by decide +kernel
theorem iv3_66 : sm_inv 3 66 = some (39, 0) := by decide +kernel
theorem iv4_52 : sm_inv 4 52 = some (34, 0) := by decide +kernel
theorem iv4_56 : sm_inv 4 56 = some (35, 0) := by decide +kernel
theorem iv4_60 : sm_inv 4 60 = some (59, 0) := by decide +kernel
theorem iv4_66 : sm_inv 4 66 = some (16, 0) := by decide +kernel
theorem iv4_73 : sm_inv 4 73 = some (58, 0) := by decide +kernel
theorem iv4_77 : sm_inv 4 77 = some (60, 0) := by decide +kernel
theorem iv4_80 : sm_inv 4 80 = some (62, 0) := by decide +kernel
theorem iv4_84 : sm_inv 4 84 = some (56, 0) := by decide +kernel
theorem iv4_97 : sm_inv 4 97 = some (57, 0) := by decide +kernel
theorem iv4_118 : sm_inv 4 118 = some (20, 0) := by decide +kernel
theorem iv4_122 : sm_inv 4 122 = some (3, 0) := by decide +kernel
theorem iv4_126 : sm_inv 4 126 = some (21, 0) := by decide +kernel
theorem iv4_129 : sm_inv 4 129 = some (18, 0) := by decide +kernel
theorem iv4_135 : sm_inv 4 135 = some (5, 0) := by decide +kernel
theorem iv4_145 : sm_inv 4 145 = some (24, 0) := by decide +kernel
theorem iv4_148 : sm_inv 4 148 = some (115, 1) := by decide +kernel
theorem in4_148 : sm_nat 4 148 = none := by decide +kernel
theorem iv4_162 : sm_inv 4 162 = some (63, 1) := by decide +kernel
theorem in4_162 : sm_nat 4 162 = none := by decide +kernel
theorem iv4_168 : sm_inv 4 168 = some (23, 0) := by decide +kernel
theorem iv4_180 : sm_inv 4 180 = some (22, 0) := by decide +kernel
theorem iv4_186 : sm_inv 4 186 = some (19, 0) := by decide +kernel
theorem iv4_190 : sm_inv 4 190 = some (61, 0) := by decide +kernel
theorem iv4_193 : sm_inv 4 193 = some (25, 0) := by decide +kernel
theorem iv5_35 : sm_inv 5 35 = some (70, 0) := by decide +kernel
theorem iv5_38 : sm_inv 5 38 = some (71, 0) := by decide +kernel
theorem iv5_42 : sm_inv 5 42 = some (82, 0) := by decide +kernel
theorem iv5_45 : sm_inv 5 45 = some (65, 1) := by decide +kernel
theorem in5_45 : sm_nat 5 45 = none := by decide +kernel
theorem iv5_56 : sm_inv 5 56 = some (73, 0) := by decide +kernel
theorem iv5_60 : sm_inv 5 60 = some (72, 0) := by decide +kernel
theorem iv5_64 : sm_inv 5 64 = some (74, 0) := by decide +kernel
theorem iv5_67 : sm_inv 5 67 = some (75, 0) := by decide +kernel
theorem iv5_70 : sm_inv 5 70 = some (76, 0) := by decide +kernel
theorem iv5_73 : sm_inv 5 73 = some (77, 0) := by decide +kernel
theorem iv5_77 : sm_inv 5 77 = some (78, 0) := by decide +kernel
theorem iv5_81 : sm_inv 5 81 = some (79, 0) := by decide +kernel
theorem iv5_88 : sm_inv 5 88 = some (85, 0) := by decide +kernel
theorem iv5_92 : sm_inv 5 92 = some (83, 0) := by decide +kernel
theorem iv5_95 : sm_inv 5 95 = some (86, 0) := by decide +kernel
theorem iv5_99 : sm_inv 5 99 = some (87, 0) := by decide +kernel
theorem iv5_105 : sm_inv 5 105 = some (66, 1) := by decide +kernel
theorem in5_105 : sm_nat 5 105 = none := by decide +kernel
theorem iv5_108 : sm_inv 5 108 = some (67, 1) := by decide +kernel
theorem in5_108 : sm_nat 5 108 = none := by decide +kernel
theorem iv5_111 : sm_inv 5 111 = some (89, 0) := by decide +kernel
theorem iv5_114 : sm_inv 5 114 = some (92, 0) := by decide +kernel
theorem iv5_117 : sm_inv 5 117 = some (84, 0) := by decide +kernel
theorem iv5_120 : sm_inv 5 120 = some (91, 0) := by decide +kernel
theorem iv5_124 : sm_inv 5 124 = some (90, 0) := by decide +kernel
theorem iv5_127 : sm_inv 5 127 = some (94, 0) := by decide +kernel
theorem iv5_131 : sm_inv 5 131 = some (93, 0) := by decide +kernel
theorem iv5_134 : sm_inv 5 134 = some (97, 0) := by decide +kernel
theorem iv5_137 : sm_inv 5 137 = some (98, 0) := by decide +kernel
theorem iv5_140 : sm_inv 5 140 = some (99, 0) := by decide +kernel
theorem iv5_143 : sm_inv 5 143 = some (96, 0) := by decide +kernel
theorem iv5_146 : sm_inv 5 146 = some (88, 0) := by decide +kernel
theorem iv5_149 : sm_inv 5 149 = some (100, 0) := by decide +kernel
theorem iv5_152 : sm_inv 5 152 = some (95, 0) := by decide +kernel
theorem iv5_155 : sm_inv 5 155 = some (101, 0) := by decide +kernel
theorem iv5_158 : sm_inv 5 158 = some (102, 0) := by decide +kernel
theorem iv5_161 : sm_inv 5 161 = some (109, 0) := by decide +kernel
theorem na0_25 : sm_nat 0 25 = some 0 := by decide +kernel
theorem ni0_25 : sm_inv 0 25 = none := by decide +kernel
theorem na2_53 : sm_nat 2 53 = some 1 := by decide +kernel
theorem ni2_53 : sm_inv 2 53 = none := by decide +kernel
theorem na2_59 : sm_nat 2 59 = some 3 := by decide +kernel
theorem ni2_59 : sm_inv 2 59 = none := by decide +kernel
theorem na2_78 : sm_nat 2 78 = some 0 := by decide +kernel
theorem ni2_78 : sm_inv 2 78 = none := by decide +kernel
theorem na2_146 : sm_nat 2 146 = some 2 := by decide +kernel
theorem ni2_146 : sm_inv 2 146 = none := by decide +kernel
theorem na4_196 : sm_nat 4 196 = some 3 := by decide +kernel
theorem ni4_196 : sm_inv 4 196 = none := by decide +kernel
theorem kk6_265 : sm_kst 6 265 = some 1431655765 := by decide +kernel
theorem kk6_266 : sm_kst 6 266 = some 858993459 := by decide +kernel
theorem kk6_267 : sm_kst 6 267 = some 252645135 := by decide +kernel
theorem gf0_0 {f0 f1 f2 f3 : Value} {K : Value → Prop} : sm_gf (oC 0 [f0, f1, f2, f3]) 0 0 K ↔ K f0 := ⟨fun h => h.2, fun h => ⟨rfl, h⟩⟩
theorem pf0_0 {f0 f1 f2 f3 : Value} {x : Int32} {K : sE → Prop} : sm_pf (oC 0 [f0, f1, f2, f3]) 0 0 (.int x) K ↔ K (oC 0 [.int x, f1, f2, f3]) := ⟨fun h => h.2.2.2, fun h => ⟨rfl, (by decide : 0 < 4), rfl, h⟩⟩
theorem gf0_1 {f0 f1 f2 f3 : Value} {K : Value → Prop} : sm_gf (oC 0 [f0, f1, f2, f3]) 0 1 K ↔ K f1 := ⟨fun h => h.2, fun h => ⟨rfl, h⟩⟩
theorem gf0_2 {f0 f1 f2 f3 : Value} {K : Value → Prop} : sm_gf (oC 0 [f0, f1, f2, f3]) 0 2 K ↔ K f2 := ⟨fun h => h.2, fun h => ⟨rfl, h⟩⟩
theorem gf0_3 {f0 f1 f2 f3 : Value} {K : Value → Prop} : sm_gf (oC 0 [f0, f1, f2, f3]) 0 3 K ↔ K f3 := ⟨fun h => h.2, fun h => ⟨rfl, h⟩⟩
theorem gf1_0 {f0 f1 f2 f3 f4 f5 f6 f7 f8 f9 f10 f11 : Value} {K : Value → Prop} : sm_gf (oC 1 [f0, f1, f2, f3, f4, f5, f6, f7, f8, f9, f10, f11]) 1 0 K ↔ K f0 := ⟨fun h => h.2, fun h => ⟨rfl, h⟩⟩
theorem pf1_0 {f0 f1 f2 f3 f4 f5 f6 f7 f8 f9 f10 f11 : Value} {x : Int32} {K : sE → Prop} : sm_pf (oC 1 [f0, f1, f2, f3, f4, f5, f6, f7, f8, f9, f10, f11]) 1 0 (.int x) K ↔ K (oC 1 [.int x, f1, f2, f3, f4, f5, f6, f7, f8, f9, f10, f11]) := ⟨fun h => h.2.2.2, fun h => ⟨rfl, (by decide : 0 < 12), rfl, h⟩⟩
theorem gf1_1 {f0 f1 f2 f3 f4 f5 f6 f7 f8 f9 f10 f11 : Value} {K : Value → Prop} : sm_gf (oC 1 [f0, f1, f2, f3, f4, f5, f6, f7, f8, f9, f10, f11]) 1 1 K ↔ K f1 := ⟨fun h => h.2, fun h => ⟨rfl, h⟩⟩
theorem pf1_1 {f0 f1 f2 f3 f4 f5 f6 f7 f8 f9 f10 f11 : Value} {x : Int32} {K : sE → Prop} : sm_pf (oC 1 [f0, f1, f2, f3, f4, f5, f6, f7, f8, f9, f10, f11]) 1 1 (.int x) K ↔ K (oC 1 [f0, .int x, f2, f3, f4, f5, f6, f7, f8, f9, f10, f11]) := ⟨fun h => h.2.2.2, fun h => ⟨rfl, (by decide : 1 < 12), rfl, h⟩⟩
theorem gf1_2 {f0 f1 f2 f3 f4 f5 f6 f7 f8 f9 f10 f11 : Value} {K : Value → Prop} : sm_gf (oC 1 [f0, f1, f2, f3, f4, f5, f6, f7, f8, f9, f10, f11]) 1 2 K ↔ K f2 := ⟨fun h => h.2, fun h => ⟨rfl, h⟩⟩
theorem pf1_2 {f0 f1 f2 f3 f4 f5 f6 f7 f8 f9 f10 f11 : Value} {x : Int32} {K : sE → Prop} : sm_pf (oC 1 [f0, f1, f2, f3, f4, f5, f6, f7, f8, f9, f10, f11]) 1 2 (.int x) K ↔ K (oC 1 [f0, f1, .int x, f3, f4, f5, f6, f7, f8, f9, f10, f11]) := ⟨fun h => h.2.2.2, fun h => ⟨rfl, (by decide : 2 < 12), rfl, h⟩⟩
theorem gf1_3 {f0 f1 f2 f3 f4 f5 f6 f7 f8 f9 f10 f11 : Value} {K : Value → Prop} : sm_gf (oC 1 [f0, f1, f2, f3, f4, f5, f6, f7, f8, f9, f10, f11]) 1 3 K ↔ K f3 := ⟨fun h => h.2, fun h => ⟨rfl, h⟩⟩
theorem pf1_3 {f0 f1 f2 f3 f4 f5 f6 f7 f8 f9 f10 f11 : Value} {x : Int32} {K : sE → Prop} : sm_pf (oC 1 [f0, f1, f2, f3, f4, f5, f6, f7, f8, f9, f10, f11]) 1 3 (.int x) K ↔ K (oC 1 [f0, f1, f2, .int x, f4, f5, f6, f7, f8, f9, f10, f11]) := ⟨fun h => h.2.2.2, fun h => ⟨rfl, (by decide : 3 < 12), rfl, h⟩⟩
theorem gf1_4 {f0 f1 f2 f3 f4 f5 f6 f7 f8 f9 f10 f11 : Value} {K : Value → Prop} : sm_gf (oC 1 [f0, f1, f2, f3, f4, f5, f6, f7, f8, f9, f10, f11]) 1 4 K ↔ K f4 := ⟨fun h => h.2, fun h => ⟨rfl, h⟩⟩
theorem pf1_4 {f0 f1 f2 f3 f4 f5 f6 f7 f8 f9 f10 f11 : Value} {x : Int32} {K : sE → Prop} : sm_pf (oC 1 [f0, f1, f2, f3, f4, f5, f6, f7, f8, f9, f10, f11]) 1 4 (.int x) K ↔ K (oC 1 [f0, f1, f2, f3, .int x, f5, f6, f7, f8, f9, f10, f11]) := ⟨fun h => h.2.2.2, fun h => ⟨rfl, (by decide : 4 < 12), rfl, h⟩⟩
theorem gf1_5 {f0 f1 f2 f3 f4 f5 f6 f7 f8 f9 f10 f11 : Value} {K : Value → Prop} : sm_gf (oC 1 [f0, f1, f2, f3, f4, f5, f6, f7, f8, f9, f10, f11]) 1 5 K ↔ K f5 := ⟨fun h => h.2, fun h => ⟨rfl, h⟩⟩
theorem pf1_5 {f0 f1 f2 f3 f4 f5 f6 f7 f8 f9 f10 f11 : Value} {x : Int32} {K : sE → Prop} : sm_pf (oC 1 [f0, f1, f2, f3, f4, f5, f6, f7, f8, f9, f10, f11]) 1 5 (.int x) K ↔ K (oC 1 [f0, f1, f2, f3, f4, .int x, f6, f7, f8, f9, f10, f11]) := ⟨fun h => h.2.2.2, fun h => ⟨rfl, (by decide : 5 < 12), rfl, h⟩⟩
theorem gf1_6 {f0 f1 f2 f3 f4 f5 f6 f7 f8 f9 f10 f11 : Value} {K : Value → Prop} : sm_gf (oC 1 [f0, f1, f2, f3, f4, f5, f6, f7, f8, f9, f10, f11]) 1 6 K ↔ K f6 := ⟨fun h => h.2, fun h => ⟨rfl, h⟩⟩
theorem pf1_6 {f0 f1 f2 f3 f4 f5 f6 f7 f8 f9 f10 f11 : Value} {x : Int32} {K : sE → Prop} : sm_pf (oC 1 [f0, f1, f2, f3, f4, f5, f6, f7, f8, f9, f10, f11]) 1 6 (.int x) K ↔ K (oC 1 [f0, f1, f2, f3, f4, f5, .int x, f7, f8, f9, f10, f11]) := ⟨fun h => h.2.2.2, fun h => ⟨rfl, (by decide : 6 < 12), rfl, h⟩⟩
theorem gf1_7 {f0 f1 f2 f3 f4 f5 f6 f7 f8 f9 f10 f11 : Value} {K : Value → Prop} : sm_gf (oC 1 [f0, f1, f2, f3, f4, f5, f6, f7, f8, f9, f10, f11]) 1 7 K ↔ K f7 := ⟨fun h => h.2, fun h => ⟨rfl, h⟩⟩
theorem pf1_7 {f0 f1 f2 f3 f4 f5 f6 f7 f8 f9 f10 f11 : Value} {x : Int32} {K : sE → Prop} : sm_pf (oC 1 [f0, f1, f2, f3, f4, f5, f6, f7, f8, f9, f10, f11]) 1 7 (.int x) K ↔ (x = 0 ∨ x = 1) ∧ K (oC 1 [f0, f1, f2, f3, f4, f5, f6, .int x, f8, f9, f10, f11]) := ⟨fun h => ⟨by simpa [sm_fk, sm_fit] using h.2.2.1, h.2.2.2⟩, fun h => ⟨rfl, (by decide : 7 < 12), by simpa [sm_fk, sm_fit] using h.1, h.2⟩⟩
theorem gf1_8 {f0 f1 f2 f3 f4 f5 f6 f7 f8 f9 f10 f11 : Value} {K : Value → Prop} : sm_gf (oC 1 [f0, f1, f2, f3, f4, f5, f6, f7, f8, f9, f10, f11]) 1 8 K ↔ K f8 := ⟨fun h => h.2, fun h => ⟨rfl, h⟩⟩
theorem gf1_9 {f0 f1 f2 f3 f4 f5 f6 f7 f8 f9 f10 f11 : Value} {K : Value → Prop} : sm_gf (oC 1 [f0, f1, f2, f3, f4, f5, f6, f7, f8, f9, f10, f11]) 1 9 K ↔ K f9 := ⟨fun h => h.2, fun h => ⟨rfl, h⟩⟩
theorem gf1_10 {f0 f1 f2 f3 f4 f5 f6 f7 f8 f9 f10 f11 : Value} {K : Value → Prop} : sm_gf (oC 1 [f0, f1, f2, f3, f4, f5, f6, f7, f8, f9, f10, f11]) 1 10 K ↔ K f10 := ⟨fun h => h.2, fun h => ⟨rfl, h⟩⟩
theorem gf1_11 {f0 f1 f2 f3 f4 f5 f6 f7 f8 f9 f10 f11 : Value} {K : Value → Prop} : sm_gf (oC 1 [f0, f1, f2, f3, f4, f5, f6, f7, f8, f9, f10, f11]) 1 11 K ↔ K f11 := ⟨fun h => h.2, fun h => ⟨rfl, h⟩⟩
theorem gf2_0 {f0 f1 f2 f3 f4 f5 f6 f7 f8 f9 f10 f11 f12 : Value} {K : Value → Prop} : sm_gf (oC 2 [f0, f1, f2, f3, f4, f5, f6, f7, f8, f9, f10, f11, f12]) 2 0 K ↔ K f0 := ⟨fun h => h.2, fun h => ⟨rfl, h⟩⟩
theorem gf2_1 {f0 f1 f2 f3 f4 f5 f6 f7 f8 f9 f10 f11 f12 : Value} {K : Value → Prop} : sm_gf (oC 2 [f0, f1, f2, f3, f4, f5, f6, f7, f8, f9, f10, f11, f12]) 2 1 K ↔ K f1 := ⟨fun h => h.2, fun h => ⟨rfl, h⟩⟩
theorem gf2_2 {f0 f1 f2 f3 f4 f5 f6 f7 f8 f9 f10 f11 f12 : Value} {K : Value → Prop} : sm_gf (oC 2 [f0, f1, f2, f3, f4, f5, f6, f7, f8, f9, f10, f11, f12]) 2 2 K ↔ K f2 := ⟨fun h => h.2, fun h => ⟨rfl, h⟩⟩
theorem gf2_3 {f0 f1 f2 f3 f4 f5 f6 f7 f8 f9 f10 f11 f12 : Value} {K : Value → Prop} : sm_gf (oC 2 [f0, f1, f2, f3, f4, f5, f6, f7, f8, f9, f10, f11, f12]) 2 3 K ↔ K f3 := ⟨fun h => h.2, fun h => ⟨rfl, h⟩⟩
theorem gf2_4 {f0 f1 f2 f3 f4 f5 f6 f7 f8 f9 f10 f11 f12 : Value} {K : Value → Prop} : sm_gf (oC 2 [f0, f1, f2, f3, f4, f5, f6, f7, f8, f9, f10, f11, f12]) 2 4 K ↔ K f4 := ⟨fun h => h.2, fun h => ⟨rfl, h⟩⟩
theorem gf2_5 {f0 f1 f2 f3 f4 f5 f6 f7 f8 f9 f10 f11 f12 : Value} {K : Value → Prop} : sm_gf (oC 2 [f0, f1, f2, f3, f4, f5, f6, f7, f8, f9, f10, f11, f12]) 2 5 K ↔ K f5 := ⟨fun h => h.2, fun h => ⟨rfl, h⟩⟩
theorem gf2_6 {f0 f1 f2 f3 f4 f5 f6 f7 f8 f9 f10 f11 f12 : Value} {K : Value → Prop} : sm_gf (oC 2 [f0, f1, f2, f3, f4, f5, f6, f7, f8, f9, f10, f11, f12]) 2 6 K ↔ K f6 := ⟨fun h => h.2, fun h => ⟨rfl, h⟩⟩
theorem gf2_7 {f0 f1 f2 f3 f4 f5 f6 f7 f8 f9 f10 f11 f12 : Value} {K : Value → Prop} : sm_gf (oC 2 [f0, f1, f2, f3, f4, f5, f6, f7, f8, f9, f10, f11, f12]) 2 7 K ↔ K f7 := ⟨fun h => h.2, fun h => ⟨rfl, h⟩⟩
theorem pf2_7 {f0 f1 f2 f3 f4 f5 f6 f7 f8 f9 f10 f11 f12 : Value} {x : Nat} {K : sE → Prop} : sm_pf (oC 2 [f0, f1, f2, f3, f4, f5, f6, f7, f8, f9, f10, f11, f12]) 2 7 (.ref x) K ↔ K (oC 2 [f0, f1, f2, f3, f4, f5, f6, .ref x, f8, f9, f10, f11, f12]) := ⟨fun h => h.2.2.2, fun h => ⟨rfl, (by decide : 7 < 13), rfl, h⟩⟩
theorem gf2_8 {f0 f1 f2 f3 f4 f5 f6 f7 f8 f9 f10 f11 f12 : Value} {K : Value → Prop} : sm_gf (oC 2 [f0, f1, f2, f3, f4, f5, f6, f7, f8, f9, f10, f11, f12]) 2 8 K ↔ K f8 := ⟨fun h => h.2, fun h => ⟨rfl, h⟩⟩
theorem pf2_8 {f0 f1 f2 f3 f4 f5 f6 f7 f8 f9 f10 f11 f12 : Value} {x : Nat} {K : sE → Prop} : sm_pf (oC 2 [f0, f1, f2, f3, f4, f5, f6, f7, f8, f9, f10, f11, f12]) 2 8 (.ref x) K ↔ K (oC 2 [f0, f1, f2, f3, f4, f5, f6, f7, .ref x, f9, f10, f11, f12]) := ⟨fun h => h.2.2.2, fun h => ⟨rfl, (by decide : 8 < 13), rfl, h⟩⟩
theorem gf2_9 {f0 f1 f2 f3 f4 f5 f6 f7 f8 f9 f10 f11 f12 : Value} {K : Value → Prop} : sm_gf (oC 2 [f0, f1, f2, f3, f4, f5, f6, f7, f8, f9, f10, f11, f12]) 2 9 K ↔ K f9 := ⟨fun h => h.2, fun h => ⟨rfl, h⟩⟩
theorem pf2_9 {f0 f1 f2 f3 f4 f5 f6 f7 f8 f9 f10 f11 f12 : Value} {x : Int32} {K : sE → Prop} : sm_pf (oC 2 [f0, f1, f2, f3, f4, f5, f6, f7, f8, f9, f10, f11, f12]) 2 9 (.int x) K ↔ K (oC 2 [f0, f1, f2, f3, f4, f5, f6, f7, f8, .int x, f10, f11, f12]) := ⟨fun h => h.2.2.2, fun h => ⟨rfl, (by decide : 9 < 13), rfl, h⟩⟩
theorem gf2_10 {f0 f1 f2 f3 f4 f5 f6 f7 f8 f9 f10 f11 f12 : Value} {K : Value → Prop} : sm_gf (oC 2 [f0, f1, f2, f3, f4, f5, f6, f7, f8, f9, f10, f11, f12]) 2 10 K ↔ K f10 := ⟨fun h => h.2, fun h => ⟨rfl, h⟩⟩
theorem pf2_10 {f0 f1 f2 f3 f4 f5 f6 f7 f8 f9 f10 f11 f12 : Value} {x : Int32} {K : sE → Prop} : sm_pf (oC 2 [f0, f1, f2, f3, f4, f5, f6, f7, f8, f9, f10, f11, f12]) 2 10 (.int x) K ↔ K (oC 2 [f0, f1, f2, f3, f4, f5, f6, f7, f8, f9, .int x, f11, f12]) := ⟨fun h => h.2.2.2, fun h => ⟨rfl, (by decide : 10 < 13), rfl, h⟩⟩
theorem gf2_11 {f0 f1 f2 f3 f4 f5 f6 f7 f8 f9 f10 f11 f12 : Value} {K : Value → Prop} : sm_gf (oC 2 [f0, f1, f2, f3, f4, f5, f6, f7, f8, f9, f10, f11, f12]) 2 11 K ↔ K f11 := ⟨fun h => h.2, fun h => ⟨rfl, h⟩⟩
theorem pf2_11 {f0 f1 f2 f3 f4 f5 f6 f7 f8 f9 f10 f11 f12 : Value} {x : Int32} {K : sE → Prop} : sm_pf (oC 2 [f0, f1, f2, f3, f4, f5, f6, f7, f8, f9, f10, f11, f12]) 2 11 (.int x) K ↔ K (oC 2 [f0, f1, f2, f3, f4, f5, f6, f7, f8, f9, f10, .int x, f12]) := ⟨fun h => h.2.2.2, fun h => ⟨rfl, (by decide : 11 < 13), rfl, h⟩⟩
theorem gf2_12 {f0 f1 f2 f3 f4 f5 f6 f7 f8 f9 f10 f11 f12 : Value} {K : Value → Prop} : sm_gf (oC 2 [f0, f1, f2, f3, f4, f5, f6, f7, f8, f9, f10, f11, f12]) 2 12 K ↔ K f12 := ⟨fun h => h.2, fun h => ⟨rfl, h⟩⟩
theorem pf2_12 {f0 f1 f2 f3 f4 f5 f6 f7 f8 f9 f10 f11 f12 : Value} {x : Int32} {K : sE → Prop} : sm_pf (oC 2 [f0, f1, f2, f3, f4, f5, f6, f7, f8, f9, f10, f11, f12]) 2 12 (.int x) K ↔ K (oC 2 [f0, f1, f2, f3, f4, f5, f6, f7, f8, f9, f10, f11, .int x]) := ⟨fun h => h.2.2.2, fun h => ⟨rfl, (by decide : 12 < 13), rfl, h⟩⟩
theorem gf3_0 {f0 f1 f2 f3 : Value} {K : Value → Prop} : sm_gf (oC 3 [f0, f1, f2, f3]) 3 0 K ↔ K f0 := ⟨fun h => h.2, fun h => ⟨rfl, h⟩⟩
theorem gf3_1 {f0 f1 f2 f3 : Value} {K : Value → Prop} : sm_gf (oC 3 [f0, f1, f2, f3]) 3 1 K ↔ K f1 := ⟨fun h => h.2, fun h => ⟨rfl, h⟩⟩
theorem pf3_1 {f0 f1 f2 f3 : Value} {x : Int32} {K : sE → Prop} : sm_pf (oC 3 [f0, f1, f2, f3]) 3 1 (.int x) K ↔ K (oC 3 [f0, .int x, f2, f3]) := ⟨fun h => h.2.2.2, fun h => ⟨rfl, (by decide : 1 < 4), rfl, h⟩⟩
theorem gf3_2 {f0 f1 f2 f3 : Value} {K : Value → Prop} : sm_gf (oC 3 [f0, f1, f2, f3]) 3 2 K ↔ K f2 := ⟨fun h => h.2, fun h => ⟨rfl, h⟩⟩
theorem pf3_2 {f0 f1 f2 f3 : Value} {x : Int32} {K : sE → Prop} : sm_pf (oC 3 [f0, f1, f2, f3]) 3 2 (.int x) K ↔ K (oC 3 [f0, f1, .int x, f3]) := ⟨fun h => h.2.2.2, fun h => ⟨rfl, (by decide : 2 < 4), rfl, h⟩⟩
theorem gf3_3 {f0 f1 f2 f3 : Value} {K : Value → Prop} : sm_gf (oC 3 [f0, f1, f2, f3]) 3 3 K ↔ K f3 := ⟨fun h => h.2, fun h => ⟨rfl, h⟩⟩
theorem gf4_0 {f0 f1 f2 f3 f4 f5 f6 : Value} {K : Value → Prop} : sm_gf (oC 4 [f0, f1, f2, f3, f4, f5, f6]) 4 0 K ↔ K f0 := ⟨fun h => h.2, fun h => ⟨rfl, h⟩⟩
theorem gf4_1 {f0 f1 f2 f3 f4 f5 f6 : Value} {K : Value → Prop} : sm_gf (oC 4 [f0, f1, f2, f3, f4, f5, f6]) 4 1 K ↔ K f1 := ⟨fun h => h.2, fun h => ⟨rfl, h⟩⟩
theorem pf4_1 {f0 f1 f2 f3 f4 f5 f6 : Value} {x : Nat} {K : sE → Prop} : sm_pf (oC 4 [f0, f1, f2, f3, f4, f5, f6]) 4 1 (.ref x) K ↔ K (oC 4 [f0, .ref x, f2, f3, f4, f5, f6]) := ⟨fun h => h.2.2.2, fun h => ⟨rfl, (by decide : 1 < 7), rfl, h⟩⟩
theorem gf4_2 {f0 f1 f2 f3 f4 f5 f6 : Value} {K : Value → Prop} : sm_gf (oC 4 [f0, f1, f2, f3, f4, f5, f6]) 4 2 K ↔ K f2 := ⟨fun h => h.2, fun h => ⟨rfl, h⟩⟩
theorem pf4_2 {f0 f1 f2 f3 f4 f5 f6 : Value} {x : Nat} {K : sE → Prop} : sm_pf (oC 4 [f0, f1, f2, f3, f4, f5, f6]) 4 2 (.ref x) K ↔ K (oC 4 [f0, f1, .ref x, f3, f4, f5, f6]) := ⟨fun h => h.2.2.2, fun h => ⟨rfl, (by decide : 2 < 7), rfl, h⟩⟩
theorem gf4_3 {f0 f1 f2 f3 f4 f5 f6 : Value} {K : Value → Prop} : sm_gf (oC 4 [f0, f1, f2, f3, f4, f5, f6]) 4 3 K ↔ K f3 := ⟨fun h => h.2, fun h => ⟨rfl, h⟩⟩
theorem gf4_4 {f0 f1 f2 f3 f4 f5 f6 : Value} {K : Value → Prop} : sm_gf (oC 4 [f0, f1, f2, f3, f4, f5, f6]) 4 4 K ↔ K f4 := ⟨fun h => h.2, fun h => ⟨rfl, h⟩⟩
theorem gf4_5 {f0 f1 f2 f3 f4 f5 f6 : Value} {K : Value → Prop} : sm_gf (oC 4 [f0, f1, f2, f3, f4, f5, f6]) 4 5 K ↔ K f5 := ⟨fun h => h.2, fun h => ⟨rfl, h⟩⟩
theorem gf4_6 {f0 f1 f2 f3 f4 f5 f6 : Value} {K : Value → Prop} : sm_gf (oC 4 [f0, f1, f2, f3, f4, f5, f6]) 4 6 K ↔ K f6 := ⟨fun h => h.2, fun h => ⟨rfl, h⟩⟩
theorem pf4_6 {f0 f1 f2 f3 f4 f5 f6 : Value} {x : Int32} {K : sE → Prop} : sm_pf (oC 4 [f0, f1, f2, f3, f4, f5, f6]) 4 6 (.int x) K ↔ K (oC 4 [f0, f1, f2, f3, f4, f5, .int x]) := ⟨fun h => h.2.2.2, fun h => ⟨rfl, (by decide : 6 < 7), rfl, h⟩⟩
theorem gf5_0 {f0 f1 f2 f3 f4 f5 f6 f7 f8 f9 f10 f11 : Value} {K : Value → Prop} : sm_gf (oC 5 [f0, f1, f2, f3, f4, f5, f6, f7, f8, f9, f10, f11]) 5 0 K ↔ K f0 := ⟨fun h => h.2, fun h => ⟨rfl, h⟩⟩
theorem gf5_1 {f0 f1 f2 f3 f4 f5 f6 f7 f8 f9 f10 f11 : Value} {K : Value → Prop} : sm_gf (oC 5 [f0, f1, f2, f3, f4, f5, f6, f7, f8, f9, f10, f11]) 5 1 K ↔ K f1 := ⟨fun h => h.2, fun h => ⟨rfl, h⟩⟩
theorem gf5_2 {f0 f1 f2 f3 f4 f5 f6 f7 f8 f9 f10 f11 : Value} {K : Value → Prop} : sm_gf (oC 5 [f0, f1, f2, f3, f4, f5, f6, f7, f8, f9, f10, f11]) 5 2 K ↔ K f2 := ⟨fun h => h.2, fun h => ⟨rfl, h⟩⟩
theorem gf5_3 {f0 f1 f2 f3 f4 f5 f6 f7 f8 f9 f10 f11 : Value} {K : Value → Prop} : sm_gf (oC 5 [f0, f1, f2, f3, f4, f5, f6, f7, f8, f9, f10, f11]) 5 3 K ↔ K f3 := ⟨fun h => h.2, fun h => ⟨rfl, h⟩⟩
theorem pf5_3 {f0 f1 f2 f3 f4 f5 f6 f7 f8 f9 f10 f11 : Value} {x : Int32} {K : sE → Prop} : sm_pf (oC 5 [f0, f1, f2, f3, f4, f5, f6, f7, f8, f9, f10, f11]) 5 3 (.int x) K ↔ K (oC 5 [f0, f1, f2, .int x, f4, f5, f6, f7, f8, f9, f10, f11]) := ⟨fun h => h.2.2.2, fun h => ⟨rfl, (by decide : 3 < 12), rfl, h⟩⟩
theorem gf5_4 {f0 f1 f2 f3 f4 f5 f6 f7 f8 f9 f10 f11 : Value} {K : Value → Prop} : sm_gf (oC 5 [f0, f1, f2, f3, f4, f5, f6, f7, f8, f9, f10, f11]) 5 4 K ↔ K f4 := ⟨fun h => h.2, fun h => ⟨rfl, h⟩⟩
theorem gf5_5 {f0 f1 f2 f3 f4 f5 f6 f7 f8 f9 f10 f11 : Value} {K : Value → Prop} : sm_gf (oC 5 [f0, f1, f2, f3, f4, f5, f6, f7, f8, f9, f10, f11]) 5 5 K ↔ K f5 := ⟨fun h => h.2, fun h => ⟨rfl, h⟩⟩
theorem pf5_5 {f0 f1 f2 f3 f4 f5 f6 f7 f8 f9 f10 f11 : Value} {x : Int32} {K : sE → Prop} : sm_pf (oC 5 [f0, f1, f2, f3, f4, f5, f6, f7, f8, f9, f10, f11]) 5 5 (.int x) K ↔ K (oC 5 [f0, f1, f2, f3, f4, .int x, f6, f7, f8, f9, f10, f11]) := ⟨fun h => h.2.2.2, fun h => ⟨rfl, (by decide : 5 < 12), rfl, h⟩⟩
theorem gf5_6 {f0 f1 f2 f3 f4 f5 f6 f7 f8 f9 f10 f11 : Value} {K : Value → Prop} : sm_gf (oC 5 [f0, f1, f2, f3, f4, f5, f6, f7, f8, f9, f10, f11]) 5 6 K ↔ K f6 := ⟨fun h => h.2, fun h => ⟨rfl, h⟩⟩
theorem pf5_6 {f0 f1 f2 f3 f4 f5 f6 f7 f8 f9 f10 f11 : Value} {x : Int32} {K : sE → Prop} : sm_pf (oC 5 [f0, f1, f2, f3, f4, f5, f6, f7, f8, f9, f10, f11]) 5 6 (.int x) K ↔ K (oC 5 [f0, f1, f2, f3, f4, f5, .int x, f7, f8, f9, f10, f11]) := ⟨fun h => h.2.2.2, fun h => ⟨rfl, (by decide : 6 < 12), rfl, h⟩⟩
theorem gf5_7 {f0 f1 f2 f3 f4 f5 f6 f7 f8 f9 f10 f11 : Value} {K : Value → Prop} : sm_gf (oC 5 [f0, f1, f2, f3, f4, f5, f6, f7, f8, f9, f10, f11]) 5 7 K ↔ K f7 := ⟨fun h => h.2, fun h => ⟨rfl, h⟩⟩
theorem gf5_8 {f0 f1 f2 f3 f4 f5 f6 f7 f8 f9 f10 f11 : Value} {K : Value → Prop} : sm_gf (oC 5 [f0, f1, f2, f3, f4, f5, f6, f7, f8, f9, f10, f11]) 5 8 K ↔ K f8 := ⟨fun h => h.2, fun h => ⟨rfl, h⟩⟩
theorem gf5_9 {f0 f1 f2 f3 f4 f5 f6 f7 f8 f9 f10 f11 : Value} {K : Value → Prop} : sm_gf (oC 5 [f0, f1, f2, f3, f4, f5, f6, f7, f8, f9, f10, f11]) 5 9 K ↔ K f9 := ⟨fun h => h.2, fun h => ⟨rfl, h⟩⟩
theorem pf5_9 {f0 f1 f2 f3 f4 f5 f6 f7 f8 f9 f10 f11 : Value} {x : Int32} {K : sE → Prop} : sm_pf (oC 5 [f0, f1, f2, f3, f4, f5, f6, f7, f8, f9, f10, f11]) 5 9 (.int x) K ↔ K (oC 5 [f0, f1, f2, f3, f4, f5, f6, f7, f8, .int x, f10, f11]) := ⟨fun h => h.2.2.2, fun h => ⟨rfl, (by decide : 9 < 12), rfl, h⟩⟩
theorem gf5_10 {f0 f1 f2 f3 f4 f5 f6 f7 f8 f9 f10 f11 : Value} {K : Value → Prop} : sm_gf (oC 5 [f0, f1, f2, f3, f4, f5, f6, f7, f8, f9, f10, f11]) 5 10 K ↔ K f10 := ⟨fun h => h.2, fun h => ⟨rfl, h⟩⟩
theorem gf5_11 {f0 f1 f2 f3 f4 f5 f6 f7 f8 f9 f10 f11 : Value} {K : Value → Prop} : sm_gf (oC 5 [f0, f1, f2, f3, f4, f5, f6, f7, f8, f9, f10, f11]) 5 11 K ↔ K f11 := ⟨fun h => h.2, fun h => ⟨rfl, h⟩⟩
theorem en0 {d : Nat} {Q : sQ} {w : sW} {x0 : Nat} {x1 : Nat} (h : sm_V (sm_VC d) 0 Q 0 [.ref x0, .ref x1] [] w) : sm_D d 0 [.ref x0, .ref x1] w Q := sm_D_in (by simp [Value.category]) (by decide : 2 ≤ 2) rfl h
theorem en1 {d : Nat} {Q : sQ} {w : sW} {x0 : Nat} {x1 : Int32} {x2 : Int32} {x3 : Int32} (h : sm_V (sm_VC d) 1 Q 0 [.ref x0, .int x1, .int x2, .int x3] [] w) : sm_D d 1 [.ref x0, .int x1, .int x2, .int x3] w Q := sm_D_in (by simp [Value.category]) (by decide : 4 ≤ 4) rfl h
theorem en2 {d : Nat} {Q : sQ} {w : sW} {x0 : Nat} {x1 : Int32} {x2 : Int32} {x3 : Int32} {x4 : Int32} (h : sm_V (sm_VC d) 2 Q 0 [.ref x0, .int x1, .int x2, .int x3, .int x4, sm_unk] [] w) : sm_D d 2 [.ref x0, .int x1, .int x2, .int x3, .int x4] w Q := sm_D_in (by simp [Value.category]) (by decide : 5 ≤ 6) rfl h
theorem en3 {d : Nat} {Q : sQ} {w : sW} {x0 : Nat} {x1 : Int32} (h : sm_V (sm_VC d) 3 Q 0 [.ref x0, .int x1, sm_unk, sm_unk] [] w) : sm_D d 3 [.ref x0, .int x1] w Q := sm_D_in (by simp [Value.category]) (by decide : 2 ≤ 4) rfl h
theorem en4 {d : Nat} {Q : sQ} {w : sW} {x0 : Nat} {x1 : Int32} {x2 : Int32} (h : sm_V (sm_VC d) 4 Q 0 [.ref x0, .int x1, .int x2, sm_unk, sm_unk, sm_unk] [] w) : sm_D d 4 [.ref x0, .int x1, .int x2] w Q := sm_D_in (by simp [Value.category]) (by decide : 3 ≤ 6) rfl h
theorem en5 {d : Nat} {Q : sQ} {w : sW} {x0 : Nat} {x1 : Int32} {x2 : Int32} (h : sm_V (sm_VC d) 5 Q 0 [.ref x0, .int x1, .int x2, sm_unk] [] w) : sm_D d 5 [.ref x0, .int x1, .int x2] w Q := sm_D_in (by simp [Value.category]) (by decide : 3 ≤ 4) rfl h
theorem en6 {d : Nat} {Q : sQ} {w : sW} {x0 : Nat} {x1 : Int32} (h : sm_V (sm_VC d) 6 Q 0 [.ref x0, .int x1, sm_unk, sm_unk] [] w) : sm_D d 6 [.ref x0, .int x1] w Q := sm_D_in (by simp [Value.category]) (by decide : 2 ≤ 4) rfl h
theorem en7 {d : Nat} {Q : sQ} {w : sW} {x0 : Nat} {x1 : Int32} {x2 : Int32} (h : sm_V (sm_VC d) 7 Q 0 [.ref x0, .int x1, .int x2] [] w) : sm_D d 7 [.ref x0, .int x1, .int x2] w Q := sm_D_in (by simp [Value.category]) (by decide : 3 ≤ 3) rfl h
theorem en8 {d : Nat} {Q : sQ} {w : sW} {x0 : Nat} {x1 : Nat} (h : sm_V (sm_VC d) 8 Q 0 [.ref x0, .ref x1, sm_unk, sm_unk] [] w) : sm_D d 8 [.ref x0, .ref x1] w Q := sm_D_in (by simp [Value.category]) (by decide : 2 ≤ 4) rfl h
theorem en9 {d : Nat} {Q : sQ} {w : sW} {x0 : Nat} (h : sm_V (sm_VC d) 9 Q 0 [.ref x0, sm_unk] [] w) : sm_D d 9 [.ref x0] w Q := sm_D_in (by simp [Value.category]) (by decide : 1 ≤ 2) rfl h
theorem en10 {d : Nat} {Q : sQ} {w : sW} {x0 : Nat} {x1 : Int32} (h : sm_V (sm_VC d) 10 Q 0 [.ref x0, .int x1] [] w) : sm_D d 10 [.ref x0, .int x1] w Q := sm_D_in (by simp [Value.category]) (by decide : 2 ≤ 2) rfl h
theorem en11 {d : Nat} {Q : sQ} {w : sW} {x0 : Nat} {x1 : Int32} {x2 : Int32} {x3 : Int32} (h : sm_V (sm_VC d) 11 Q 0 [.ref x0, .int x1, .int x2, .int x3] [] w) : sm_D d 11 [.ref x0, .int x1, .int x2, .int x3] w Q := sm_D_in (by simp [Value.category]) (by decide : 4 ≤ 4) rfl h
theorem en12 {d : Nat} {Q : sQ} {w : sW} {x0 : Nat} {x1 : Int32} {x2 : Int32} (h : sm_V (sm_VC d) 12 Q 0 [.ref x0, .int x1, .int x2] [] w) : sm_D d 12 [.ref x0, .int x1, .int x2] w Q := sm_D_in (by simp [Value.category]) (by decide : 3 ≤ 3) rfl h
theorem en13 {d : Nat} {Q : sQ} {w : sW} {x0 : Nat} {x1 : Int32} {x2 : Int32} (h : sm_V (sm_VC d) 13 Q 0 [.ref x0, .int x1, .int x2] [] w) : sm_D d 13 [.ref x0, .int x1, .int x2] w Q := sm_D_in (by simp [Value.category]) (by decide : 3 ≤ 3) rfl h
theorem en14 {d : Nat} {Q : sQ} {w : sW} {x0 : Nat} {x1 : Int32} {x2 : Int32} (h : sm_V (sm_VC d) 14 Q 0 [.ref x0, .int x1, .int x2] [] w) : sm_D d 14 [.ref x0, .int x1, .int x2] w Q := sm_D_in (by simp [Value.category]) (by decide : 3 ≤ 3) rfl h
theorem en15 {d : Nat} {Q : sQ} {w : sW} {x0 : Nat} {x1 : Int32} (h : sm_V (sm_VC d) 15 Q 0 [.ref x0, .int x1] [] w) : sm_D d 15 [.ref x0, .int x1] w Q := sm_D_in (by simp [Value.category]) (by decide : 2 ≤ 2) rfl h
theorem en16 {d : Nat} {Q : sQ} {w : sW} {x0 : Nat} (h : sm_V (sm_VC d) 16 Q 0 [.ref x0] [] w) : sm_D d 16 [.ref x0] w Q := sm_D_in (by simp [Value.category]) (by decide : 1 ≤ 1) rfl h
theorem en17 {d : Nat} {Q : sQ} {w : sW} {x0 : Nat} {x1 : Int32} (h : sm_V (sm_VC d) 17 Q 0 [.ref x0, .int x1] [] w) : sm_D d 17 [.ref x0, .int x1] w Q := sm_D_in (by simp [Value.category]) (by decide : 2 ≤ 2) rfl h
theorem en18 {d : Nat} {Q : sQ} {w : sW} {x0 : Nat} {x1 : Int32} (h : sm_V (sm_VC d) 18 Q 0 [.ref x0, .int x1, sm_unk, sm_unk] [] w) : sm_D d 18 [.ref x0, .int x1] w Q := sm_D_in (by simp [Value.category]) (by decide : 2 ≤ 4) rfl h
theorem en19 {d : Nat} {Q : sQ} {w : sW} {x0 : Nat} {x1 : Nat} (h : sm_V (sm_VC d) 19 Q 0 [.ref x0, .ref x1, sm_unk] [] w) : sm_D d 19 [.ref x0, .ref x1] w Q := sm_D_in (by simp [Value.category]) (by decide : 2 ≤ 3) rfl h
theorem en20 {d : Nat} {Q : sQ} {w : sW} {x0 : Nat} {x1 : Nat} (h : sm_V (sm_VC d) 20 Q 0 [.ref x0, .ref x1] [] w) : sm_D d 20 [.ref x0, .ref x1] w Q := sm_D_in (by simp [Value.category]) (by decide : 2 ≤ 2) rfl h
theorem en21 {d : Nat} {Q : sQ} {w : sW} {x0 : Nat} {x1 : Int32} (h : sm_V (sm_VC d) 21 Q 0 [.ref x0, .int x1] [] w) : sm_D d 21 [.ref x0, .int x1] w Q := sm_D_in (by simp [Value.category]) (by decide : 2 ≤ 2) rfl h
theorem en22 {d : Nat} {Q : sQ} {w : sW} {x0 : Nat} {x1 : Int32} (h : sm_V (sm_VC d) 22 Q 0 [.ref x0, .int x1, sm_unk, sm_unk] [] w) : sm_D d 22 [.ref x0, .int x1] w Q := sm_D_in (by simp [Value.category]) (by decide : 2 ≤ 4) rfl h
theorem en23 {d : Nat} {Q : sQ} {w : sW} {x0 : Nat} {x1 : Int32} (h : sm_V (sm_VC d) 23 Q 0 [.ref x0, .int x1, sm_unk, sm_unk] [] w) : sm_D d 23 [.ref x0, .int x1] w Q := sm_D_in (by simp [Value.category]) (by decide : 2 ≤ 4) rfl h
theorem en24 {d : Nat} {Q : sQ} {w : sW} {x0 : Nat} {x1 : Int32} {x2 : Int32} (h : sm_V (sm_VC d) 24 Q 0 [.ref x0, .int x1, .int x2, sm_unk, sm_unk] [] w) : sm_D d 24 [.ref x0, .int x1, .int x2] w Q := sm_D_in (by simp [Value.category]) (by decide : 3 ≤ 5) rfl h
theorem en25 {d : Nat} {Q : sQ} {w : sW} {x0 : Nat} {x1 : Nat} (h : sm_V (sm_VC d) 25 Q 0 [.ref x0, .ref x1, sm_unk, sm_unk, sm_unk] [] w) : sm_D d 25 [.ref x0, .ref x1] w Q := sm_D_in (by simp [Value.category]) (by decide : 2 ≤ 5) rfl h
theorem en26 {d : Nat} {Q : sQ} {w : sW} {x0 : Nat} {x1 : Int32} (h : sm_V (sm_VC d) 26 Q 0 [.ref x0, .int x1, sm_unk] [] w) : sm_D d 26 [.ref x0, .int x1] w Q := sm_D_in (by simp [Value.category]) (by decide : 2 ≤ 3) rfl h
theorem en27 {d : Nat} {Q : sQ} {w : sW} {x0 : Nat} {x1 : Nat} (h : sm_V (sm_VC d) 27 Q 0 [.ref x0, .ref x1, sm_unk, sm_unk, sm_unk, sm_unk] [] w) : sm_D d 27 [.ref x0, .ref x1] w Q := sm_D_in (by simp [Value.category]) (by decide : 2 ≤ 6) rfl h
theorem en28 {d : Nat} {Q : sQ} {w : sW} {x0 : Nat} (h : sm_V (sm_VC d) 28 Q 0 [.ref x0, sm_unk] [] w) : sm_D d 28 [.ref x0] w Q := sm_D_in (by simp [Value.category]) (by decide : 1 ≤ 2) rfl h
theorem en29 {d : Nat} {Q : sQ} {w : sW} {x0 : Nat} {x1 : Nat} {x2 : Int32} (h : sm_V (sm_VC d) 29 Q 0 [.ref x0, .ref x1, .int x2, sm_unk, sm_unk, sm_unk, sm_unk] [] w) : sm_D d 29 [.ref x0, .ref x1, .int x2] w Q := sm_D_in (by simp [Value.category]) (by decide : 3 ≤ 7) rfl h
theorem en30 {d : Nat} {Q : sQ} {w : sW} {x0 : Nat} {x1 : Nat} {x2 : Int32} (h : sm_V (sm_VC d) 30 Q 0 [.ref x0, .ref x1, .int x2, sm_unk] [] w) : sm_D d 30 [.ref x0, .ref x1, .int x2] w Q := sm_D_in (by simp [Value.category]) (by decide : 3 ≤ 4) rfl h
theorem en31 {d : Nat} {Q : sQ} {w : sW} {x0 : Nat} {x1 : Nat} {x2 : Int32} {x3 : Int32} (h : sm_V (sm_VC d) 31 Q 0 [.ref x0, .ref x1, .int x2, .int x3, sm_unk, sm_unk, sm_unk] [] w) : sm_D d 31 [.ref x0, .ref x1, .int x2, .int x3] w Q := sm_D_in (by simp [Value.category]) (by decide : 4 ≤ 7) rfl h
theorem en32 {d : Nat} {Q : sQ} {w : sW} {x0 : Nat} {x1 : Nat} (h : sm_V (sm_VC d) 32 Q 0 [.ref x0, .ref x1, sm_unk, sm_unk, sm_unk, sm_unk] [] w) : sm_D d 32 [.ref x0, .ref x1] w Q := sm_D_in (by simp [Value.category]) (by decide : 2 ≤ 6) rfl h
theorem en33 {d : Nat} {Q : sQ} {w : sW} {x0 : Nat} {x1 : Int32} {x2 : Int32} {x3 : Int32} (h : sm_V (sm_VC d) 33 Q 0 [.ref x0, .int x1, .int x2, .int x3, sm_unk, sm_unk, sm_unk] [] w) : sm_D d 33 [.ref x0, .int x1, .int x2, .int x3] w Q := sm_D_in (by simp [Value.category]) (by decide : 4 ≤ 7) rfl h
theorem en34 {d : Nat} {Q : sQ} {w : sW} {x0 : Nat} {x1 : Int32} (h : sm_V (sm_VC d) 34 Q 0 [.ref x0, .int x1] [] w) : sm_D d 34 [.ref x0, .int x1] w Q := sm_D_in (by simp [Value.category]) (by decide : 2 ≤ 2) rfl h
theorem en35 {d : Nat} {Q : sQ} {w : sW} {x0 : Nat} {x1 : Nat} (h : sm_V (sm_VC d) 35 Q 0 [.ref x0, .ref x1, sm_unk, sm_unk] [] w) : sm_D d 35 [.ref x0, .ref x1] w Q := sm_D_in (by simp [Value.category]) (by decide : 2 ≤ 4) rfl h
theorem en36 {d : Nat} {Q : sQ} {w : sW} {x0 : Nat} {x1 : Nat} (h : sm_V (sm_VC d) 36 Q 0 [.ref x0, .ref x1, sm_unk] [] w) : sm_D d 36 [.ref x0, .ref x1] w Q := sm_D_in (by simp [Value.category]) (by decide : 2 ≤ 3) rfl h
theorem en37 {d : Nat} {Q : sQ} {w : sW} {x0 : Nat} {x1 : Int32} (h : sm_V (sm_VC d) 37 Q 0 [.ref x0, .int x1, sm_unk, sm_unk] [] w) : sm_D d 37 [.ref x0, .int x1] w Q := sm_D_in (by simp [Value.category]) (by decide : 2 ≤ 4) rfl h
theorem en38 {d : Nat} {Q : sQ} {w : sW} {x0 : Nat} (h : sm_V (sm_VC d) 38 Q 0 [.ref x0, sm_unk, sm_unk] [] w) : sm_D d 38 [.ref x0] w Q := sm_D_in (by simp [Value.category]) (by decide : 1 ≤ 3) rfl h
theorem en39 {d : Nat} {Q : sQ} {w : sW} {x0 : Nat} {x1 : Int32} (h : sm_V (sm_VC d) 39 Q 0 [.ref x0, .int x1] [] w) : sm_D d 39 [.ref x0, .int x1] w Q := sm_D_in (by simp [Value.category]) (by decide : 2 ≤ 2) rfl h
theorem en40 {d : Nat} {Q : sQ} {w : sW} {x0 : Nat} {x1 : Int32} (h : sm_V (sm_VC d) 40 Q 0 [.ref x0, .int x1] [] w) : sm_D d 40 [.ref x0, .int x1] w Q := sm_D_in (by simp [Value.category]) (by decide : 2 ≤ 2) rfl h
theorem en41 {d : Nat} {Q : sQ} {w : sW} {x0 : Nat} {x1 : Int32} (h : sm_V (sm_VC d) 41 Q 0 [.ref x0, .int x1] [] w) : sm_D d 41 [.ref x0, .int x1] w Q := sm_D_in (by simp [Value.category]) (by decide : 2 ≤ 2) rfl h
theorem en42 {d : Nat} {Q : sQ} {w : sW} {x0 : Nat} (h : sm_V (sm_VC d) 42 Q 0 [.ref x0, sm_unk] [] w) : sm_D d 42 [.ref x0] w Q := sm_D_in (by simp [Value.category]) (by decide : 1 ≤ 2) rfl h
theorem en43 {d : Nat} {Q : sQ} {w : sW} {x0 : Nat} (h : sm_V (sm_VC d) 43 Q 0 [.ref x0] [] w) : sm_D d 43 [.ref x0] w Q := sm_D_in (by simp [Value.category]) (by decide : 1 ≤ 1) rfl h
theorem en44 {d : Nat} {Q : sQ} {w : sW} {x0 : Nat} (h : sm_V (sm_VC d) 44 Q 0 [.ref x0] [] w) : sm_D d 44 [.ref x0] w Q := sm_D_in (by simp [Value.category]) (by decide : 1 ≤ 1) rfl h
theorem en45 {d : Nat} {Q : sQ} {w : sW} {x0 : Nat} {x1 : Int32} (h : sm_V (sm_VC d) 45 Q 0 [.ref x0, .int x1] [] w) : sm_D d 45 [.ref x0, .int x1] w Q := sm_D_in (by simp [Value.category]) (by decide : 2 ≤ 2) rfl h
theorem en46 {d : Nat} {Q : sQ} {w : sW} {x0 : Nat} {x1 : Int32} {x2 : Int32} (h : sm_V (sm_VC d) 46 Q 0 [.ref x0, .int x1, .int x2, sm_unk] [] w) : sm_D d 46 [.ref x0, .int x1, .int x2] w Q := sm_D_in (by simp [Value.category]) (by decide : 3 ≤ 4) rfl h
theorem en47 {d : Nat} {Q : sQ} {w : sW} {x0 : Nat} {x1 : Int32} {x2 : Int32} (h : sm_V (sm_VC d) 47 Q 0 [.ref x0, .int x1, .int x2, sm_unk] [] w) : sm_D d 47 [.ref x0, .int x1, .int x2] w Q := sm_D_in (by simp [Value.category]) (by decide : 3 ≤ 4) rfl h
theorem en48 {d : Nat} {Q : sQ} {w : sW} {x0 : Nat} {x1 : Int32} (h : sm_V (sm_VC d) 48 Q 0 [.ref x0, .int x1] [] w) : sm_D d 48 [.ref x0, .int x1] w Q := sm_D_in (by simp [Value.category]) (by decide : 2 ≤ 2) rfl h
theorem en49 {d : Nat} {Q : sQ} {w : sW} {x0 : Nat} (h : sm_V (sm_VC d) 49 Q 0 [.ref x0] [] w) : sm_D d 49 [.ref x0] w Q := sm_D_in (by simp [Value.category]) (by decide : 1 ≤ 1) rfl h
theorem en50 {d : Nat} {Q : sQ} {w : sW} {x0 : Nat} {x1 : Int32} {x2 : Int32} (h : sm_V (sm_VC d) 50 Q 0 [.ref x0, .int x1, .int x2] [] w) : sm_D d 50 [.ref x0, .int x1, .int x2] w Q := sm_D_in (by simp [Value.category]) (by decide : 3 ≤ 3) rfl h
theorem en51 {d : Nat} {Q : sQ} {w : sW} {x0 : Nat} {x1 : Int32} {x2 : Int32} {x3 : Int32} (h : sm_V (sm_VC d) 51 Q 0 [.ref x0, .int x1, .int x2, .int x3, sm_unk] [] w) : sm_D d 51 [.ref x0, .int x1, .int x2, .int x3] w Q := sm_D_in (by simp [Value.category]) (by decide : 4 ≤ 5) rfl h
theorem en52 {d : Nat} {Q : sQ} {w : sW} {x0 : Nat} {x1 : Int32} {x2 : Int32} (h : sm_V (sm_VC d) 52 Q 0 [.ref x0, .int x1, .int x2] [] w) : sm_D d 52 [.ref x0, .int x1, .int x2] w Q := sm_D_in (by simp [Value.category]) (by decide : 3 ≤ 3) rfl h
theorem en53 {d : Nat} {Q : sQ} {w : sW} {x0 : Nat} {x1 : Int32} {x2 : Int32} (h : sm_V (sm_VC d) 53 Q 0 [.ref x0, .int x1, .int x2] [] w) : sm_D d 53 [.ref x0, .int x1, .int x2] w Q := sm_D_in (by simp [Value.category]) (by decide : 3 ≤ 3) rfl h
theorem en54 {d : Nat} {Q : sQ} {w : sW} {x0 : Nat} {x1 : Int32} {x2 : Int32} (h : sm_V (sm_VC d) 54 Q 0 [.ref x0, .int x1, .int x2, sm_unk] [] w) : sm_D d 54 [.ref x0, .int x1, .int x2] w Q := sm_D_in (by simp [Value.category]) (by decide : 3 ≤ 4) rfl h
theorem en55 {d : Nat} {Q : sQ} {w : sW} {x0 : Nat} {x1 : Int32} (h : sm_V (sm_VC d) 55 Q 0 [.ref x0, .int x1] [] w) : sm_D d 55 [.ref x0, .int x1] w Q := sm_D_in (by simp [Value.category]) (by decide : 2 ≤ 2) rfl h
theorem en56 {d : Nat} {Q : sQ} {w : sW} {x0 : Nat} {x1 : Int32} (h : sm_V (sm_VC d) 56 Q 0 [.ref x0, .int x1] [] w) : sm_D d 56 [.ref x0, .int x1] w Q := sm_D_in (by simp [Value.category]) (by decide : 2 ≤ 2) rfl h
theorem en57 {d : Nat} {Q : sQ} {w : sW} {x0 : Nat} {x1 : Int32} (h : sm_V (sm_VC d) 57 Q 0 [.ref x0, .int x1] [] w) : sm_D d 57 [.ref x0, .int x1] w Q := sm_D_in (by simp [Value.category]) (by decide : 2 ≤ 2) rfl h
theorem en58 {d : Nat} {Q : sQ} {w : sW} {x0 : Nat} {x1 : Nat} (h : sm_V (sm_VC d) 58 Q 0 [.ref x0, .ref x1] [] w) : sm_D d 58 [.ref x0, .ref x1] w Q := sm_D_in (by simp [Value.category]) (by decide : 2 ≤ 2) rfl h
theorem en59 {d : Nat} {Q : sQ} {w : sW} {x0 : Nat} (h : sm_V (sm_VC d) 59 Q 0 [.ref x0, sm_unk] [] w) : sm_D d 59 [.ref x0] w Q := sm_D_in (by simp [Value.category]) (by decide : 1 ≤ 2) rfl h
theorem en60 {d : Nat} {Q : sQ} {w : sW} {x0 : Nat} (h : sm_V (sm_VC d) 60 Q 0 [.ref x0] [] w) : sm_D d 60 [.ref x0] w Q := sm_D_in (by simp [Value.category]) (by decide : 1 ≤ 1) rfl h
theorem en61 {d : Nat} {Q : sQ} {w : sW} {x0 : Nat} (h : sm_V (sm_VC d) 61 Q 0 [.ref x0, sm_unk, sm_unk] [] w) : sm_D d 61 [.ref x0] w Q := sm_D_in (by simp [Value.category]) (by decide : 1 ≤ 3) rfl h
theorem en62 {d : Nat} {Q : sQ} {w : sW} {x0 : Nat} {x1 : Nat} {x2 : Int32} (h : sm_V (sm_VC d) 62 Q 0 [.ref x0, .ref x1, .int x2, sm_unk] [] w) : sm_D d 62 [.ref x0, .ref x1, .int x2] w Q := sm_D_in (by simp [Value.category]) (by decide : 3 ≤ 4) rfl h
theorem en63 {d : Nat} {Q : sQ} {w : sW} {x0 : Int32} (h : sm_V (sm_VC d) 63 Q 0 [.int x0] [] w) : sm_D d 63 [.int x0] w Q := sm_D_in (by simp [Value.category]) (by decide : 1 ≤ 1) rfl h
theorem en64 {d : Nat} {Q : sQ} {w : sW} {x0 : Int32} {x1 : Int32} {x2 : Int32} (h : sm_V (sm_VC d) 64 Q 0 [.int x0, .int x1, .int x2] [] w) : sm_D d 64 [.int x0, .int x1, .int x2] w Q := sm_D_in (by simp [Value.category]) (by decide : 3 ≤ 3) rfl h
theorem en65 {d : Nat} {Q : sQ} {w : sW} {x0 : Int32} {x1 : Int32} {x2 : Int32} (h : sm_V (sm_VC d) 65 Q 0 [.int x0, .int x1, .int x2] [] w) : sm_D d 65 [.int x0, .int x1, .int x2] w Q := sm_D_in (by simp [Value.category]) (by decide : 3 ≤ 3) rfl h
theorem en66 {d : Nat} {Q : sQ} {w : sW} {x0 : Int32} {x1 : Int32} (h : sm_V (sm_VC d) 66 Q 0 [.int x0, .int x1] [] w) : sm_D d 66 [.int x0, .int x1] w Q := sm_D_in (by simp [Value.category]) (by decide : 2 ≤ 2) rfl h
theorem en67 {d : Nat} {Q : sQ} {w : sW} {x0 : Int32} {x1 : Int32} (h : sm_V (sm_VC d) 67 Q 0 [.int x0, .int x1] [] w) : sm_D d 67 [.int x0, .int x1] w Q := sm_D_in (by simp [Value.category]) (by decide : 2 ≤ 2) rfl h
theorem en68 {d : Nat} {Q : sQ} {w : sW} {x0 : Nat} {x1 : Int32} (h : sm_V (sm_VC d) 68 Q 0 [.ref x0, .int x1] [] w) : sm_D d 68 [.ref x0, .int x1] w Q := sm_D_in (by simp [Value.category]) (by decide : 2 ≤ 2) rfl h
theorem en69 {d : Nat} {Q : sQ} {w : sW} {x0 : Nat} (h : sm_V (sm_VC d) 69 Q 0 [.ref x0, sm_unk] [] w) : sm_D d 69 [.ref x0] w Q := sm_D_in (by simp [Value.category]) (by decide : 1 ≤ 2) rfl h
theorem en70 {d : Nat} {Q : sQ} {w : sW} {x0 : Nat} (h : sm_V (sm_VC d) 70 Q 0 [.ref x0, sm_unk] [] w) : sm_D d 70 [.ref x0] w Q := sm_D_in (by simp [Value.category]) (by decide : 1 ≤ 2) rfl h
theorem en71 {d : Nat} {Q : sQ} {w : sW} {x0 : Nat} {x1 : Int32} {x2 : Int32} {x3 : Int32} (h : sm_V (sm_VC d) 71 Q 0 [.ref x0, .int x1, .int x2, .int x3, sm_unk] [] w) : sm_D d 71 [.ref x0, .int x1, .int x2, .int x3] w Q := sm_D_in (by simp [Value.category]) (by decide : 4 ≤ 5) rfl h
theorem en72 {d : Nat} {Q : sQ} {w : sW} {x0 : Nat} (h : sm_V (sm_VC d) 72 Q 0 [.ref x0] [] w) : sm_D d 72 [.ref x0] w Q := sm_D_in (by simp [Value.category]) (by decide : 1 ≤ 1) rfl h
theorem en73 {d : Nat} {Q : sQ} {w : sW} {x0 : Nat} {x1 : Int32} (h : sm_V (sm_VC d) 73 Q 0 [.ref x0, .int x1, sm_unk] [] w) : sm_D d 73 [.ref x0, .int x1] w Q := sm_D_in (by simp [Value.category]) (by decide : 2 ≤ 3) rfl h
theorem en74 {d : Nat} {Q : sQ} {w : sW} {x0 : Nat} {x1 : Int32} (h : sm_V (sm_VC d) 74 Q 0 [.ref x0, .int x1, sm_unk, sm_unk, sm_unk, sm_unk] [] w) : sm_D d 74 [.ref x0, .int x1] w Q := sm_D_in (by simp [Value.category]) (by decide : 2 ≤ 6) rfl h
theorem en75 {d : Nat} {Q : sQ} {w : sW} {x0 : Nat} {x1 : Int32} (h : sm_V (sm_VC d) 75 Q 0 [.ref x0, .int x1] [] w) : sm_D d 75 [.ref x0, .int x1] w Q := sm_D_in (by simp [Value.category]) (by decide : 2 ≤ 2) rfl h
theorem en76 {d : Nat} {Q : sQ} {w : sW} {x0 : Nat} (h : sm_V (sm_VC d) 76 Q 0 [.ref x0] [] w) : sm_D d 76 [.ref x0] w Q := sm_D_in (by simp [Value.category]) (by decide : 1 ≤ 1) rfl h
theorem en77 {d : Nat} {Q : sQ} {w : sW} {x0 : Nat} {x1 : Int32} {x2 : Int32} {x3 : Int32} {x4 : Int32} (h : sm_V (sm_VC d) 77 Q 0 [.ref x0, .int x1, .int x2, .int x3, .int x4] [] w) : sm_D d 77 [.ref x0, .int x1, .int x2, .int x3, .int x4] w Q := sm_D_in (by simp [Value.category]) (by decide : 5 ≤ 5) rfl h
theorem en78 {d : Nat} {Q : sQ} {w : sW} {x0 : Nat} {x1 : Int32} {x2 : Int32} (h : sm_V (sm_VC d) 78 Q 0 [.ref x0, .int x1, .int x2] [] w) : sm_D d 78 [.ref x0, .int x1, .int x2] w Q := sm_D_in (by simp [Value.category]) (by decide : 3 ≤ 3) rfl h
theorem en79 {d : Nat} {Q : sQ} {w : sW} {x0 : Nat} (h : sm_V (sm_VC d) 79 Q 0 [.ref x0, sm_unk, sm_unk] [] w) : sm_D d 79 [.ref x0] w Q := sm_D_in (by simp [Value.category]) (by decide : 1 ≤ 3) rfl h
theorem en80 {d : Nat} {Q : sQ} {w : sW} {x0 : Nat} (h : sm_V (sm_VC d) 80 Q 0 [.ref x0] [] w) : sm_D d 80 [.ref x0] w Q := sm_D_in (by simp [Value.category]) (by decide : 1 ≤ 1) rfl h
theorem en81 {d : Nat} {Q : sQ} {w : sW} {x0 : Nat} (h : sm_V (sm_VC d) 81 Q 0 [.ref x0] [] w) : sm_D d 81 [.ref x0] w Q := sm_D_in (by simp [Value.category]) (by decide : 1 ≤ 1) rfl h
theorem en82 {d : Nat} {Q : sQ} {w : sW} {x0 : Nat} (h : sm_V (sm_VC d) 82 Q 0 [.ref x0, sm_unk, sm_unk] [] w) : sm_D d 82 [.ref x0] w Q := sm_D_in (by simp [Value.category]) (by decide : 1 ≤ 3) rfl h
theorem en83 {d : Nat} {Q : sQ} {w : sW} {x0 : Nat} {x1 : Int32} {x2 : Int32} (h : sm_V (sm_VC d) 83 Q 0 [.ref x0, .int x1, .int x2] [] w) : sm_D d 83 [.ref x0, .int x1, .int x2] w Q := sm_D_in (by simp [Value.category]) (by decide : 3 ≤ 3) rfl h
theorem en84 {d : Nat} {Q : sQ} {w : sW} {x0 : Nat} {x1 : Int32} {x2 : Int32} {x3 : Int32} (h : sm_V (sm_VC d) 84 Q 0 [.ref x0, .int x1, .int x2, .int x3] [] w) : sm_D d 84 [.ref x0, .int x1, .int x2, .int x3] w Q := sm_D_in (by simp [Value.category]) (by decide : 4 ≤ 4) rfl h
theorem en85 {d : Nat} {Q : sQ} {w : sW} {x0 : Nat} {x1 : Int32} {x2 : Int32} (h : sm_V (sm_VC d) 85 Q 0 [.ref x0, .int x1, .int x2] [] w) : sm_D d 85 [.ref x0, .int x1, .int x2] w Q := sm_D_in (by simp [Value.category]) (by decide : 3 ≤ 3) rfl h
theorem en86 {d : Nat} {Q : sQ} {w : sW} {x0 : Nat} {x1 : Int32} (h : sm_V (sm_VC d) 86 Q 0 [.ref x0, .int x1, sm_unk, sm_unk] [] w) : sm_D d 86 [.ref x0, .int x1] w Q := sm_D_in (by simp [Value.category]) (by decide : 2 ≤ 4) rfl h
theorem en87 {d : Nat} {Q : sQ} {w : sW} {x0 : Nat} {x1 : Int32} (h : sm_V (sm_VC d) 87 Q 0 [.ref x0, .int x1] [] w) : sm_D d 87 [.ref x0, .int x1] w Q := sm_D_in (by simp [Value.category]) (by decide : 2 ≤ 2) rfl h
theorem en88 {d : Nat} {Q : sQ} {w : sW} {x0 : Nat} (h : sm_V (sm_VC d) 88 Q 0 [.ref x0, sm_unk, sm_unk] [] w) : sm_D d 88 [.ref x0] w Q := sm_D_in (by simp [Value.category]) (by decide : 1 ≤ 3) rfl h
theorem en89 {d : Nat} {Q : sQ} {w : sW} {x0 : Nat} {x1 : Int32} {x2 : Int32} {x3 : Int32} (h : sm_V (sm_VC d) 89 Q 0 [.ref x0, .int x1, .int x2, .int x3, sm_unk, sm_unk, sm_unk, sm_unk] [] w) : sm_D d 89 [.ref x0, .int x1, .int x2, .int x3] w Q := sm_D_in (by simp [Value.category]) (by decide : 4 ≤ 8) rfl h
theorem en90 {d : Nat} {Q : sQ} {w : sW} {x0 : Nat} {x1 : Int32} (h : sm_V (sm_VC d) 90 Q 0 [.ref x0, .int x1, sm_unk, sm_unk] [] w) : sm_D d 90 [.ref x0, .int x1] w Q := sm_D_in (by simp [Value.category]) (by decide : 2 ≤ 4) rfl h
theorem en91 {d : Nat} {Q : sQ} {w : sW} {x0 : Nat} {x1 : Int32} {x2 : Int32} (h : sm_V (sm_VC d) 91 Q 0 [.ref x0, .int x1, .int x2, sm_unk, sm_unk] [] w) : sm_D d 91 [.ref x0, .int x1, .int x2] w Q := sm_D_in (by simp [Value.category]) (by decide : 3 ≤ 5) rfl h
theorem en92 {d : Nat} {Q : sQ} {w : sW} {x0 : Nat} {x1 : Int32} (h : sm_V (sm_VC d) 92 Q 0 [.ref x0, .int x1, sm_unk, sm_unk, sm_unk, sm_unk] [] w) : sm_D d 92 [.ref x0, .int x1] w Q := sm_D_in (by simp [Value.category]) (by decide : 2 ≤ 6) rfl h
theorem en93 {d : Nat} {Q : sQ} {w : sW} {x0 : Nat} {x1 : Int32} (h : sm_V (sm_VC d) 93 Q 0 [.ref x0, .int x1, sm_unk, sm_unk, sm_unk] [] w) : sm_D d 93 [.ref x0, .int x1] w Q := sm_D_in (by simp [Value.category]) (by decide : 2 ≤ 5) rfl h
theorem en94 {d : Nat} {Q : sQ} {w : sW} {x0 : Nat} {x1 : Int32} (h : sm_V (sm_VC d) 94 Q 0 [.ref x0, .int x1, sm_unk, sm_unk, sm_unk] [] w) : sm_D d 94 [.ref x0, .int x1] w Q := sm_D_in (by simp [Value.category]) (by decide : 2 ≤ 5) rfl h
theorem en95 {d : Nat} {Q : sQ} {w : sW} {x0 : Nat} (h : sm_V (sm_VC d) 95 Q 0 [.ref x0, sm_unk, sm_unk, sm_unk, sm_unk] [] w) : sm_D d 95 [.ref x0] w Q := sm_D_in (by simp [Value.category]) (by decide : 1 ≤ 5) rfl h
theorem en96 {d : Nat} {Q : sQ} {w : sW} {x0 : Nat} (h : sm_V (sm_VC d) 96 Q 0 [.ref x0, sm_unk, sm_unk] [] w) : sm_D d 96 [.ref x0] w Q := sm_D_in (by simp [Value.category]) (by decide : 1 ≤ 3) rfl h
theorem en97 {d : Nat} {Q : sQ} {w : sW} {x0 : Nat} {x1 : Int32} {x2 : Int32} (h : sm_V (sm_VC d) 97 Q 0 [.ref x0, .int x1, .int x2, sm_unk, sm_unk] [] w) : sm_D d 97 [.ref x0, .int x1, .int x2] w Q := sm_D_in (by simp [Value.category]) (by decide : 3 ≤ 5) rfl h
theorem en98 {d : Nat} {Q : sQ} {w : sW} {x0 : Nat} (h : sm_V (sm_VC d) 98 Q 0 [.ref x0, sm_unk] [] w) : sm_D d 98 [.ref x0] w Q := sm_D_in (by simp [Value.category]) (by decide : 1 ≤ 2) rfl h
theorem en99 {d : Nat} {Q : sQ} {w : sW} {x0 : Nat} (h : sm_V (sm_VC d) 99 Q 0 [.ref x0, sm_unk, sm_unk, sm_unk, sm_unk, sm_unk, sm_unk] [] w) : sm_D d 99 [.ref x0] w Q := sm_D_in (by simp [Value.category]) (by decide : 1 ≤ 7) rfl h
theorem en100 {d : Nat} {Q : sQ} {w : sW} {x0 : Nat} (h : sm_V (sm_VC d) 100 Q 0 [.ref x0, sm_unk] [] w) : sm_D d 100 [.ref x0] w Q := sm_D_in (by simp [Value.category]) (by decide : 1 ≤ 2) rfl h
theorem en101 {d : Nat} {Q : sQ} {w : sW} {x0 : Nat} {x1 : Int32} (h : sm_V (sm_VC d) 101 Q 0 [.ref x0, .int x1] [] w) : sm_D d 101 [.ref x0, .int x1] w Q := sm_D_in (by simp [Value.category]) (by decide : 2 ≤ 2) rfl h
theorem en102 {d : Nat} {Q : sQ} {w : sW} {x0 : Nat} {x1 : Int32} (h : sm_V (sm_VC d) 102 Q 0 [.ref x0, .int x1] [] w) : sm_D d 102 [.ref x0, .int x1] w Q := sm_D_in (by simp [Value.category]) (by decide : 2 ≤ 2) rfl h
theorem en103 {d : Nat} {Q : sQ} {w : sW} {x0 : Nat} {x1 : Int32} (h : sm_V (sm_VC d) 103 Q 0 [.ref x0, .int x1, sm_unk] [] w) : sm_D d 103 [.ref x0, .int x1] w Q := sm_D_in (by simp [Value.category]) (by decide : 2 ≤ 3) rfl h
theorem en104 {d : Nat} {Q : sQ} {w : sW} {x0 : Nat} {x1 : Int32} {x2 : Int32} (h : sm_V (sm_VC d) 104 Q 0 [.ref x0, .int x1, .int x2, sm_unk] [] w) : sm_D d 104 [.ref x0, .int x1, .int x2] w Q := sm_D_in (by simp [Value.category]) (by decide : 3 ≤ 4) rfl h
theorem en105 {d : Nat} {Q : sQ} {w : sW} {x0 : Nat} {x1 : Int32} {x2 : Int32} (h : sm_V (sm_VC d) 105 Q 0 [.ref x0, .int x1, .int x2, sm_unk] [] w) : sm_D d 105 [.ref x0, .int x1, .int x2] w Q := sm_D_in (by simp [Value.category]) (by decide : 3 ≤ 4) rfl h
theorem en106 {d : Nat} {Q : sQ} {w : sW} {x0 : Nat} {x1 : Int32} (h : sm_V (sm_VC d) 106 Q 0 [.ref x0, .int x1] [] w) : sm_D d 106 [.ref x0, .int x1] w Q := sm_D_in (by simp [Value.category]) (by decide : 2 ≤ 2) rfl h
theorem en107 {d : Nat} {Q : sQ} {w : sW} {x0 : Nat} (h : sm_V (sm_VC d) 107 Q 0 [.ref x0, sm_unk] [] w) : sm_D d 107 [.ref x0] w Q := sm_D_in (by simp [Value.category]) (by decide : 1 ≤ 2) rfl h
theorem en108 {d : Nat} {Q : sQ} {w : sW} {x0 : Nat} {x1 : Int32} {x2 : Int32} (h : sm_V (sm_VC d) 108 Q 0 [.ref x0, .int x1, .int x2] [] w) : sm_D d 108 [.ref x0, .int x1, .int x2] w Q := sm_D_in (by simp [Value.category]) (by decide : 3 ≤ 3) rfl h
theorem en109 {d : Nat} {Q : sQ} {w : sW} {x0 : Nat} {x1 : Int32} (h : sm_V (sm_VC d) 109 Q 0 [.ref x0, .int x1] [] w) : sm_D d 109 [.ref x0, .int x1] w Q := sm_D_in (by simp [Value.category]) (by decide : 2 ≤ 2) rfl h
theorem en110 {d : Nat} {Q : sQ} {w : sW} {x0 : Nat} {x1 : Int32} {x2 : Int32} {x3 : Int32} (h : sm_V (sm_VC d) 110 Q 0 [.ref x0, .int x1, .int x2, .int x3, sm_unk, sm_unk, sm_unk] [] w) : sm_D d 110 [.ref x0, .int x1, .int x2, .int x3] w Q := sm_D_in (by simp [Value.category]) (by decide : 4 ≤ 7) rfl h
theorem en111 {d : Nat} {Q : sQ} {w : sW} {x0 : Nat} {x1 : Int32} {x2 : Int32} (h : sm_V (sm_VC d) 111 Q 0 [.ref x0, .int x1, .int x2, sm_unk, sm_unk, sm_unk] [] w) : sm_D d 111 [.ref x0, .int x1, .int x2] w Q := sm_D_in (by simp [Value.category]) (by decide : 3 ≤ 6) rfl h
theorem en112 {d : Nat} {Q : sQ} {w : sW} {x0 : Nat} {x1 : Int32} {x2 : Int32} (h : sm_V (sm_VC d) 112 Q 0 [.ref x0, .int x1, .int x2] [] w) : sm_D d 112 [.ref x0, .int x1, .int x2] w Q := sm_D_in (by simp [Value.category]) (by decide : 3 ≤ 3) rfl h
theorem en113 {d : Nat} {Q : sQ} {w : sW} {x0 : Nat} {x1 : Int32} {x2 : Int32} (h : sm_V (sm_VC d) 113 Q 0 [.ref x0, .int x1, .int x2, sm_unk, sm_unk, sm_unk] [] w) : sm_D d 113 [.ref x0, .int x1, .int x2] w Q := sm_D_in (by simp [Value.category]) (by decide : 3 ≤ 6) rfl h
theorem en114 {d : Nat} {Q : sQ} {w : sW} {x0 : Nat} {x1 : Int32} (h : sm_V (sm_VC d) 114 Q 0 [.ref x0, .int x1] [] w) : sm_D d 114 [.ref x0, .int x1] w Q := sm_D_in (by simp [Value.category]) (by decide : 2 ≤ 2) rfl h
theorem en115 {d : Nat} {Q : sQ} {w : sW} {x0 : Int32} (h : sm_V (sm_VC d) 115 Q 0 [.int x0] [] w) : sm_D d 115 [.int x0] w Q := sm_D_in (by simp [Value.category]) (by decide : 1 ≤ 1) rfl h
theorem sm_one_ex {VC : sV} {y : Nat} {Q : sQ} {o : Option sC} {c : sC} (h : o = some c) : (∃ c : sC, o = some c ∧ sm_V VC y Q c.1 c.2.1 c.2.2.1 c.2.2.2) ↔ sm_V VC y Q c.1 c.2.1 c.2.2.1 c.2.2.2 := by
  subst h
  constructor
  · rintro ⟨c', h, h2⟩; cases h; exact h2
  · intro h; exact ⟨c, rfl, h⟩

