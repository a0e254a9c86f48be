set_option maxRecDepth 20000 in
theorem ggX0_isErased_X0_nextPlace : GoodIn wsX0_isErased wsX0_nextPlace := goodIn_r _ [5, 6, 7, 8, 9, 10, 11] (by decide +kernel) (by decide +kernel)
set_option maxRecDepth 20000 in
theorem gX0_isErased_X0_nextPlace : GoodIn wsX0_isErased (wsV RX0 28 RX0 yX0_nextPlace wsX0_nextPlace) := goodIn_app (goodIn_of _ (by decide +kernel)) ggX0_isErased_X0_nextPlace
set_option maxRecDepth 20000 in
theorem ggX0_takesMore_X0_nextPlace : GoodIn wsX0_takesMore wsX0_nextPlace := goodIn_r _ [6, 1, 7, 8, 9, 10, 11] (by decide +kernel) (by decide +kernel)
set_option maxRecDepth 20000 in
theorem gX0_takesMore_X0_nextPlace : GoodIn wsX0_takesMore (wsV RX0 28 RX0 yX0_nextPlace wsX0_nextPlace) := goodIn_app (goodIn_of _ (by decide +kernel)) ggX0_takesMore_X0_nextPlace
set_option maxRecDepth 20000 in
theorem ggX0_erase_J7_fill_53178 : GoodIn wsX0_erase wsJ7_fill_53178 := goodIn_r _ [7] (by decide +kernel) (by decide +kernel)
set_option maxRecDepth 20000 in
theorem gX0_erase_J7_fill_53178 : GoodIn wsX0_erase (va_wsS RX0 32 yJ7_fill_53178 wsJ7_fill_53178) := goodIn_app (goodIn_of _ (by decide +kernel)) ggX0_erase_J7_fill_53178
set_option maxRecDepth 20000 in
theorem ggX0_writeGuard_J7_fill_53178 : GoodIn wsX0_writeGuard wsJ7_fill_53178 := goodIn_r _ [8] (by decide +kernel) (by decide +kernel)
set_option maxRecDepth 20000 in
theorem gX0_writeGuard_J7_fill_53178 : GoodIn wsX0_writeGuard (va_wsS RX0 32 yJ7_fill_53178 wsJ7_fill_53178) := goodIn_app (goodIn_of _ (by decide +kernel)) ggX0_writeGuard_J7_fill_53178
set_option maxRecDepth 20000 in
theorem ggX0_stateAt_X0_isRebuilt : GoodIn wsX0_stateAt wsX0_isRebuilt := goodIn_r _ [6, 1, 7, 8, 9, 5, 10, 11, 12, 13, 14, 15, 16, 17] (by decide +kernel) (by decide +kernel)
set_option maxRecDepth 20000 in
theorem gX0_stateAt_X0_isRebuilt : GoodIn wsX0_stateAt (wsV RX0 47 RX0 yX0_isRebuilt wsX0_isRebuilt) := goodIn_app (goodIn_of _ (by decide +kernel)) ggX0_stateAt_X0_isRebuilt
set_option maxRecDepth 20000 in
theorem ggX0_isReadable_X0_isRebuilt : GoodIn wsX0_isReadable wsX0_isRebuilt := goodIn_r _ [6, 1, 7, 8, 9, 5, 10, 11, 12, 13, 14, 15, 16, 17] (by decide +kernel) (by decide +kernel)
set_option maxRecDepth 20000 in
theorem gX0_isReadable_X0_isRebuilt : GoodIn wsX0_isReadable (wsV RX0 47 RX0 yX0_isRebuilt wsX0_isRebuilt) := goodIn_app (goodIn_of _ (by decide +kernel)) ggX0_isReadable_X0_isRebuilt
set_option maxRecDepth 20000 in
theorem ggX0_isRebuilt_X0_covers : GoodIn wsX0_isRebuilt wsX0_covers := goodIn_r _ [6, 7, 8, 9, 10, 11, 12, 13] (by decide +kernel) (by decide +kernel)
set_option maxRecDepth 20000 in
theorem gX0_isRebuilt_X0_covers : GoodIn wsX0_isRebuilt (wsV RX0 51 RX0 yX0_covers wsX0_covers) := goodIn_app (goodIn_of _ (by decide +kernel)) ggX0_isRebuilt_X0_covers
set_option maxRecDepth 20000 in
theorem ggX0_byteAt_X0_covers : GoodIn wsX0_byteAt wsX0_covers := goodIn_r _ [8, 9, 3, 10, 11, 12, 13, 14] (by decide +kernel) (by decide +kernel)
set_option maxRecDepth 20000 in
theorem gX0_byteAt_X0_covers : GoodIn wsX0_byteAt (wsV RX0 51 RX0 yX0_covers wsX0_covers) := goodIn_app (goodIn_of _ (by decide +kernel)) ggX0_byteAt_X0_covers
set_option maxRecDepth 20000 in
theorem ggX0_show_X0_isReadable : GoodIn wsX0_show wsX0_isReadable := goodIn_r _ [5, 6, 7, 8, 9, 4, 10, 11, 12, 13, 14, 15, 16, 23, 24, 25, 26, 27] (by decide +kernel) (by decide +kernel)
set_option maxRecDepth 20000 in
theorem gX0_show_X0_isReadable : GoodIn wsX0_show (wsV RX0 54 RX0 yX0_isReadable wsX0_isReadable) := goodIn_app (goodIn_of _ (by decide +kernel)) ggX0_show_X0_isReadable
set_option maxRecDepth 20000 in
theorem ggX0_show_X0_byteAt : GoodIn wsX0_show wsX0_byteAt := goodIn_r _ [20, 6, 21, 16, 11, 12, 13, 4, 14, 15, 23, 24, 25, 26, 27] (by decide +kernel) (by decide +kernel)
set_option maxRecDepth 20000 in
theorem gX0_show_X0_byteAt : GoodIn wsX0_show (wsV RX0 57 RX0 yX0_byteAt wsX0_byteAt) := goodIn_app (goodIn_of _ (by decide +kernel)) ggX0_show_X0_byteAt
set_option maxRecDepth 20000 in
theorem ggX1_clear_J7_fill_53178 : GoodIn wsX1_clear wsJ7_fill_53178 := goodIn_r _ [5] (by decide +kernel) (by decide +kernel)
set_option maxRecDepth 20000 in
theorem gX1_clear_J7_fill_53178 : GoodIn wsX1_clear (va_wsS RX1 15 yJ7_fill_53178 wsJ7_fill_53178) := goodIn_app (goodIn_of _ (by decide +kernel)) ggX1_clear_J7_fill_53178
set_option maxRecDepth 20000 in
theorem ggX1_isEmpty_X1_events : GoodIn wsX1_isEmpty wsX1_events := goodIn_r _ [5, 6, 7] (by decide +kernel) (by decide +kernel)
set_option maxRecDepth 20000 in
theorem gX1_isEmpty_X1_events : GoodIn wsX1_isEmpty (wsV RX1 21 RX1 yX1_events wsX1_events) := goodIn_app (goodIn_of _ (by decide +kernel)) ggX1_isEmpty_X1_events
set_option maxRecDepth 20000 in
theorem ggX1_lastNumber_X1_firstNumber : GoodIn wsX1_lastNumber wsX1_firstNumber := goodIn_r _ [5, 6, 11] (by decide +kernel) (by decide +kernel)
set_option maxRecDepth 20000 in
theorem gX1_lastNumber_X1_firstNumber : GoodIn wsX1_lastNumber (wsV RX1 25 RX1 yX1_firstNumber wsX1_firstNumber) := goodIn_app (goodIn_of _ (by decide +kernel)) ggX1_lastNumber_X1_firstNumber
set_option maxRecDepth 20000 in
theorem ggX1_lastNumber_X1_events : GoodIn wsX1_lastNumber wsX1_events := goodIn_r _ [10, 6, 11] (by decide +kernel) (by decide +kernel)
set_option maxRecDepth 20000 in
theorem gX1_lastNumber_X1_events : GoodIn wsX1_lastNumber (wsV RX1 21 RX1 yX1_events wsX1_events) := goodIn_app (goodIn_of _ (by decide +kernel)) ggX1_lastNumber_X1_events
set_option maxRecDepth 20000 in
theorem ggX1_holds_X1_isEmpty : GoodIn wsX1_holds wsX1_isEmpty := goodIn_r _ [5, 6, 7, 8, 4, 9, 10, 19] (by decide +kernel) (by decide +kernel)
set_option maxRecDepth 20000 in
theorem gX1_holds_X1_isEmpty : GoodIn wsX1_holds (wsV RX1 28 RX1 yX1_isEmpty wsX1_isEmpty) := goodIn_app (goodIn_of _ (by decide +kernel)) ggX1_holds_X1_isEmpty
set_option maxRecDepth 20000 in
theorem ggX1_holds_X1_firstNumber : GoodIn wsX1_holds wsX1_firstNumber := goodIn_r _ [14, 10, 19] (by decide +kernel) (by decide +kernel)
set_option maxRecDepth 20000 in
theorem gX1_holds_X1_firstNumber : GoodIn wsX1_holds (wsV RX1 25 RX1 yX1_firstNumber wsX1_firstNumber) := goodIn_app (goodIn_of _ (by decide +kernel)) ggX1_holds_X1_firstNumber
set_option maxRecDepth 20000 in
theorem ggX1_holds_X1_lastNumber : GoodIn wsX1_holds wsX1_lastNumber := goodIn_r _ [18, 11, 12, 13, 4, 14, 10, 6, 7, 8, 9, 19] (by decide +kernel) (by decide +kernel)
set_option maxRecDepth 20000 in
theorem gX1_holds_X1_lastNumber : GoodIn wsX1_holds (wsV RX1 32 RX1 yX1_lastNumber wsX1_lastNumber) := goodIn_app (goodIn_of _ (by decide +kernel)) ggX1_holds_X1_lastNumber
set_option maxRecDepth 20000 in
theorem ggX1_fits_X1_events : GoodIn wsX1_fits wsX1_events := goodIn_r _ [5, 6, 11] (by decide +kernel) (by decide +kernel)
set_option maxRecDepth 20000 in
theorem gX1_fits_X1_events : GoodIn wsX1_fits (wsV RX1 21 RX1 yX1_events wsX1_events) := goodIn_app (goodIn_of _ (by decide +kernel)) ggX1_fits_X1_events
set_option maxRecDepth 20000 in
theorem ggX1_fits_X1_placeOfRow : GoodIn wsX1_fits wsX1_placeOfRow := goodIn_r _ [10, 6, 11] (by decide +kernel) (by decide +kernel)
set_option maxRecDepth 20000 in
theorem gX1_fits_X1_placeOfRow : GoodIn wsX1_fits (wsV RX1 35 RX1 yX1_placeOfRow wsX1_placeOfRow) := goodIn_app (goodIn_of _ (by decide +kernel)) ggX1_fits_X1_placeOfRow
set_option maxRecDepth 20000 in
theorem ggX1_add_X1_events : GoodIn wsX1_add wsX1_events := goodIn_r _ [7, 1, 16] (by decide +kernel) (by decide +kernel)
set_option maxRecDepth 20000 in
theorem gX1_add_X1_events : GoodIn wsX1_add (wsV RX1 21 RX1 yX1_events wsX1_events) := goodIn_app (goodIn_of _ (by decide +kernel)) ggX1_add_X1_events
set_option maxRecDepth 20000 in
theorem ggX1_add_X1_placeOfRow : GoodIn wsX1_add wsX1_placeOfRow := goodIn_r _ [11, 1, 16] (by decide +kernel) (by decide +kernel)
set_option maxRecDepth 20000 in
theorem gX1_add_X1_placeOfRow : GoodIn wsX1_add (wsV RX1 35 RX1 yX1_placeOfRow wsX1_placeOfRow) := goodIn_app (goodIn_of _ (by decide +kernel)) ggX1_add_X1_placeOfRow
set_option maxRecDepth 20000 in
theorem ggX1_add_X1_isEmpty : GoodIn wsX1_add wsX1_isEmpty := goodIn_r _ [15, 3, 4, 5, 6, 7, 1, 16] (by decide +kernel) (by decide +kernel)
set_option maxRecDepth 20000 in
theorem gX1_add_X1_isEmpty : GoodIn wsX1_add (wsV RX1 28 RX1 yX1_isEmpty wsX1_isEmpty) := goodIn_app (goodIn_of _ (by decide +kernel)) ggX1_add_X1_isEmpty
set_option maxRecDepth 20000 in
theorem ggX1_lengthOf_X1_firstNumber : GoodIn wsX1_lengthOf wsX1_firstNumber := goodIn_r _ [6, 1, 11] (by decide +kernel) (by decide +kernel)
set_option maxRecDepth 20000 in
theorem gX1_lengthOf_X1_firstNumber : GoodIn wsX1_lengthOf (wsV RX1 25 RX1 yX1_firstNumber wsX1_firstNumber) := goodIn_app (goodIn_of _ (by decide +kernel)) ggX1_lengthOf_X1_firstNumber
set_option maxRecDepth 20000 in
theorem ggX1_lengthOf_X1_placeOfRow : GoodIn wsX1_lengthOf wsX1_placeOfRow := goodIn_r _ [10, 1, 11] (by decide +kernel) (by decide +kernel)
set_option maxRecDepth 20000 in
theorem gX1_lengthOf_X1_placeOfRow : GoodIn wsX1_lengthOf (wsV RX1 35 RX1 yX1_placeOfRow wsX1_placeOfRow) := goodIn_app (goodIn_of _ (by decide +kernel)) ggX1_lengthOf_X1_placeOfRow
set_option maxRecDepth 20000 in
theorem ggX1_bytesOf_X1_firstNumber : GoodIn wsX1_bytesOf wsX1_firstNumber := goodIn_r _ [6, 1, 11] (by decide +kernel) (by decide +kernel)
set_option maxRecDepth 20000 in
theorem gX1_bytesOf_X1_firstNumber : GoodIn wsX1_bytesOf (wsV RX1 25 RX1 yX1_firstNumber wsX1_firstNumber) := goodIn_app (goodIn_of _ (by decide +kernel)) ggX1_bytesOf_X1_firstNumber
set_option maxRecDepth 20000 in
theorem ggX1_bytesOf_X1_placeOfRow : GoodIn wsX1_bytesOf wsX1_placeOfRow := goodIn_r _ [10, 1, 11] (by decide +kernel) (by decide +kernel)
set_option maxRecDepth 20000 in
theorem gX1_bytesOf_X1_placeOfRow : GoodIn wsX1_bytesOf (wsV RX1 35 RX1 yX1_placeOfRow wsX1_placeOfRow) := goodIn_app (goodIn_of _ (by decide +kernel)) ggX1_bytesOf_X1_placeOfRow
set_option maxRecDepth 20000 in
theorem ggX2_init_X1_init : GoodIn wsX2_init wsX1_init := goodIn_r _ [19, 20, 2, 3, 21, 22, 39] (by decide +kernel) (by decide +kernel)
set_option maxRecDepth 20000 in
theorem gX2_init_X1_init_n17 : GoodIn wsX2_init (wsX1_init) := ggX2_init_X1_init
set_option maxRecDepth 20000 in
theorem ggX2_init_X0_init : GoodIn wsX2_init wsX0_init := goodIn_r _ [24, 25, 2, 3, 21, 26, 27, 28, 29, 30, 40, 41, 42, 43, 44] (by decide +kernel) (by decide +kernel)
set_option maxRecDepth 20000 in
theorem gX2_init_X0_init_n42 : GoodIn wsX2_init (wsX0_init) := ggX2_init_X0_init
set_option maxRecDepth 20000 in
theorem ggX2_append_X2_requirePower : GoodIn wsX2_append wsX2_requirePower := goodIn_ca (goodIn_r _ [9, 10, 11, 12, 100, 101, 102, 103, 104, 105, 106, 107] (by decide +kernel) (by decide +kernel)) (goodIn_sub (fun _ h => List.mem_cons_of_mem _ (List.mem_append_left _ (List.mem_append_right _ h))) (by decide +kernel))
set_option maxRecDepth 20000 in
theorem gX2_append_X2_requirePower : GoodIn wsX2_append (wsV RX2 43 RX2 yX2_requirePower wsX2_requirePower) := goodIn_app (goodIn_of _ (by decide +kernel)) ggX2_append_X2_requirePower
set_option maxRecDepth 20000 in
theorem ggX2_append_X1_fits : GoodIn wsX2_append wsX1_fits := goodIn_r _ [17, 18, 19, 20, 16, 21, 22, 23, 24, 25, 26, 108] (by decide +kernel) (by decide +kernel)
set_option maxRecDepth 20000 in
theorem gX2_append_X1_fits : GoodIn wsX2_append (wsV RX2 53 RX1 yX1_fits wsX1_fits) := goodIn_app (goodIn_of _ (by decide +kernel)) ggX2_append_X1_fits
set_option maxRecDepth 20000 in
theorem ggX2_append_X2_flush : GoodIn wsX2_append wsX2_flush := goodIn_ca (goodIn_r _ [30, 31, 32, 3, 33, 34, 35, 8, 36, 37, 38, 39, 40, 41, 42, 43, 44, 45, 46, 47, 48, 49, 50, 51, 52, 53, 54, 55, 56, 57, 58, 59, 60, 61, 62, 12, 63, 64, 65, 66, 67, 68, 69, 70, 71, 72, 73, 74, 75, 76, 77, 78, 79, 80, 81, 82, 83, 84, 85, 86, 87, 88, 16, 89, 22, 90, 100, 101, 102, 103, 104, 105, 106, 107, 109, 110, 111, 112, 113, 108] (by decide +kernel) (by decide +kernel)) (goodIn_sub (fun _ h => List.mem_cons_of_mem _ (List.mem_append_right _ h)) (by decide +kernel))
set_option maxRecDepth 20000 in
theorem gX2_append_X2_flush : GoodIn wsX2_append (wsV RX2 57 RX2 yX2_flush wsX2_flush) := goodIn_app (goodIn_of _ (by decide +kernel)) ggX2_append_X2_flush
set_option maxRecDepth 20000 in
theorem ggX2_append_X1_add : GoodIn wsX2_append wsX1_add := goodIn_r _ [94, 22, 95, 18, 19, 20, 16, 21, 23, 24, 25, 26, 96, 97, 98, 99, 108] (by decide +kernel) (by decide +kernel)
set_option maxRecDepth 20000 in
theorem gX2_append_X1_add : GoodIn wsX2_append (wsV RX2 61 RX1 yX1_add wsX1_add) := goodIn_app (goodIn_of _ (by decide +kernel)) ggX2_append_X1_add
set_option maxRecDepth 20000 in
theorem ggX2_sync_X2_requirePower : GoodIn wsX2_sync wsX2_requirePower := goodIn_ca (goodIn_r _ [7, 8, 9, 10, 85, 86, 87, 88, 89, 90, 91, 92] (by decide +kernel) (by decide +kernel)) (goodIn_sub (fun _ h => List.mem_cons_of_mem _ (List.mem_append_left _ (List.mem_append_right _ h))) (by decide +kernel))
set_option maxRecDepth 20000 in
theorem gX2_sync_X2_requirePower : GoodIn wsX2_sync (wsV RX2 43 RX2 yX2_requirePower wsX2_requirePower) := goodIn_app (goodIn_of _ (by decide +kernel)) ggX2_sync_X2_requirePower
set_option maxRecDepth 20000 in
theorem ggX2_sync_X1_isEmpty : GoodIn wsX2_sync wsX1_isEmpty := goodIn_r _ [15, 16, 17, 18, 14, 19, 20, 93] (by decide +kernel) (by decide +kernel)
set_option maxRecDepth 20000 in
theorem gX2_sync_X1_isEmpty : GoodIn wsX2_sync (wsV RX2 65 RX1 yX1_isEmpty wsX1_isEmpty) := goodIn_app (goodIn_of _ (by decide +kernel)) ggX2_sync_X1_isEmpty
set_option maxRecDepth 20000 in
theorem ggX2_sync_X2_flush : GoodIn wsX2_sync wsX2_flush := goodIn_ca (goodIn_r _ [24, 25, 26, 1, 27, 28, 29, 6, 30, 31, 32, 33, 34, 35, 36, 37, 38, 39, 40, 41, 42, 43, 44, 45, 46, 47, 48, 49, 50, 51, 52, 53, 54, 55, 56, 10, 57, 58, 59, 60, 61, 62, 63, 64, 65, 66, 67, 68, 69, 70, 71, 72, 73, 74, 75, 76, 77, 78, 79, 80, 81, 82, 14, 83, 20, 84, 85, 86, 87, 88, 89, 90, 91, 92, 94, 95, 96, 97, 98, 93] (by decide +kernel) (by decide +kernel)) (goodIn_sub (fun _ h => List.mem_cons_of_mem _ (List.mem_append_right _ h)) (by decide +kernel))
set_option maxRecDepth 20000 in
theorem gX2_sync_X2_flush : GoodIn wsX2_sync (wsV RX2 57 RX2 yX2_flush wsX2_flush) := goodIn_app (goodIn_of _ (by decide +kernel)) ggX2_sync_X2_flush
set_option maxRecDepth 20000 in
theorem ggX2_off_X2_requirePower : GoodIn wsX2_off wsX2_requirePower := goodIn_ca (goodIn_r _ [7, 8, 9, 1, 16, 17, 18, 19, 20, 21, 22, 23] (by decide +kernel) (by decide +kernel)) (goodIn_sub (fun _ h => List.mem_cons_of_mem _ (List.mem_append_right _ h)) (by decide +kernel))
set_option maxRecDepth 20000 in
theorem gX2_off_X2_requirePower : GoodIn wsX2_off (wsV RX2 43 RX2 yX2_requirePower wsX2_requirePower) := goodIn_app (goodIn_of _ (by decide +kernel)) ggX2_off_X2_requirePower
set_option maxRecDepth 20000 in
theorem ggX2_off_X1_events : GoodIn wsX2_off wsX1_events := goodIn_r _ [14, 15, 24] (by decide +kernel) (by decide +kernel)
set_option maxRecDepth 20000 in
theorem gX2_off_X1_events : GoodIn wsX2_off (wsV RX2 70 RX1 yX1_events wsX1_events) := goodIn_app (goodIn_of _ (by decide +kernel)) ggX2_off_X1_events
set_option maxRecDepth 20000 in
theorem ggX2_start_X1_clear : GoodIn wsX2_start wsX1_clear := goodIn_r _ [10, 11, 12, 13, 14, 15, 101] (by decide +kernel) (by decide +kernel)
set_option maxRecDepth 20000 in
theorem gX2_start_X1_clear : GoodIn wsX2_start (wsV RX2 79 RX1 yX1_clear wsX1_clear) := goodIn_app (goodIn_of _ (by decide +kernel)) ggX2_start_X1_clear
set_option maxRecDepth 20000 in
theorem ggX2_start_X2_eraseUnreadableBlocks : GoodIn wsX2_start wsX2_eraseUnreadableBlocks := goodIn_r _ [20, 21, 22, 23, 24, 25, 26, 27, 28, 29, 30, 31, 32, 33, 34, 19, 35, 36, 37, 38, 39, 40, 41, 42, 43, 44, 45, 46, 47, 48, 49, 50, 51, 52, 53, 54, 55, 56, 57, 58, 59, 60, 61, 62, 63, 64, 65, 66, 9, 67, 68, 69, 70, 71, 11, 72, 73, 74, 75, 76, 77, 78, 79, 80, 81, 13, 14, 15, 93, 94, 95, 96, 97, 98, 99, 100, 102, 103, 104, 105, 106, 101] (by decide +kernel) (by decide +kernel)
set_option maxRecDepth 20000 in
theorem gX2_start_X2_eraseUnreadableBlocks : GoodIn wsX2_start (wsV RX2 82 RX2 yX2_eraseUnreadableBlocks wsX2_eraseUnreadableBlocks) := goodIn_app (goodIn_of _ (by decide +kernel)) ggX2_start_X2_eraseUnreadableBlocks
set_option maxRecDepth 20000 in
theorem ggX2_start_X2_findEvents : GoodIn wsX2_start wsX2_findEvents := goodIn_r _ [85, 86, 21, 87, 5, 88, 89, 90, 19, 91, 36, 41, 42, 43, 25, 44, 45, 46, 47, 48, 31, 49, 50, 51, 52, 53, 54, 55, 56, 57, 58, 59, 60, 61, 62, 63, 92, 69, 70, 9, 71, 11, 32, 33, 34, 35, 37, 38, 39, 40, 64, 65, 66, 67, 68, 72, 73, 74, 75, 93, 94, 95, 96, 97, 98, 99, 100, 101, 102, 103, 104, 105, 106] (by decide +kernel) (by decide +kernel)
set_option maxRecDepth 20000 in
theorem gX2_start_X2_findEvents : GoodIn wsX2_start (wsV RX2 85 RX2 yX2_findEvents wsX2_findEvents) := goodIn_app (goodIn_of _ (by decide +kernel)) ggX2_start_X2_findEvents
set_option maxRecDepth 20000 in
theorem ggX2_trim_X2_requirePower : GoodIn wsX2_trim wsX2_requirePower := goodIn_ca (goodIn_r _ [11, 12, 13, 14, 80, 81, 82, 83, 84, 85, 86, 87] (by decide +kernel) (by decide +kernel)) (goodIn_sub (fun _ h => List.mem_cons_of_mem _ (List.mem_append_right _ h)) (by decide +kernel))
set_option maxRecDepth 20000 in
theorem gX2_trim_X2_requirePower : GoodIn wsX2_trim (wsV RX2 43 RX2 yX2_requirePower wsX2_requirePower) := goodIn_app (goodIn_of _ (by decide +kernel)) ggX2_trim_X2_requirePower
set_option maxRecDepth 20000 in
theorem ggX2_trim_X0_isErased : GoodIn wsX2_trim wsX0_isErased := goodIn_r _ [19, 20, 21, 22, 18, 23, 24, 88, 89, 90, 91, 92] (by decide +kernel) (by decide +kernel)
set_option maxRecDepth 20000 in
theorem gX2_trim_X0_isErased : GoodIn wsX2_trim (wsV RX2 90 RX0 yX0_isErased wsX0_isErased) := goodIn_app (goodIn_of _ (by decide +kernel)) ggX2_trim_X0_isErased
set_option maxRecDepth 20000 in
theorem ggX2_trim_X2_greatestEvent : GoodIn wsX2_trim wsX2_greatestEvent := goodIn_r _ [28, 29, 30, 31, 32, 33, 34, 35, 36, 18, 37, 38, 39, 40, 41, 24, 42, 43, 44, 45, 46, 47, 48, 49, 50, 51, 52, 53, 54, 55, 56, 57, 58, 59, 60, 61, 62, 63, 64, 65, 66, 67, 68, 69, 70, 80, 81, 82, 83, 84, 85, 86, 87, 93, 88, 89, 90, 91, 92] (by decide +kernel) (by decide +kernel)
set_option maxRecDepth 20000 in
theorem gX2_trim_X2_greatestEvent : GoodIn wsX2_trim (wsV RX2 93 RX2 yX2_greatestEvent wsX2_greatestEvent) := goodIn_app (goodIn_of _ (by decide +kernel)) ggX2_trim_X2_greatestEvent
set_option maxRecDepth 20000 in
theorem ggX2_trim_X0_erase : GoodIn wsX2_trim wsX0_erase := goodIn_r _ [74, 24, 50, 75, 76, 77, 78, 79, 88, 89, 90, 91, 92] (by decide +kernel) (by decide +kernel)
set_option maxRecDepth 20000 in
theorem gX2_trim_X0_erase : GoodIn wsX2_trim (wsV RX2 97 RX0 yX0_erase wsX0_erase) := goodIn_app (goodIn_of _ (by decide +kernel)) ggX2_trim_X0_erase
set_option maxRecDepth 20000 in
theorem ggX2_first_X2_requirePower : GoodIn wsX2_first wsX2_requirePower := goodIn_ca (goodIn_r _ [6, 7, 8, 9, 10, 11, 12, 13, 14, 15, 16, 17] (by decide +kernel) (by decide +kernel)) (goodIn_sub (fun _ h => List.mem_cons_of_mem _ (List.mem_append_right _ h)) (by decide +kernel))
set_option maxRecDepth 20000 in
theorem gX2_first_X2_requirePower : GoodIn wsX2_first (wsV RX2 43 RX2 yX2_requirePower wsX2_requirePower) := goodIn_app (goodIn_of _ (by decide +kernel)) ggX2_first_X2_requirePower
set_option maxRecDepth 20000 in
theorem ggX2_count_X2_requirePower : GoodIn wsX2_count wsX2_requirePower := goodIn_ca (goodIn_r _ [6, 7, 8, 9, 10, 11, 12, 13, 14, 15, 16, 17] (by decide +kernel) (by decide +kernel)) (goodIn_sub (fun _ h => List.mem_cons_of_mem _ (List.mem_append_right _ h)) (by decide +kernel))
set_option maxRecDepth 20000 in
theorem gX2_count_X2_requirePower : GoodIn wsX2_count (wsV RX2 43 RX2 yX2_requirePower wsX2_requirePower) := goodIn_app (goodIn_of _ (by decide +kernel)) ggX2_count_X2_requirePower
set_option maxRecDepth 20000 in
theorem ggX2_length_X2_requirePower : GoodIn wsX2_length wsX2_requirePower := goodIn_ca (goodIn_r _ [5, 6, 7, 8, 79, 80, 81, 82, 83, 84, 85, 86] (by decide +kernel) (by decide +kernel)) (goodIn_sub (fun _ h => List.mem_cons_of_mem _ (List.mem_append_left _ (List.mem_append_right _ h))) (by decide +kernel))
set_option maxRecDepth 20000 in
theorem gX2_length_X2_requirePower : GoodIn wsX2_length (wsV RX2 43 RX2 yX2_requirePower wsX2_requirePower) := goodIn_app (goodIn_of _ (by decide +kernel)) ggX2_length_X2_requirePower
set_option maxRecDepth 20000 in
theorem ggX2_length_X2_requireEvent : GoodIn wsX2_length wsX2_requireEvent := goodIn_ca (goodIn_r _ [12, 13, 14, 15, 16, 79, 80, 81, 82, 83, 84, 85, 86] (by decide +kernel) (by decide +kernel)) (goodIn_sub (fun _ h => List.mem_cons_of_mem _ (List.mem_append_right _ h)) (by decide +kernel))
set_option maxRecDepth 20000 in
theorem gX2_length_X2_requireEvent : GoodIn wsX2_length (wsV RX2 100 RX2 yX2_requireEvent wsX2_requireEvent) := goodIn_app (goodIn_of _ (by decide +kernel)) ggX2_length_X2_requireEvent
set_option maxRecDepth 20000 in
theorem ggX2_length_X2_pageWith : GoodIn wsX2_length wsX2_pageWith := goodIn_r _ [20, 21, 22, 23, 24, 25, 26, 27, 28, 29, 30, 31, 32, 33, 34, 35, 36, 37, 38, 39, 40, 41, 42, 43, 44, 45, 46, 47, 48, 49, 50, 51, 52, 53, 54, 55, 56, 57, 58, 59, 60, 61, 62, 63, 64, 65, 66, 67, 68, 69, 70, 79, 80, 81, 82, 83, 84, 85, 86, 87, 88, 89, 90, 91, 92] (by decide +kernel) (by decide +kernel)
set_option maxRecDepth 20000 in
theorem gX2_length_X2_pageWith : GoodIn wsX2_length (wsV RX2 104 RX2 yX2_pageWith wsX2_pageWith) := goodIn_app (goodIn_of _ (by decide +kernel)) ggX2_length_X2_pageWith
set_option maxRecDepth 20000 in
theorem ggX2_length_X1_lengthOf : GoodIn wsX2_length wsX1_lengthOf := goodIn_r _ [74, 37, 38, 39, 40, 27, 41, 75, 76, 77, 78, 87] (by decide +kernel) (by decide +kernel)
set_option maxRecDepth 20000 in
theorem gX2_length_X1_lengthOf : GoodIn wsX2_length (wsV RX2 108 RX1 yX1_lengthOf wsX1_lengthOf) := goodIn_app (goodIn_of _ (by decide +kernel)) ggX2_length_X1_lengthOf
set_option maxRecDepth 20000 in
theorem ggX2_event_X2_requirePower : GoodIn wsX2_event wsX2_requirePower := goodIn_ca (goodIn_r _ [7, 8, 9, 10, 81, 82, 83, 84, 85, 86, 87, 88] (by decide +kernel) (by decide +kernel)) (goodIn_sub (fun _ h => List.mem_cons_of_mem _ (List.mem_append_left _ (List.mem_append_right _ h))) (by decide +kernel))
set_option maxRecDepth 20000 in
theorem gX2_event_X2_requirePower : GoodIn wsX2_event (wsV RX2 43 RX2 yX2_requirePower wsX2_requirePower) := goodIn_app (goodIn_of _ (by decide +kernel)) ggX2_event_X2_requirePower
set_option maxRecDepth 20000 in
theorem ggX2_event_X2_requireEvent : GoodIn wsX2_event wsX2_requireEvent := goodIn_ca (goodIn_r _ [14, 15, 16, 17, 18, 81, 82, 83, 84, 85, 86, 87, 88] (by decide +kernel) (by decide +kernel)) (goodIn_sub (fun _ h => List.mem_cons_of_mem _ (List.mem_append_right _ h)) (by decide +kernel))
set_option maxRecDepth 20000 in
theorem gX2_event_X2_requireEvent : GoodIn wsX2_event (wsV RX2 100 RX2 yX2_requireEvent wsX2_requireEvent) := goodIn_app (goodIn_of _ (by decide +kernel)) ggX2_event_X2_requireEvent
set_option maxRecDepth 20000 in
theorem ggX2_event_X2_pageWith : GoodIn wsX2_event wsX2_pageWith := goodIn_r _ [22, 23, 24, 25, 26, 27, 28, 29, 30, 31, 32, 33, 34, 35, 36, 37, 38, 39, 40, 41, 42, 43, 44, 45, 46, 47, 48, 49, 50, 51, 52, 53, 54, 55, 56, 57, 58, 59, 60, 61, 62, 63, 64, 65, 66, 67, 68, 69, 70, 71, 72, 81, 82, 83, 84, 85, 86, 87, 88, 89, 90, 91, 92, 93, 94] (by decide +kernel) (by decide +kernel)
set_option maxRecDepth 20000 in
theorem gX2_event_X2_pageWith : GoodIn wsX2_event (wsV RX2 104 RX2 yX2_pageWith wsX2_pageWith) := goodIn_app (goodIn_of _ (by decide +kernel)) ggX2_event_X2_pageWith
set_option maxRecDepth 20000 in
theorem ggX2_event_X1_bytesOf : GoodIn wsX2_event wsX1_bytesOf := goodIn_r _ [76, 39, 40, 41, 42, 29, 43, 77, 78, 79, 80, 89] (by decide +kernel) (by decide +kernel)
set_option maxRecDepth 20000 in
theorem gX2_event_X1_bytesOf : GoodIn wsX2_event (wsV RX2 117 RX1 yX1_bytesOf wsX1_bytesOf) := goodIn_app (goodIn_of _ (by decide +kernel)) ggX2_event_X1_bytesOf
set_option maxRecDepth 20000 in
theorem ggX2_ruin_X2_requireLine : GoodIn wsX2_ruin wsX2_requireLine := goodIn_ca (goodIn_r _ [5, 6, 7, 8, 9, 4, 10] (by decide +kernel) (by decide +kernel)) (goodIn_sub (fun _ h => List.mem_cons_of_mem _ (List.mem_append_right _ h)) (by decide +kernel))
set_option maxRecDepth 20000 in
theorem gX2_ruin_X2_requireLine : GoodIn wsX2_ruin (va_wsS RX2 121 yX2_requireLine wsX2_requireLine) := goodIn_app (goodIn_of _ (by decide +kernel)) ggX2_ruin_X2_requireLine
set_option maxRecDepth 20000 in
theorem ggX2_ruin_X2_placeOf : GoodIn wsX2_ruin wsX2_placeOf := goodIn_r _ [13] (by decide +kernel) (by decide +kernel)
set_option maxRecDepth 20000 in
theorem gX2_ruin_X2_placeOf : GoodIn wsX2_ruin (va_wsS RX2 125 yX2_placeOf wsX2_placeOf) := goodIn_app (goodIn_of _ (by decide +kernel)) ggX2_ruin_X2_placeOf
set_option maxRecDepth 20000 in
theorem ggX2_ruin_X0_ruinWritten : GoodIn wsX2_ruin wsX0_ruinWritten := goodIn_r _ [18, 19, 28, 29, 30, 31, 32] (by decide +kernel) (by decide +kernel)
set_option maxRecDepth 20000 in
theorem gX2_ruin_X0_ruinWritten : GoodIn wsX2_ruin (wsV RX2 129 RX0 yX0_ruinWritten wsX0_ruinWritten) := goodIn_app (goodIn_of _ (by decide +kernel)) ggX2_ruin_X0_ruinWritten
set_option maxRecDepth 20000 in
theorem ggX2_page_X2_requireLine : GoodIn wsX2_page wsX2_requireLine := goodIn_ca (goodIn_r _ [5, 6, 7, 8, 9, 4, 10] (by decide +kernel) (by decide +kernel)) (goodIn_sub (fun _ h => List.mem_cons_of_mem _ (List.mem_append_right _ h)) (by decide +kernel))
set_option maxRecDepth 20000 in
theorem gX2_page_X2_requireLine : GoodIn wsX2_page (va_wsS RX2 121 yX2_requireLine wsX2_requireLine) := goodIn_app (goodIn_of _ (by decide +kernel)) ggX2_page_X2_requireLine
set_option maxRecDepth 20000 in
theorem ggX2_page_X2_placeOf : GoodIn wsX2_page wsX2_placeOf := goodIn_r _ [13] (by decide +kernel) (by decide +kernel)
set_option maxRecDepth 20000 in
theorem gX2_page_X2_placeOf : GoodIn wsX2_page (va_wsS RX2 125 yX2_placeOf wsX2_placeOf) := goodIn_app (goodIn_of _ (by decide +kernel)) ggX2_page_X2_placeOf
set_option maxRecDepth 20000 in
theorem ggX2_page_X0_stateAt : GoodIn wsX2_page wsX0_stateAt := goodIn_r _ [18, 19, 20, 21, 22, 17, 23, 24, 25, 26, 27, 28, 29, 38, 39, 40, 41, 42] (by decide +kernel) (by decide +kernel)
set_option maxRecDepth 20000 in
theorem gX2_page_X0_stateAt : GoodIn wsX2_page (wsV RX2 132 RX0 yX0_stateAt wsX0_stateAt) := goodIn_app (goodIn_of _ (by decide +kernel)) ggX2_page_X0_stateAt
set_option maxRecDepth 20000 in
theorem ggX2_at_X2_requireLine : GoodIn wsX2_at wsX2_requireLine := goodIn_ca (goodIn_r _ [9, 1, 2, 10, 11, 8, 12] (by decide +kernel) (by decide +kernel)) (goodIn_sub (fun _ h => List.mem_cons_of_mem _ (List.mem_append_left _ (List.mem_append_right _ h))) (by decide +kernel))
set_option maxRecDepth 20000 in
theorem gX2_at_X2_requireLine : GoodIn wsX2_at (va_wsS RX2 121 yX2_requireLine wsX2_requireLine) := goodIn_app (goodIn_of _ (by decide +kernel)) ggX2_at_X2_requireLine
set_option maxRecDepth 20000 in
theorem ggX2_at_X2_placeOf : GoodIn wsX2_at wsX2_placeOf := goodIn_r _ [15] (by decide +kernel) (by decide +kernel)
set_option maxRecDepth 20000 in
theorem gX2_at_X2_placeOf : GoodIn wsX2_at (va_wsS RX2 125 yX2_placeOf wsX2_placeOf) := goodIn_app (goodIn_of _ (by decide +kernel)) ggX2_at_X2_placeOf
set_option maxRecDepth 20000 in
theorem ggX2_at_X0_isReadable : GoodIn wsX2_at wsX0_isReadable := goodIn_r _ [20, 21, 22, 23, 24, 19, 25, 26, 27, 28, 29, 30, 31, 45, 46, 47, 48, 49] (by decide +kernel) (by decide +kernel)
set_option maxRecDepth 20000 in
theorem gX2_at_X0_isReadable : GoodIn wsX2_at (wsV RX2 140 RX0 yX0_isReadable wsX0_isReadable) := goodIn_app (goodIn_of _ (by decide +kernel)) ggX2_at_X0_isReadable
set_option maxRecDepth 20000 in
theorem ggX2_at_X0_byteAt : GoodIn wsX2_at wsX0_byteAt := goodIn_r _ [35, 21, 36, 31, 26, 27, 28, 19, 29, 30, 45, 46, 47, 48, 49] (by decide +kernel) (by decide +kernel)
set_option maxRecDepth 20000 in
theorem gX2_at_X0_byteAt : GoodIn wsX2_at (wsV RX2 145 RX0 yX0_byteAt wsX0_byteAt) := goodIn_app (goodIn_of _ (by decide +kernel)) ggX2_at_X0_byteAt
set_option maxRecDepth 20000 in
theorem ggX2_guard_X2_requireBlock : GoodIn wsX2_guard wsX2_requireBlock := goodIn_ca (goodIn_r _ [5, 6, 7] (by decide +kernel) (by decide +kernel)) (goodIn_sub (fun _ h => List.mem_cons_of_mem _ (List.mem_append_right _ h)) (by decide +kernel))
set_option maxRecDepth 20000 in
theorem gX2_guard_X2_requireBlock : GoodIn wsX2_guard (va_wsS RX2 149 yX2_requireBlock wsX2_requireBlock) := goodIn_app (goodIn_of _ (by decide +kernel)) ggX2_guard_X2_requireBlock
set_option maxRecDepth 20000 in
theorem ggX2_guarded_X2_requireBlock : GoodIn wsX2_guarded wsX2_requireBlock := goodIn_ca (goodIn_r _ [9, 1, 2] (by decide +kernel) (by decide +kernel)) (goodIn_sub (fun _ h => List.mem_cons_of_mem _ (List.mem_append_left _ (List.mem_append_right _ h))) (by decide +kernel))
set_option maxRecDepth 20000 in
theorem gX2_guarded_X2_requireBlock : GoodIn wsX2_guarded (va_wsS RX2 149 yX2_requireBlock wsX2_requireBlock) := goodIn_app (goodIn_of _ (by decide +kernel)) ggX2_guarded_X2_requireBlock
set_option maxRecDepth 20000 in
theorem ggX2_told_X2_erasedBlocks : GoodIn wsX2_told wsX2_erasedBlocks := goodIn_r _ [9, 1, 10, 11, 12, 13, 14, 15, 16, 17, 18, 19, 20, 21, 22, 23, 24, 25, 26, 27, 28, 29, 30, 31, 32] (by decide +kernel) (by decide +kernel)
set_option maxRecDepth 20000 in
theorem gX2_told_X2_erasedBlocks : GoodIn wsX2_told (wsV RX2 164 RX2 yX2_erasedBlocks wsX2_erasedBlocks) := goodIn_app (goodIn_of _ (by decide +kernel)) ggX2_told_X2_erasedBlocks
set_option maxRecDepth 20000 in
theorem ggX2_requireLine_X2_requireBlock : GoodIn wsX2_requireLine wsX2_requireBlock := goodIn_ca (goodIn_r _ [6, 1, 2] (by decide +kernel) (by decide +kernel)) (goodIn_sub (fun _ h => List.mem_cons_of_mem _ (List.mem_append_right _ h)) (by decide +kernel))
set_option maxRecDepth 20000 in
theorem gX2_requireLine_X2_requireBlock : GoodIn wsX2_requireLine (va_wsS RX2 149 yX2_requireBlock wsX2_requireBlock) := goodIn_app (goodIn_of _ (by decide +kernel)) ggX2_requireLine_X2_requireBlock
set_option maxRecDepth 20000 in
theorem ggX2_flush_X2_blockToProgram : GoodIn wsX2_flush wsX2_blockToProgram := goodIn_ca (goodIn_r _ [8, 9, 10, 2, 1, 11, 12, 13, 14, 15, 16, 17, 18, 19, 20, 21, 22, 23, 24, 66, 67, 68, 69, 70, 71, 72, 73, 74, 75, 76, 77, 78] (by decide +kernel) (by decide +kernel)) (goodIn_sub (fun _ h => List.mem_cons_of_mem _ (List.mem_append_right _ h)) (by decide +kernel))
set_option maxRecDepth 20000 in
theorem gX2_flush_X2_blockToProgram : GoodIn wsX2_flush (wsV RX2 175 RX2 yX2_blockToProgram wsX2_blockToProgram) := goodIn_app (goodIn_of _ (by decide +kernel)) ggX2_flush_X2_blockToProgram
set_option maxRecDepth 20000 in
theorem ggX2_flush_X0_nextPlace : GoodIn wsX2_flush wsX0_nextPlace := goodIn_r _ [20, 16, 74, 75, 76, 77, 78] (by decide +kernel) (by decide +kernel)
set_option maxRecDepth 20000 in
theorem gX2_flush_X0_nextPlace : GoodIn wsX2_flush (wsV RX2 178 RX0 yX0_nextPlace wsX0_nextPlace) := goodIn_app (goodIn_of _ (by decide +kernel)) ggX2_flush_X0_nextPlace
set_option maxRecDepth 20000 in
theorem ggX2_flush_X2_programGuard : GoodIn wsX2_flush wsX2_programGuard := goodIn_r _ [29, 30, 31, 32, 7, 33, 34, 35, 36, 37, 38, 14, 39, 40, 16, 41, 42, 43, 44, 45, 46, 74, 75, 76, 77, 78, 66, 67, 68, 69, 70, 71, 72, 73] (by decide +kernel) (by decide +kernel)
set_option maxRecDepth 20000 in
theorem gX2_flush_X2_programGuard : GoodIn wsX2_flush (wsV RX2 181 RX2 yX2_programGuard wsX2_programGuard) := goodIn_app (goodIn_of _ (by decide +kernel)) ggX2_flush_X2_programGuard
set_option maxRecDepth 20000 in
theorem ggX2_flush_X2_cutIsDue : GoodIn wsX2_flush wsX2_cutIsDue := goodIn_r _ [33, 34, 35, 66, 67, 68, 69, 70, 71, 72, 73] (by decide +kernel) (by decide +kernel)
set_option maxRecDepth 20000 in
theorem gX2_flush_X2_cutIsDue : GoodIn wsX2_flush (wsV RX2 185 RX2 yX2_cutIsDue wsX2_cutIsDue) := goodIn_app (goodIn_of _ (by decide +kernel)) ggX2_flush_X2_cutIsDue
set_option maxRecDepth 20000 in
theorem ggX2_flush_X0_cutAt : GoodIn wsX2_flush wsX0_cutAt := goodIn_r _ [50, 16, 74, 75, 76, 77, 78] (by decide +kernel) (by decide +kernel)
set_option maxRecDepth 20000 in
theorem gX2_flush_X0_cutAt : GoodIn wsX2_flush (wsV RX2 188 RX0 yX0_cutAt wsX0_cutAt) := goodIn_app (goodIn_of _ (by decide +kernel)) ggX2_flush_X0_cutAt
set_option maxRecDepth 20000 in
theorem ggX2_flush_X0_write : GoodIn wsX2_flush wsX0_write := goodIn_r _ [54, 16, 41, 55, 56, 57, 58, 74, 75, 76, 77, 78, 79] (by decide +kernel) (by decide +kernel)
set_option maxRecDepth 20000 in
theorem gX2_flush_X0_write : GoodIn wsX2_flush (wsV RX2 191 RX0 yX0_write wsX0_write) := goodIn_app (goodIn_of _ (by decide +kernel)) ggX2_flush_X0_write
set_option maxRecDepth 20000 in
theorem ggX2_flush_X1_clear : GoodIn wsX2_flush wsX1_clear := goodIn_r _ [63, 64, 65, 44, 45, 46, 79] (by decide +kernel) (by decide +kernel)
set_option maxRecDepth 20000 in
theorem gX2_flush_X1_clear : GoodIn wsX2_flush (wsV RX2 79 RX1 yX1_clear wsX1_clear) := goodIn_app (goodIn_of _ (by decide +kernel)) ggX2_flush_X1_clear
set_option maxRecDepth 20000 in
theorem ggX2_blockToProgram_X0_takesMore : GoodIn wsX2_blockToProgram wsX0_takesMore := goodIn_r _ [9, 10, 11, 12, 13, 8, 14, 27, 28, 29, 30, 31] (by decide +kernel) (by decide +kernel)
set_option maxRecDepth 20000 in
theorem gX2_blockToProgram_X0_takesMore : GoodIn wsX2_blockToProgram (wsV RX2 195 RX0 yX0_takesMore wsX0_takesMore) := goodIn_app (goodIn_of _ (by decide +kernel)) ggX2_blockToProgram_X0_takesMore
set_option maxRecDepth 20000 in
theorem ggX2_blockToProgram_X0_isErased : GoodIn wsX2_blockToProgram wsX0_isErased := goodIn_r _ [18, 11, 12, 13, 8, 14, 10, 27, 28, 29, 30, 31] (by decide +kernel) (by decide +kernel)
set_option maxRecDepth 20000 in
theorem gX2_blockToProgram_X0_isErased : GoodIn wsX2_blockToProgram (wsV RX2 90 RX0 yX0_isErased wsX0_isErased) := goodIn_app (goodIn_of _ (by decide +kernel)) ggX2_blockToProgram_X0_isErased
set_option maxRecDepth 20000 in
theorem ggX2_programGuard_X2_cutIsDue : GoodIn wsX2_programGuard wsX2_cutIsDue := goodIn_r _ [5, 6, 7, 26, 27, 28, 29, 30, 31, 32, 33] (by decide +kernel) (by decide +kernel)
set_option maxRecDepth 20000 in
theorem gX2_programGuard_X2_cutIsDue : GoodIn wsX2_programGuard (wsV RX2 185 RX2 yX2_cutIsDue wsX2_cutIsDue) := goodIn_app (goodIn_of _ (by decide +kernel)) ggX2_programGuard_X2_cutIsDue
set_option maxRecDepth 20000 in
theorem ggX2_programGuard_X0_writeGuard : GoodIn wsX2_programGuard wsX0_writeGuard := goodIn_r _ [12, 13, 14, 15, 16, 17, 18, 19, 20, 21, 22, 23, 24, 25] (by decide +kernel) (by decide +kernel)
set_option maxRecDepth 20000 in
theorem gX2_programGuard_X0_writeGuard : GoodIn wsX2_programGuard (wsV RX2 203 RX0 yX0_writeGuard wsX0_writeGuard) := goodIn_app (goodIn_of _ (by decide +kernel)) ggX2_programGuard_X0_writeGuard
set_option maxRecDepth 20000 in
theorem ggX2_eraseUnreadableBlocks_X0_isErased : GoodIn wsX2_eraseUnreadableBlocks wsX0_isErased := goodIn_r _ [6, 7, 8, 9, 5, 10, 11, 76, 77, 78, 79, 80] (by decide +kernel) (by decide +kernel)
set_option maxRecDepth 20000 in
theorem gX2_eraseUnreadableBlocks_X0_isErased : GoodIn wsX2_eraseUnreadableBlocks (wsV RX2 90 RX0 yX0_isErased wsX0_isErased) := goodIn_app (goodIn_of _ (by decide +kernel)) ggX2_eraseUnreadableBlocks_X0_isErased
set_option maxRecDepth 20000 in
theorem ggX2_eraseUnreadableBlocks_X2_greatestEvent : GoodIn wsX2_eraseUnreadableBlocks wsX2_greatestEvent := goodIn_r _ [16, 17, 18, 19, 20, 21, 22, 23, 24, 5, 25, 26, 27, 28, 29, 11, 30, 31, 32, 33, 34, 35, 36, 37, 38, 39, 40, 41, 42, 43, 44, 45, 46, 47, 48, 49, 50, 51, 52, 53, 54, 55, 56, 57, 58, 68, 69, 70, 71, 72, 73, 74, 75, 81, 76, 77, 78, 79, 80] (by decide +kernel) (by decide +kernel)
set_option maxRecDepth 20000 in
theorem gX2_eraseUnreadableBlocks_X2_greatestEvent : GoodIn wsX2_eraseUnreadableBlocks (wsV RX2 93 RX2 yX2_greatestEvent wsX2_greatestEvent) := goodIn_app (goodIn_of _ (by decide +kernel)) ggX2_eraseUnreadableBlocks_X2_greatestEvent
set_option maxRecDepth 20000 in
theorem ggX2_eraseUnreadableBlocks_X0_erase : GoodIn wsX2_eraseUnreadableBlocks wsX0_erase := goodIn_r _ [62, 11, 38, 63, 64, 65, 66, 67, 76, 77, 78, 79, 80] (by decide +kernel) (by decide +kernel)
set_option maxRecDepth 20000 in
theorem gX2_eraseUnreadableBlocks_X0_erase : GoodIn wsX2_eraseUnreadableBlocks (wsV RX2 97 RX0 yX0_erase wsX0_erase) := goodIn_app (goodIn_of _ (by decide +kernel)) ggX2_eraseUnreadableBlocks_X0_erase
set_option maxRecDepth 20000 in
theorem ggX2_findEvents_X2_leastEvent : GoodIn wsX2_findEvents wsX2_leastEvent := goodIn_r _ [9, 10, 11, 12, 13, 14, 15, 16, 17, 18, 19, 20, 21, 22, 23, 24, 25, 26, 27, 28, 29, 30, 31, 32, 33, 34, 35, 36, 37, 38, 39, 40, 41, 59, 60, 61, 62, 63, 64, 65, 66, 67, 68, 69, 70, 71, 72] (by decide +kernel) (by decide +kernel)
set_option maxRecDepth 20000 in
theorem gX2_findEvents_X2_leastEvent : GoodIn wsX2_findEvents (wsV RX2 206 RX2 yX2_leastEvent wsX2_leastEvent) := goodIn_app (goodIn_of _ (by decide +kernel)) ggX2_findEvents_X2_leastEvent
set_option maxRecDepth 20000 in
theorem ggX2_findEvents_X2_greatestEvent : GoodIn wsX2_findEvents wsX2_greatestEvent := goodIn_r _ [45, 10, 46, 47, 48, 49, 11, 12, 13, 14, 15, 16, 17, 18, 19, 20, 21, 22, 23, 24, 25, 26, 27, 28, 29, 30, 31, 32, 33, 34, 35, 50, 51, 52, 39, 53, 54, 37, 38, 40, 41, 55, 56, 57, 58, 59, 60, 61, 62, 63, 64, 65, 66, 67, 68, 69, 70, 71, 72] (by decide +kernel) (by decide +kernel)
set_option maxRecDepth 20000 in
theorem gX2_findEvents_X2_greatestEvent : GoodIn wsX2_findEvents (wsV RX2 93 RX2 yX2_greatestEvent wsX2_greatestEvent) := goodIn_app (goodIn_of _ (by decide +kernel)) ggX2_findEvents_X2_greatestEvent
set_option maxRecDepth 20000 in
theorem ggX2_leastEvent_X0_show : GoodIn wsX2_leastEvent wsX0_show := goodIn_r _ [6, 7, 8, 9, 5, 10, 11, 12, 13, 14, 15, 16, 17, 18, 19, 20, 21, 22, 23, 24, 25, 26, 41, 42, 43, 44, 45, 46] (by decide +kernel) (by decide +kernel)
set_option maxRecDepth 20000 in
theorem gX2_leastEvent_X0_show : GoodIn wsX2_leastEvent (wsV RX2 209 RX0 yX0_show wsX0_show) := goodIn_app (goodIn_of _ (by decide +kernel)) ggX2_leastEvent_X0_show
set_option maxRecDepth 20000 in
theorem ggX2_leastEvent_X1_firstNumber : GoodIn wsX2_leastEvent wsX1_firstNumber := goodIn_r _ [31, 32, 41] (by decide +kernel) (by decide +kernel)
set_option maxRecDepth 20000 in
theorem gX2_leastEvent_X1_firstNumber : GoodIn wsX2_leastEvent (wsV RX2 213 RX1 yX1_firstNumber wsX1_firstNumber) := goodIn_app (goodIn_of _ (by decide +kernel)) ggX2_leastEvent_X1_firstNumber
set_option maxRecDepth 20000 in
theorem ggX2_greatestEvent_X0_show : GoodIn wsX2_greatestEvent wsX0_show := goodIn_r _ [10, 11, 12, 13, 9, 14, 15, 16, 17, 18, 19, 20, 21, 22, 23, 24, 25, 26, 27, 28, 29, 30, 53, 54, 55, 56, 57, 58] (by decide +kernel) (by decide +kernel)
set_option maxRecDepth 20000 in
theorem gX2_greatestEvent_X0_show : GoodIn wsX2_greatestEvent (wsV RX2 209 RX0 yX0_show wsX0_show) := goodIn_app (goodIn_of _ (by decide +kernel)) ggX2_greatestEvent_X0_show
set_option maxRecDepth 20000 in
theorem ggX2_greatestEvent_X1_lastNumber : GoodIn wsX2_greatestEvent wsX1_lastNumber := goodIn_r _ [35, 36, 37, 38, 34, 39, 40, 41, 42, 43, 44, 53] (by decide +kernel) (by decide +kernel)
set_option maxRecDepth 20000 in
theorem gX2_greatestEvent_X1_lastNumber : GoodIn wsX2_greatestEvent (wsV RX2 216 RX1 yX1_lastNumber wsX1_lastNumber) := goodIn_app (goodIn_of _ (by decide +kernel)) ggX2_greatestEvent_X1_lastNumber
set_option maxRecDepth 20000 in
theorem ggX2_pageWith_X1_holds : GoodIn wsX2_pageWith wsX1_holds := goodIn_r _ [8, 9, 10, 11, 7, 12, 13, 14, 15, 16, 17, 18, 19, 20, 21, 22, 23, 24, 25, 59] (by decide +kernel) (by decide +kernel)
set_option maxRecDepth 20000 in
theorem gX2_pageWith_X1_holds : GoodIn wsX2_pageWith (wsV RX2 224 RX1 yX1_holds wsX1_holds) := goodIn_app (goodIn_of _ (by decide +kernel)) ggX2_pageWith_X1_holds
set_option maxRecDepth 20000 in
theorem ggX2_pageWith_X0_show : GoodIn wsX2_pageWith wsX0_show := goodIn_r _ [30, 31, 32, 33, 29, 34, 35, 36, 37, 38, 39, 40, 41, 42, 43, 44, 45, 46, 47, 48, 49, 50, 59, 60, 61, 62, 63, 64] (by decide +kernel) (by decide +kernel)
set_option maxRecDepth 20000 in
theorem gX2_pageWith_X0_show : GoodIn wsX2_pageWith (wsV RX2 209 RX0 yX0_show wsX0_show) := goodIn_app (goodIn_of _ (by decide +kernel)) ggX2_pageWith_X0_show
set_option maxRecDepth 20000 in
theorem ggX2_erasedBlocks_X0_isErased : GoodIn wsX2_erasedBlocks wsX0_isErased := goodIn_r _ [6, 7, 8, 9, 5, 10, 11, 20, 21, 22, 23, 24] (by decide +kernel) (by decide +kernel)
set_option maxRecDepth 20000 in
theorem gX2_erasedBlocks_X0_isErased : GoodIn wsX2_erasedBlocks (wsV RX2 90 RX0 yX0_isErased wsX0_isErased) := goodIn_app (goodIn_of _ (by decide +kernel)) ggX2_erasedBlocks_X0_isErased
set_option maxRecDepth 20000 in
theorem ggX3_isRebuilt_X3_isCovered : GoodIn wsX3_isRebuilt wsX3_isCovered := goodIn_r _ [7, 8, 9, 10, 11, 12, 13, 14, 15, 16, 17, 18, 19, 20, 21, 22, 23, 24] (by decide +kernel) (by decide +kernel)
set_option maxRecDepth 20000 in
theorem gX3_isRebuilt_X3_isCovered : GoodIn wsX3_isRebuilt (wsV RX3 39 RX3 yX3_isCovered wsX3_isCovered) := goodIn_app (goodIn_of _ (by decide +kernel)) ggX3_isRebuilt_X3_isCovered
set_option maxRecDepth 20000 in
theorem ggX3_isReadable_X3_isRebuilt : GoodIn wsX3_isReadable wsX3_isRebuilt := goodIn_r _ [6, 1, 7, 8, 9, 10, 5, 11, 12, 13, 14, 15, 16, 17, 18, 19, 20, 21, 22, 23, 24, 25, 26, 27, 28] (by decide +kernel) (by decide +kernel)
set_option maxRecDepth 20000 in
theorem gX3_isReadable_X3_isRebuilt : GoodIn wsX3_isReadable (wsV RX3 43 RX3 yX3_isRebuilt wsX3_isRebuilt) := goodIn_app (goodIn_of _ (by decide +kernel)) ggX3_isReadable_X3_isRebuilt
set_option maxRecDepth 20000 in
theorem ggX3_byteOf_X3_isCovered : GoodIn wsX3_byteOf wsX3_isCovered := goodIn_r _ [8, 3, 9, 10, 11, 12, 13, 14, 15, 16, 17, 18, 19, 20, 21, 22, 23, 24] (by decide +kernel) (by decide +kernel)
set_option maxRecDepth 20000 in
theorem gX3_byteOf_X3_isCovered : GoodIn wsX3_byteOf (wsV RX3 39 RX3 yX3_isCovered wsX3_isCovered) := goodIn_app (goodIn_of _ (by decide +kernel)) ggX3_byteOf_X3_isCovered
set_option maxRecDepth 20000 in
theorem ggX3_takesMore_X3_used : GoodIn wsX3_takesMore wsX3_used := goodIn_r _ [6, 1, 7, 8, 9, 10, 11, 12, 13, 14, 15, 16, 17, 18, 19, 20, 21, 22] (by decide +kernel) (by decide +kernel)
set_option maxRecDepth 20000 in
theorem gX3_takesMore_X3_used : GoodIn wsX3_takesMore (wsV RX3 50 RX3 yX3_used wsX3_used) := goodIn_app (goodIn_of _ (by decide +kernel)) ggX3_takesMore_X3_used
set_option maxRecDepth 20000 in
theorem ggX3_isFull_X3_takesMore : GoodIn wsX3_isFull wsX3_takesMore := goodIn_r _ [6, 7, 8, 9, 10, 5, 11, 17, 18, 19, 20, 21, 22, 23, 24, 25, 26, 27, 28, 29, 30, 31, 32] (by decide +kernel) (by decide +kernel)
set_option maxRecDepth 20000 in
theorem gX3_isFull_X3_takesMore : GoodIn wsX3_isFull (wsV RX3 57 RX3 yX3_takesMore wsX3_takesMore) := goodIn_app (goodIn_of _ (by decide +kernel)) ggX3_isFull_X3_takesMore
set_option maxRecDepth 20000 in
theorem ggX3_isFull_X3_isErased : GoodIn wsX3_isFull wsX3_isErased := goodIn_r _ [15, 16, 7, 17, 18, 19, 20, 21, 22, 23, 24, 25, 26, 27, 28, 29, 30, 31, 32] (by decide +kernel) (by decide +kernel)
set_option maxRecDepth 20000 in
theorem gX3_isFull_X3_isErased : GoodIn wsX3_isFull (wsV RX3 60 RX3 yX3_isErased wsX3_isErased) := goodIn_app (goodIn_of _ (by decide +kernel)) ggX3_isFull_X3_isErased
set_option maxRecDepth 20000 in
theorem ggX3_writeGuard_X3_isCut : GoodIn wsX3_writeGuard wsX3_isCut := goodIn_r _ [10, 11, 12, 13, 14, 15, 16, 17, 18, 19, 20, 21, 22, 23, 24, 25, 26, 27, 28] (by decide +kernel) (by decide +kernel)
set_option maxRecDepth 20000 in
theorem gX3_writeGuard_X3_isCut : GoodIn wsX3_writeGuard (wsV RX3 63 RX3 yX3_isCut wsX3_isCut) := goodIn_app (goodIn_of _ (by decide +kernel)) ggX3_writeGuard_X3_isCut
set_option maxRecDepth 20000 in
theorem ggX3_flush_X3_takesMore : GoodIn wsX3_flush wsX3_takesMore := goodIn_r _ [11, 2, 12, 13, 14, 10, 15, 33, 34, 35, 36, 37, 38, 39, 40, 41, 42, 43, 44, 45, 46, 47, 48] (by decide +kernel) (by decide +kernel)
set_option maxRecDepth 20000 in
theorem gX3_flush_X3_takesMore : GoodIn wsX3_flush (wsV RX3 57 RX3 yX3_takesMore wsX3_takesMore) := goodIn_app (goodIn_of _ (by decide +kernel)) ggX3_flush_X3_takesMore
set_option maxRecDepth 20000 in
theorem ggX3_flush_X3_used : GoodIn wsX3_flush wsX3_used := goodIn_r _ [15, 2, 33, 34, 35, 36, 37, 38, 39, 40, 41, 42, 43, 44, 45, 46, 47, 48] (by decide +kernel) (by decide +kernel)
set_option maxRecDepth 20000 in
theorem gX3_flush_X3_used : GoodIn wsX3_flush (wsV RX3 50 RX3 yX3_used wsX3_used) := goodIn_app (goodIn_of _ (by decide +kernel)) ggX3_flush_X3_used
set_option maxRecDepth 20000 in
theorem ggX3_flush_X3_writeGuard : GoodIn wsX3_flush wsX3_writeGuard := goodIn_r _ [19, 1, 20, 21, 2, 6, 22, 23, 24, 10, 25, 26, 27, 33, 34, 35, 36, 37, 38, 39, 40, 41, 42, 43, 44, 45, 46, 47, 48] (by decide +kernel) (by decide +kernel)
set_option maxRecDepth 20000 in
theorem gX3_flush_X3_writeGuard : GoodIn wsX3_flush (wsV RX3 70 RX3 yX3_writeGuard wsX3_writeGuard) := goodIn_app (goodIn_of _ (by decide +kernel)) ggX3_flush_X3_writeGuard
set_option maxRecDepth 20000 in
theorem ggX3_flush_X3_isCut : GoodIn wsX3_flush wsX3_isCut := goodIn_r _ [25, 26, 27, 33, 34, 35, 36, 37, 38, 39, 40, 41, 42, 43, 44, 45, 46, 47, 48] (by decide +kernel) (by decide +kernel)
set_option maxRecDepth 20000 in
theorem gX3_flush_X3_isCut : GoodIn wsX3_flush (wsV RX3 63 RX3 yX3_isCut wsX3_isCut) := goodIn_app (goodIn_of _ (by decide +kernel)) ggX3_flush_X3_isCut
set_option maxRecDepth 20000 in
theorem ggX3_flush_X3_empty : GoodIn wsX3_flush wsX3_empty := goodIn_r _ [31, 4, 32, 5, 33, 34, 35, 36, 37, 38, 39, 40, 41, 42, 43, 44, 45, 46, 47, 48] (by decide +kernel) (by decide +kernel)
set_option maxRecDepth 20000 in
theorem gX3_flush_X3_empty : GoodIn wsX3_flush (wsV RX3 76 RX3 yX3_empty wsX3_empty) := goodIn_app (goodIn_of _ (by decide +kernel)) ggX3_flush_X3_empty
set_option maxRecDepth 20000 in
theorem ggX3_append_X3_isFull : GoodIn wsX3_append wsX3_isFull := goodIn_r _ [12, 13, 14, 15, 16, 11, 17, 18, 19, 20, 21, 22, 23, 24, 25, 26, 27, 47, 48, 49, 50, 51, 52, 53, 54, 55, 56, 57, 58, 59, 60, 61, 62] (by decide +kernel) (by decide +kernel)
set_option maxRecDepth 20000 in
theorem gX3_append_X3_isFull : GoodIn wsX3_append (wsV RX3 79 RX3 yX3_isFull wsX3_isFull) := goodIn_app (goodIn_of _ (by decide +kernel)) ggX3_append_X3_isFull
set_option maxRecDepth 20000 in
theorem ggX3_append_X3_flush : GoodIn wsX3_append wsX3_flush := goodIn_r _ [31, 13, 18, 7, 6, 4, 32, 14, 15, 16, 11, 17, 19, 20, 21, 22, 33, 34, 35, 36, 27, 37, 38, 39, 40, 41, 42, 1, 43, 44, 45, 46, 3, 47, 48, 49, 50, 51, 52, 53, 54, 55, 56, 57, 58, 59, 60, 61, 62] (by decide +kernel) (by decide +kernel)
set_option maxRecDepth 20000 in
theorem gX3_append_X3_flush : GoodIn wsX3_append (wsV RX3 82 RX3 yX3_flush wsX3_flush) := goodIn_app (goodIn_of _ (by decide +kernel)) ggX3_append_X3_flush
set_option maxRecDepth 20000 in
theorem ggX3_sync_X3_isFull : GoodIn wsX3_sync wsX3_isFull := goodIn_r _ [9, 10, 11, 12, 13, 8, 14, 15, 16, 17, 18, 19, 20, 21, 22, 23, 24, 46, 47, 48, 49, 50, 51, 52, 53, 54, 55, 56, 57, 58, 59, 60, 61] (by decide +kernel) (by decide +kernel)
set_option maxRecDepth 20000 in
theorem gX3_sync_X3_isFull : GoodIn wsX3_sync (wsV RX3 79 RX3 yX3_isFull wsX3_isFull) := goodIn_app (goodIn_of _ (by decide +kernel)) ggX3_sync_X3_isFull
set_option maxRecDepth 20000 in
theorem ggX3_sync_X3_flush : GoodIn wsX3_sync wsX3_flush := goodIn_r _ [28, 10, 15, 4, 2, 29, 30, 11, 12, 13, 8, 14, 16, 17, 18, 19, 31, 32, 33, 34, 24, 35, 36, 37, 38, 39, 40, 1, 41, 42, 43, 44, 45, 46, 47, 48, 49, 50, 51, 52, 53, 54, 55, 56, 57, 58, 59, 60, 61] (by decide +kernel) (by decide +kernel)
set_option maxRecDepth 20000 in
theorem gX3_sync_X3_flush : GoodIn wsX3_sync (wsV RX3 82 RX3 yX3_flush wsX3_flush) := goodIn_app (goodIn_of _ (by decide +kernel)) ggX3_sync_X3_flush
set_option maxRecDepth 20000 in
theorem ggX3_firstOf_X3_byteOf : GoodIn wsX3_firstOf wsX3_byteOf := goodIn_r _ [5, 6, 7, 8, 9, 10, 11, 4, 12, 13, 14, 15, 16, 17, 18, 19, 20, 21, 22, 23, 24, 25, 26, 27, 28] (by decide +kernel) (by decide +kernel)
set_option maxRecDepth 20000 in
theorem gX3_firstOf_X3_byteOf : GoodIn wsX3_firstOf (wsV RX3 87 RX3 yX3_byteOf wsX3_byteOf) := goodIn_app (goodIn_of _ (by decide +kernel)) ggX3_firstOf_X3_byteOf
set_option maxRecDepth 20000 in
theorem ggX3_lastOf_X3_firstOf : GoodIn wsX3_lastOf wsX3_firstOf := goodIn_r _ [5, 6, 7, 8, 4, 9, 10, 11, 12, 13, 14, 15, 16, 17, 18, 19, 20, 21, 22, 23, 24, 25, 26, 27, 28, 29, 30, 31, 32] (by decide +kernel) (by decide +kernel)
set_option maxRecDepth 20000 in
theorem gX3_lastOf_X3_firstOf : GoodIn wsX3_lastOf (wsV RX3 91 RX3 yX3_firstOf wsX3_firstOf) := goodIn_app (goodIn_of _ (by decide +kernel)) ggX3_lastOf_X3_firstOf
set_option maxRecDepth 20000 in
theorem ggX3_lastOf_X3_byteOf : GoodIn wsX3_lastOf wsX3_byteOf := goodIn_r _ [9, 10, 11, 12, 13, 14, 15, 4, 16, 17, 18, 19, 20, 21, 22, 23, 24, 25, 26, 27, 28, 29, 30, 31, 32] (by decide +kernel) (by decide +kernel)
set_option maxRecDepth 20000 in
theorem gX3_lastOf_X3_byteOf : GoodIn wsX3_lastOf (wsV RX3 87 RX3 yX3_byteOf wsX3_byteOf) := goodIn_app (goodIn_of _ (by decide +kernel)) ggX3_lastOf_X3_byteOf
set_option maxRecDepth 20000 in
theorem ggX3_greatestIn_X3_isReadable : GoodIn wsX3_greatestIn wsX3_isReadable := goodIn_r _ [5, 6, 7, 8, 9, 4, 10, 11, 12, 13, 14, 15, 16, 30, 31, 32, 33, 34, 35, 36, 37, 38, 39, 40, 41, 42, 43, 44, 45] (by decide +kernel) (by decide +kernel)
set_option maxRecDepth 20000 in
theorem gX3_greatestIn_X3_isReadable : GoodIn wsX3_greatestIn (wsV RX3 94 RX3 yX3_isReadable wsX3_isReadable) := goodIn_app (goodIn_of _ (by decide +kernel)) ggX3_greatestIn_X3_isReadable
set_option maxRecDepth 20000 in
theorem ggX3_greatestIn_X3_lastOf : GoodIn wsX3_greatestIn wsX3_lastOf := goodIn_r _ [20, 21, 22, 23, 4, 24, 25, 26, 27, 28, 6, 29, 16, 12, 13, 14, 15, 30, 31, 32, 33, 34, 35, 36, 37, 38, 39, 40, 41, 42, 43, 44, 45] (by decide +kernel) (by decide +kernel)
set_option maxRecDepth 20000 in
theorem gX3_greatestIn_X3_lastOf : GoodIn wsX3_greatestIn (wsV RX3 97 RX3 yX3_lastOf wsX3_lastOf) := goodIn_app (goodIn_of _ (by decide +kernel)) ggX3_greatestIn_X3_lastOf
set_option maxRecDepth 20000 in
theorem ggX3_start_X3_empty : GoodIn wsX3_start wsX3_empty := goodIn_r _ [10, 11, 12, 13, 55, 56, 57, 58, 59, 60, 61, 62, 63, 64, 65, 66, 67, 68, 69, 70] (by decide +kernel) (by decide +kernel)
set_option maxRecDepth 20000 in
theorem gX3_start_X3_empty : GoodIn wsX3_start (wsV RX3 76 RX3 yX3_empty wsX3_empty) := goodIn_app (goodIn_of _ (by decide +kernel)) ggX3_start_X3_empty
set_option maxRecDepth 20000 in
theorem ggX3_start_X3_greatestIn : GoodIn wsX3_start wsX3_greatestIn := goodIn_r _ [17, 18, 19, 20, 9, 21, 22, 23, 24, 25, 26, 27, 28, 29, 30, 31, 32, 33, 34, 35, 36, 37, 38, 39, 40, 41, 42, 43, 44, 45, 55, 56, 57, 58, 59, 60, 61, 62, 63, 64, 65, 66, 67, 68, 69, 70] (by decide +kernel) (by decide +kernel)
set_option maxRecDepth 20000 in
theorem gX3_start_X3_greatestIn : GoodIn wsX3_start (wsV RX3 100 RX3 yX3_greatestIn wsX3_greatestIn) := goodIn_app (goodIn_of _ (by decide +kernel)) ggX3_start_X3_greatestIn
set_option maxRecDepth 20000 in
theorem ggX3_start_X3_isErased : GoodIn wsX3_start wsX3_isErased := goodIn_r _ [49, 27, 22, 55, 56, 57, 58, 59, 60, 61, 62, 63, 64, 65, 66, 67, 68, 69, 70] (by decide +kernel) (by decide +kernel)
set_option maxRecDepth 20000 in
theorem gX3_start_X3_isErased : GoodIn wsX3_start (wsV RX3 60 RX3 yX3_isErased wsX3_isErased) := goodIn_app (goodIn_of _ (by decide +kernel)) ggX3_start_X3_isErased
set_option maxRecDepth 20000 in
theorem ggX3_start_X3_eraseBlock : GoodIn wsX3_start wsX3_eraseBlock := goodIn_r _ [53, 22, 27, 54, 55, 56, 57, 58, 59, 60, 61, 62, 63, 64, 65, 66, 67, 68, 69, 70] (by decide +kernel) (by decide +kernel)
set_option maxRecDepth 20000 in
theorem gX3_start_X3_eraseBlock : GoodIn wsX3_start (wsV RX3 103 RX3 yX3_eraseBlock wsX3_eraseBlock) := goodIn_app (goodIn_of _ (by decide +kernel)) ggX3_start_X3_eraseBlock
set_option maxRecDepth 20000 in
theorem ggX3_start_X3_isReadable : GoodIn wsX3_start wsX3_isReadable := goodIn_r _ [21, 22, 23, 24, 25, 9, 26, 27, 28, 29, 30, 31, 32, 55, 56, 57, 58, 59, 60, 61, 62, 63, 64, 65, 66, 67, 68, 69, 70] (by decide +kernel) (by decide +kernel)
set_option maxRecDepth 20000 in
theorem gX3_start_X3_isReadable : GoodIn wsX3_start (wsV RX3 94 RX3 yX3_isReadable wsX3_isReadable) := goodIn_app (goodIn_of _ (by decide +kernel)) ggX3_start_X3_isReadable
set_option maxRecDepth 20000 in
theorem ggX3_start_X3_firstOf : GoodIn wsX3_start wsX3_firstOf := goodIn_r _ [40, 41, 42, 43, 9, 44, 22, 45, 32, 28, 29, 30, 31, 55, 56, 57, 58, 59, 60, 61, 62, 63, 64, 65, 66, 67, 68, 69, 70] (by decide +kernel) (by decide +kernel)
set_option maxRecDepth 20000 in
theorem gX3_start_X3_firstOf : GoodIn wsX3_start (wsV RX3 91 RX3 yX3_firstOf wsX3_firstOf) := goodIn_app (goodIn_of _ (by decide +kernel)) ggX3_start_X3_firstOf
set_option maxRecDepth 20000 in
theorem ggX3_trim_X3_isErased : GoodIn wsX3_trim wsX3_isErased := goodIn_r _ [10, 11, 12, 48, 49, 50, 51, 52, 53, 54, 55, 56, 57, 58, 59, 60, 61, 62, 63] (by decide +kernel) (by decide +kernel)
set_option maxRecDepth 20000 in
theorem gX3_trim_X3_isErased : GoodIn wsX3_trim (wsV RX3 60 RX3 yX3_isErased wsX3_isErased) := goodIn_app (goodIn_of _ (by decide +kernel)) ggX3_trim_X3_isErased
set_option maxRecDepth 20000 in
theorem ggX3_trim_X3_greatestIn : GoodIn wsX3_trim wsX3_greatestIn := goodIn_r _ [16, 17, 18, 19, 9, 20, 12, 21, 22, 23, 24, 11, 25, 26, 27, 28, 29, 30, 31, 32, 33, 34, 35, 36, 37, 38, 39, 40, 41, 42, 48, 49, 50, 51, 52, 53, 54, 55, 56, 57, 58, 59, 60, 61, 62, 63] (by decide +kernel) (by decide +kernel)
set_option maxRecDepth 20000 in
theorem gX3_trim_X3_greatestIn : GoodIn wsX3_trim (wsV RX3 100 RX3 yX3_greatestIn wsX3_greatestIn) := goodIn_app (goodIn_of _ (by decide +kernel)) ggX3_trim_X3_greatestIn
set_option maxRecDepth 20000 in
theorem ggX3_trim_X3_eraseBlock : GoodIn wsX3_trim wsX3_eraseBlock := goodIn_r _ [46, 12, 11, 47, 48, 49, 50, 51, 52, 53, 54, 55, 56, 57, 58, 59, 60, 61, 62, 63] (by decide +kernel) (by decide +kernel)
set_option maxRecDepth 20000 in
theorem gX3_trim_X3_eraseBlock : GoodIn wsX3_trim (wsV RX3 103 RX3 yX3_eraseBlock wsX3_eraseBlock) := goodIn_app (goodIn_of _ (by decide +kernel)) ggX3_trim_X3_eraseBlock
set_option maxRecDepth 20000 in
theorem ggX3_find_X3_isReadable : GoodIn wsX3_find wsX3_isReadable := goodIn_r _ [9, 10, 11, 12, 13, 8, 14, 15, 16, 17, 18, 19, 20, 39, 40, 41, 42, 43, 44, 45, 46, 47, 48, 49, 50, 51, 52, 53, 54] (by decide +kernel) (by decide +kernel)
set_option maxRecDepth 20000 in
theorem gX3_find_X3_isReadable : GoodIn wsX3_find (wsV RX3 94 RX3 yX3_isReadable wsX3_isReadable) := goodIn_app (goodIn_of _ (by decide +kernel)) ggX3_find_X3_isReadable
set_option maxRecDepth 20000 in
theorem ggX3_find_X3_firstOf : GoodIn wsX3_find wsX3_firstOf := goodIn_r _ [24, 25, 26, 27, 8, 28, 10, 29, 20, 16, 17, 18, 19, 39, 40, 41, 42, 43, 44, 45, 46, 47, 48, 49, 50, 51, 52, 53, 54] (by decide +kernel) (by decide +kernel)
set_option maxRecDepth 20000 in
theorem gX3_find_X3_firstOf : GoodIn wsX3_find (wsV RX3 91 RX3 yX3_firstOf wsX3_firstOf) := goodIn_app (goodIn_of _ (by decide +kernel)) ggX3_find_X3_firstOf
set_option maxRecDepth 20000 in
theorem ggX3_find_X3_lastOf : GoodIn wsX3_find wsX3_lastOf := goodIn_r _ [33, 21, 22, 23, 8, 24, 25, 26, 27, 28, 10, 29, 20, 16, 17, 18, 19, 39, 40, 41, 42, 43, 44, 45, 46, 47, 48, 49, 50, 51, 52, 53, 54] (by decide +kernel) (by decide +kernel)
set_option maxRecDepth 20000 in
theorem gX3_find_X3_lastOf : GoodIn wsX3_find (wsV RX3 97 RX3 yX3_lastOf wsX3_lastOf) := goodIn_app (goodIn_of _ (by decide +kernel)) ggX3_find_X3_lastOf
set_option maxRecDepth 20000 in
theorem ggX3_find_X3_foundByte : GoodIn wsX3_find wsX3_foundByte := goodIn_r _ [37, 1, 38, 25, 26, 27, 8, 28, 10, 29, 20, 16, 17, 18, 19, 39, 40, 41, 42, 43, 44, 45, 46, 47, 48, 49, 50, 51, 52, 53, 54] (by decide +kernel) (by decide +kernel)
set_option maxRecDepth 20000 in
theorem gX3_find_X3_foundByte : GoodIn wsX3_find (wsV RX3 116 RX3 yX3_foundByte wsX3_foundByte) := goodIn_app (goodIn_of _ (by decide +kernel)) ggX3_find_X3_foundByte
set_option maxRecDepth 20000 in
theorem ggX3_foundByte_X3_byteOf : GoodIn wsX3_foundByte wsX3_byteOf := goodIn_r _ [7, 8, 9, 10, 11, 12, 13, 6, 14, 15, 16, 17, 18, 19, 20, 21, 22, 23, 24, 25, 26, 27, 28, 29, 30] (by decide +kernel) (by decide +kernel)
set_option maxRecDepth 20000 in
theorem gX3_foundByte_X3_byteOf : GoodIn wsX3_foundByte (wsV RX3 87 RX3 yX3_byteOf wsX3_byteOf) := goodIn_app (goodIn_of _ (by decide +kernel)) ggX3_foundByte_X3_byteOf
set_option maxRecDepth 20000 in
theorem ggX3_length_X3_find : GoodIn wsX3_length wsX3_find := goodIn_r _ [11, 5, 6, 3, 12, 13, 14, 15, 10, 16, 17, 18, 19, 20, 21, 22, 23, 24, 25, 26, 27, 28, 29, 30, 31, 32, 33, 34, 35, 36, 37, 38, 39, 40, 41, 42, 43, 44, 45, 46, 47, 48, 49, 50, 51, 52, 53, 54, 55, 56, 57, 58, 59, 60, 61] (by decide +kernel) (by decide +kernel)
set_option maxRecDepth 20000 in
theorem gX3_length_X3_find : GoodIn wsX3_length (wsV RX3 119 RX3 yX3_find wsX3_find) := goodIn_app (goodIn_of _ (by decide +kernel)) ggX3_length_X3_find
set_option maxRecDepth 20000 in
theorem ggX3_length_X3_foundByte : GoodIn wsX3_length wsX3_foundByte := goodIn_r _ [44, 5, 45, 32, 33, 34, 10, 35, 17, 36, 27, 23, 24, 25, 26, 46, 47, 48, 49, 50, 51, 52, 53, 54, 55, 56, 57, 58, 59, 60, 61] (by decide +kernel) (by decide +kernel)
set_option maxRecDepth 20000 in
theorem gX3_length_X3_foundByte : GoodIn wsX3_length (wsV RX3 116 RX3 yX3_foundByte wsX3_foundByte) := goodIn_app (goodIn_of _ (by decide +kernel)) ggX3_length_X3_foundByte
set_option maxRecDepth 20000 in
theorem ggX3_event_X3_find : GoodIn wsX3_event wsX3_find := goodIn_r _ [11, 5, 6, 3, 12, 13, 14, 15, 10, 16, 17, 18, 19, 20, 21, 22, 23, 24, 25, 26, 27, 28, 29, 30, 31, 32, 33, 34, 35, 36, 37, 38, 39, 40, 41, 42, 43, 44, 45, 46, 47, 48, 49, 50, 51, 52, 53, 54, 55, 56, 57, 58, 59, 60, 61] (by decide +kernel) (by decide +kernel)
set_option maxRecDepth 20000 in
theorem gX3_event_X3_find : GoodIn wsX3_event (wsV RX3 119 RX3 yX3_find wsX3_find) := goodIn_app (goodIn_of _ (by decide +kernel)) ggX3_event_X3_find
set_option maxRecDepth 20000 in
theorem ggX3_event_X3_foundByte : GoodIn wsX3_event wsX3_foundByte := goodIn_r _ [44, 5, 45, 32, 33, 34, 10, 35, 17, 36, 27, 23, 24, 25, 26, 46, 47, 48, 49, 50, 51, 52, 53, 54, 55, 56, 57, 58, 59, 60, 61] (by decide +kernel) (by decide +kernel)
set_option maxRecDepth 20000 in
theorem gX3_event_X3_foundByte : GoodIn wsX3_event (wsV RX3 116 RX3 yX3_foundByte wsX3_foundByte) := goodIn_app (goodIn_of _ (by decide +kernel)) ggX3_event_X3_foundByte
set_option maxRecDepth 20000 in
theorem ggX3_ruin_X3_noPage : GoodIn wsX3_ruin wsX3_noPage := goodIn_r _ [6] (by decide +kernel) (by decide +kernel)
set_option maxRecDepth 20000 in
theorem gX3_ruin_X3_noPage : GoodIn wsX3_ruin (va_wsS RX3 122 yX3_noPage wsX3_noPage) := goodIn_app (goodIn_of _ (by decide +kernel)) ggX3_ruin_X3_noPage
set_option maxRecDepth 20000 in
theorem ggX3_ruin_X3_place : GoodIn wsX3_ruin wsX3_place := goodIn_r _ [9] (by decide +kernel) (by decide +kernel)
set_option maxRecDepth 20000 in
theorem gX3_ruin_X3_place : GoodIn wsX3_ruin (va_wsS RX3 125 yX3_place wsX3_place) := goodIn_app (goodIn_of _ (by decide +kernel)) ggX3_ruin_X3_place
set_option maxRecDepth 20000 in
theorem ggX3_page_X3_noPage : GoodIn wsX3_page wsX3_noPage := goodIn_r _ [6] (by decide +kernel) (by decide +kernel)
set_option maxRecDepth 20000 in
theorem gX3_page_X3_noPage : GoodIn wsX3_page (va_wsS RX3 122 yX3_noPage wsX3_noPage) := goodIn_app (goodIn_of _ (by decide +kernel)) ggX3_page_X3_noPage
set_option maxRecDepth 20000 in
theorem ggX3_page_X3_place : GoodIn wsX3_page wsX3_place := goodIn_r _ [9] (by decide +kernel) (by decide +kernel)
set_option maxRecDepth 20000 in
theorem gX3_page_X3_place : GoodIn wsX3_page (va_wsS RX3 125 yX3_place wsX3_place) := goodIn_app (goodIn_of _ (by decide +kernel)) ggX3_page_X3_place
set_option maxRecDepth 20000 in
theorem ggX3_page_X3_isRebuilt : GoodIn wsX3_page wsX3_isRebuilt := goodIn_r _ [13, 2, 14, 15, 16, 17, 5, 18, 19, 20, 21, 22, 23, 24, 25, 26, 27, 28, 29, 30, 31, 32, 33, 34, 35] (by decide +kernel) (by decide +kernel)
set_option maxRecDepth 20000 in
theorem gX3_page_X3_isRebuilt : GoodIn wsX3_page (wsV RX3 43 RX3 yX3_isRebuilt wsX3_isRebuilt) := goodIn_app (goodIn_of _ (by decide +kernel)) ggX3_page_X3_isRebuilt
set_option maxRecDepth 20000 in
theorem ggX3_at_X3_noPage : GoodIn wsX3_at wsX3_noPage := goodIn_r _ [5] (by decide +kernel) (by decide +kernel)
set_option maxRecDepth 20000 in
theorem gX3_at_X3_noPage : GoodIn wsX3_at (va_wsS RX3 122 yX3_noPage wsX3_noPage) := goodIn_app (goodIn_of _ (by decide +kernel)) ggX3_at_X3_noPage
set_option maxRecDepth 20000 in
theorem ggX3_at_X3_place : GoodIn wsX3_at wsX3_place := goodIn_r _ [8] (by decide +kernel) (by decide +kernel)
set_option maxRecDepth 20000 in
theorem gX3_at_X3_place : GoodIn wsX3_at (va_wsS RX3 125 yX3_place wsX3_place) := goodIn_app (goodIn_of _ (by decide +kernel)) ggX3_at_X3_place
set_option maxRecDepth 20000 in
theorem ggX3_at_X3_isReadable : GoodIn wsX3_at wsX3_isReadable := goodIn_r _ [12, 13, 14, 15, 16, 4, 17, 18, 19, 20, 21, 22, 23, 29, 30, 31, 32, 33, 34, 35, 36, 37, 38, 39, 40, 41, 42, 43, 44] (by decide +kernel) (by decide +kernel)
set_option maxRecDepth 20000 in
theorem gX3_at_X3_isReadable : GoodIn wsX3_at (wsV RX3 94 RX3 yX3_isReadable wsX3_isReadable) := goodIn_app (goodIn_of _ (by decide +kernel)) ggX3_at_X3_isReadable
set_option maxRecDepth 20000 in
theorem ggX3_at_X3_byteOf : GoodIn wsX3_at wsX3_byteOf := goodIn_r _ [27, 13, 28, 23, 19, 20, 21, 4, 22, 29, 30, 31, 32, 33, 34, 35, 36, 37, 38, 39, 40, 41, 42, 43, 44] (by decide +kernel) (by decide +kernel)
set_option maxRecDepth 20000 in
theorem gX3_at_X3_byteOf : GoodIn wsX3_at (wsV RX3 87 RX3 yX3_byteOf wsX3_byteOf) := goodIn_app (goodIn_of _ (by decide +kernel)) ggX3_at_X3_byteOf
set_option maxRecDepth 20000 in
theorem ggX3_told_X3_isErased : GoodIn wsX3_told wsX3_isErased := goodIn_r _ [10, 11, 12, 13, 14, 15, 16, 17, 18, 19, 20, 21, 22, 23, 24, 25, 26, 27, 28] (by decide +kernel) (by decide +kernel)
set_option maxRecDepth 20000 in
theorem gX3_told_X3_isErased : GoodIn wsX3_told (wsV RX3 60 RX3 yX3_isErased wsX3_isErased) := goodIn_app (goodIn_of _ (by decide +kernel)) ggX3_told_X3_isErased
set_option maxRecDepth 20000 in
theorem ggL_append_X2_append : GoodIn wsL_append wsX2_append := goodIn_ca (goodIn_ca (goodIn_ca (goodIn_r _ [8, 9, 10, 11, 12, 13, 14, 15, 7, 16, 17, 18, 19, 20, 21, 22, 23, 24, 25, 26, 27, 28, 29, 30, 31, 32, 33, 34, 35, 36, 37, 38, 39, 40, 41, 42, 43, 44, 45, 46, 47, 48, 49, 50, 51, 52, 53, 54, 55, 56, 57, 58, 59, 60, 61, 62, 63, 64, 65, 66, 67, 68, 69, 70, 71, 72, 73, 74, 75, 76, 77, 78, 79, 80, 81, 82, 83, 84, 85, 86, 87, 88, 89, 90, 91, 92, 93, 94, 95, 96, 97, 98, 99, 100, 101, 102, 103, 104, 105, 106, 107, 108, 109, 110, 111, 112, 113, 114, 115, 116, 117, 118, 119, 120] (by decide +kernel) (by decide +kernel)) (goodIn_sub (fun _ h => List.mem_cons_of_mem _ (List.mem_append_left _ (List.mem_append_left _ (List.mem_append_right _ h)))) (by decide +kernel))) (goodIn_sub (fun _ h => List.mem_cons_of_mem _ (List.mem_append_left _ (List.mem_append_right _ h))) (by decide +kernel))) (goodIn_sub (fun _ h => List.mem_cons_of_mem _ (List.mem_append_right _ h)) (by decide +kernel))
set_option maxRecDepth 20000 in
theorem gL_append_X2_append : GoodIn wsL_append (wsV RL 7 RX2 yX2_append wsX2_append) := goodIn_app (goodIn_of _ (by decide +kernel)) ggL_append_X2_append
set_option maxRecDepth 20000 in
theorem ggL_sync_X2_sync : GoodIn wsL_sync wsX2_sync := goodIn_ca (goodIn_ca (goodIn_r _ [7, 8, 9, 10, 11, 12, 6, 13, 14, 15, 16, 17, 18, 19, 20, 21, 22, 23, 24, 25, 26, 27, 28, 29, 30, 31, 32, 33, 34, 35, 36, 37, 38, 39, 40, 41, 42, 43, 44, 45, 46, 47, 48, 49, 50, 51, 52, 53, 54, 55, 56, 57, 58, 59, 60, 61, 62, 63, 64, 65, 66, 67, 68, 69, 70, 71, 72, 73, 74, 75, 76, 77, 78, 79, 80, 81, 82, 83, 84, 85, 86, 87, 88, 89, 90, 91, 92, 93, 94, 95, 96, 97, 98, 99, 100, 101, 102, 103, 104] (by decide +kernel) (by decide +kernel)) (goodIn_sub (fun _ h => List.mem_cons_of_mem _ (List.mem_append_left _ (List.mem_append_right _ h))) (by decide +kernel))) (goodIn_sub (fun _ h => List.mem_cons_of_mem _ (List.mem_append_right _ h)) (by decide +kernel))
set_option maxRecDepth 20000 in
theorem gL_sync_X2_sync : GoodIn wsL_sync (wsV RL 19 RX2 yX2_sync wsX2_sync) := goodIn_app (goodIn_of _ (by decide +kernel)) ggL_sync_X2_sync
set_option maxRecDepth 20000 in
theorem ggL_cutAfter_X2_cutAfter : GoodIn wsL_cutAfter wsX2_cutAfter := goodIn_ca (goodIn_r _ [6, 7, 8, 9, 10, 11, 12, 13, 14, 15, 16, 17] (by decide +kernel) (by decide +kernel)) (goodIn_sub (fun _ h => List.mem_cons_of_mem _ (List.mem_append_right _ h)) (by decide +kernel))
set_option maxRecDepth 20000 in
theorem gL_cutAfter_X2_cutAfter : GoodIn wsL_cutAfter (wsV RL 23 RX2 yX2_cutAfter wsX2_cutAfter) := goodIn_app (goodIn_of _ (by decide +kernel)) ggL_cutAfter_X2_cutAfter
set_option maxRecDepth 20000 in
theorem ggL_off_X2_off : GoodIn wsL_off wsX2_off := goodIn_ca (goodIn_r _ [6, 7, 8, 9, 10, 11, 5, 12, 13, 14, 15, 16, 17, 18, 19, 20, 21, 22, 23, 24, 25, 26, 27, 28, 29] (by decide +kernel) (by decide +kernel)) (goodIn_sub (fun _ h => List.mem_cons_of_mem _ (List.mem_append_right _ h)) (by decide +kernel))
set_option maxRecDepth 20000 in
theorem gL_off_X2_off : GoodIn wsL_off (wsV RL 27 RX2 yX2_off wsX2_off) := goodIn_app (goodIn_of _ (by decide +kernel)) ggL_off_X2_off
set_option maxRecDepth 20000 in
theorem ggL_start_X2_start : GoodIn wsL_start wsX2_start := goodIn_ca (goodIn_r _ [6, 7, 8, 9, 10, 11, 12, 13, 14, 15, 16, 17, 18, 19, 20, 21, 22, 23, 24, 5, 25, 26, 27, 28, 29, 30, 31, 32, 33, 34, 35, 36, 37, 38, 39, 40, 41, 42, 43, 44, 45, 46, 47, 48, 49, 50, 51, 52, 53, 54, 55, 56, 57, 58, 59, 60, 61, 62, 63, 64, 65, 66, 67, 68, 69, 70, 71, 72, 73, 74, 75, 76, 77, 78, 79, 80, 81, 82, 83, 84, 85, 86, 87, 88, 89, 90, 91, 92, 93, 94, 95, 96, 97, 98, 99, 100, 101, 102, 103, 104, 105, 106, 107, 108, 109, 110, 111] (by decide +kernel) (by decide +kernel)) (goodIn_sub (fun _ h => List.mem_cons_of_mem _ (List.mem_append_right _ h)) (by decide +kernel))
set_option maxRecDepth 20000 in
theorem gL_start_X2_start : GoodIn wsL_start (wsV RL 30 RX2 yX2_start wsX2_start) := goodIn_app (goodIn_of _ (by decide +kernel)) ggL_start_X2_start
set_option maxRecDepth 20000 in
theorem ggL_trim_X2_trim : GoodIn wsL_trim wsX2_trim := goodIn_ca (goodIn_ca (goodIn_r _ [7, 8, 9, 10, 11, 12, 13, 14, 15, 16, 6, 17, 18, 19, 20, 21, 22, 23, 24, 25, 26, 27, 28, 29, 30, 31, 32, 33, 34, 35, 36, 37, 38, 39, 40, 41, 42, 43, 44, 45, 46, 47, 48, 49, 50, 51, 52, 53, 54, 55, 56, 57, 58, 59, 60, 61, 62, 63, 64, 65, 66, 67, 68, 69, 70, 71, 72, 73, 74, 75, 76, 77, 78, 79, 80, 81, 82, 83, 84, 85, 86, 87, 88, 89, 90, 91, 92, 93, 94, 95, 96, 97, 98, 99] (by decide +kernel) (by decide +kernel)) (goodIn_sub (fun _ h => List.mem_cons_of_mem _ (List.mem_append_left _ (List.mem_append_right _ h))) (by decide +kernel))) (goodIn_sub (fun _ h => List.mem_cons_of_mem _ (List.mem_append_right _ h)) (by decide +kernel))
set_option maxRecDepth 20000 in
theorem gL_trim_X2_trim : GoodIn wsL_trim (wsV RL 33 RX2 yX2_trim wsX2_trim) := goodIn_app (goodIn_of _ (by decide +kernel)) ggL_trim_X2_trim
set_option maxRecDepth 20000 in
theorem ggL_first_X2_first : GoodIn wsL_first wsX2_first := goodIn_ca (goodIn_r _ [6, 7, 8, 9, 10, 5, 11, 12, 13, 14, 15, 16, 17, 18, 19, 20, 21, 22] (by decide +kernel) (by decide +kernel)) (goodIn_sub (fun _ h => List.mem_cons_of_mem _ (List.mem_append_right _ h)) (by decide +kernel))
set_option maxRecDepth 20000 in
theorem gL_first_X2_first : GoodIn wsL_first (wsV RL 37 RX2 yX2_first wsX2_first) := goodIn_app (goodIn_of _ (by decide +kernel)) ggL_first_X2_first
set_option maxRecDepth 20000 in
theorem ggL_count_X2_count : GoodIn wsL_count wsX2_count := goodIn_ca (goodIn_r _ [6, 7, 8, 9, 10, 5, 11, 12, 13, 14, 15, 16, 17, 18, 19, 20, 21, 22] (by decide +kernel) (by decide +kernel)) (goodIn_sub (fun _ h => List.mem_cons_of_mem _ (List.mem_append_right _ h)) (by decide +kernel))
set_option maxRecDepth 20000 in
theorem gL_count_X2_count : GoodIn wsL_count (wsV RL 40 RX2 yX2_count wsX2_count) := goodIn_app (goodIn_of _ (by decide +kernel)) ggL_count_X2_count
set_option maxRecDepth 20000 in
theorem ggL_length_X2_length : GoodIn wsL_length wsX2_length := goodIn_ca (goodIn_ca (goodIn_r _ [7, 8, 9, 10, 6, 11, 12, 13, 14, 15, 16, 17, 18, 19, 20, 21, 22, 23, 24, 25, 26, 27, 28, 29, 30, 31, 32, 33, 34, 35, 36, 37, 38, 39, 40, 41, 42, 43, 44, 45, 46, 47, 48, 49, 50, 51, 52, 53, 54, 55, 56, 57, 58, 59, 60, 61, 62, 63, 64, 65, 66, 67, 68, 69, 70, 71, 72, 73, 74, 75, 76, 77, 78, 79, 80, 81, 82, 83, 84, 85, 86, 87, 88, 89, 90, 91, 92, 93, 94, 95, 96, 97, 98] (by decide +kernel) (by decide +kernel)) (goodIn_sub (fun _ h => List.mem_cons_of_mem _ (List.mem_append_left _ (List.mem_append_right _ h))) (by decide +kernel))) (goodIn_sub (fun _ h => List.mem_cons_of_mem _ (List.mem_append_right _ h)) (by decide +kernel))
set_option maxRecDepth 20000 in
theorem gL_length_X2_length : GoodIn wsL_length (wsV RL 43 RX2 yX2_length wsX2_length) := goodIn_app (goodIn_of _ (by decide +kernel)) ggL_length_X2_length
set_option maxRecDepth 20000 in
theorem ggL_event_X2_event : GoodIn wsL_event wsX2_event := goodIn_ca (goodIn_ca (goodIn_ca (goodIn_r _ [8, 9, 10, 11, 12, 13, 7, 14, 15, 16, 17, 18, 19, 20, 21, 22, 23, 24, 25, 26, 27, 28, 29, 30, 31, 32, 33, 34, 35, 36, 37, 38, 39, 40, 41, 42, 43, 44, 45, 46, 47, 48, 49, 50, 51, 52, 53, 54, 55, 56, 57, 58, 59, 60, 61, 62, 63, 64, 65, 66, 67, 68, 69, 70, 71, 72, 73, 74, 75, 76, 77, 78, 79, 80, 81, 82, 83, 84, 85, 86, 87, 88, 89, 90, 91, 92, 93, 94, 95, 96, 97, 98, 99, 100, 101] (by decide +kernel) (by decide +kernel)) (goodIn_sub (fun _ h => List.mem_cons_of_mem _ (List.mem_append_left _ (List.mem_append_left _ (List.mem_append_right _ h)))) (by decide +kernel))) (goodIn_sub (fun _ h => List.mem_cons_of_mem _ (List.mem_append_left _ (List.mem_append_right _ h))) (by decide +kernel))) (goodIn_sub (fun _ h => List.mem_cons_of_mem _ (List.mem_append_right _ h)) (by decide +kernel))
set_option maxRecDepth 20000 in
theorem gL_event_X2_event : GoodIn wsL_event (wsV RL 48 RX2 yX2_event wsX2_event) := goodIn_app (goodIn_of _ (by decide +kernel)) ggL_event_X2_event
set_option maxRecDepth 20000 in
theorem ggL_ruin_X2_ruin : GoodIn wsL_ruin wsX2_ruin := goodIn_ca (goodIn_r _ [6, 7, 8, 9, 5, 10, 11, 12, 13, 14, 15, 16, 17, 18, 19, 20, 21, 22, 23, 24, 25, 26, 27, 28, 29, 30, 31, 32, 33, 34, 35, 36, 37] (by decide +kernel) (by decide +kernel)) (goodIn_sub (fun _ h => List.mem_cons_of_mem _ (List.mem_append_right _ h)) (by decide +kernel))
set_option maxRecDepth 20000 in
theorem gL_ruin_X2_ruin : GoodIn wsL_ruin (wsV RL 54 RX2 yX2_ruin wsX2_ruin) := goodIn_app (goodIn_of _ (by decide +kernel)) ggL_ruin_X2_ruin
set_option maxRecDepth 20000 in
theorem ggL_page_X2_page : GoodIn wsL_page wsX2_page := goodIn_ca (goodIn_r _ [6, 7, 8, 9, 5, 10, 11, 12, 13, 14, 15, 16, 17, 18, 19, 20, 21, 22, 23, 24, 25, 26, 27, 28, 29, 30, 31, 32, 33, 34, 35, 36, 37, 38, 39, 40, 41, 42, 43, 44, 45, 46, 47] (by decide +kernel) (by decide +kernel)) (goodIn_sub (fun _ h => List.mem_cons_of_mem _ (List.mem_append_right _ h)) (by decide +kernel))
set_option maxRecDepth 20000 in
theorem gL_page_X2_page : GoodIn wsL_page (wsV RL 58 RX2 yX2_page wsX2_page) := goodIn_app (goodIn_of _ (by decide +kernel)) ggL_page_X2_page
set_option maxRecDepth 20000 in
theorem ggL_at_X2_at : GoodIn wsL_at wsX2_at := goodIn_ca (goodIn_ca (goodIn_r _ [7, 8, 9, 10, 11, 12, 13, 14, 6, 15, 16, 17, 18, 19, 20, 21, 22, 23, 24, 25, 26, 27, 28, 29, 30, 31, 32, 33, 34, 35, 36, 37, 38, 39, 40, 41, 42, 43, 44, 45, 46, 47, 48, 49, 50, 51, 52, 53, 54, 55] (by decide +kernel) (by decide +kernel)) (goodIn_sub (fun _ h => List.mem_cons_of_mem _ (List.mem_append_left _ (List.mem_append_right _ h))) (by decide +kernel))) (goodIn_sub (fun _ h => List.mem_cons_of_mem _ (List.mem_append_right _ h)) (by decide +kernel))
set_option maxRecDepth 20000 in
theorem gL_at_X2_at : GoodIn wsL_at (wsV RL 62 RX2 yX2_at wsX2_at) := goodIn_app (goodIn_of _ (by decide +kernel)) ggL_at_X2_at
set_option maxRecDepth 20000 in
theorem ggL_guard_X2_guard : GoodIn wsL_guard wsX2_guard := goodIn_ca (goodIn_r _ [6, 7, 8, 9, 5, 10, 11, 12, 13, 14, 15, 16, 17, 18, 19, 20, 21, 22, 23, 24, 25] (by decide +kernel) (by decide +kernel)) (goodIn_sub (fun _ h => List.mem_cons_of_mem _ (List.mem_append_right _ h)) (by decide +kernel))
set_option maxRecDepth 20000 in
theorem gL_guard_X2_guard : GoodIn wsL_guard (wsV RL 66 RX2 yX2_guard wsX2_guard) := goodIn_app (goodIn_of _ (by decide +kernel)) ggL_guard_X2_guard
set_option maxRecDepth 20000 in
theorem ggL_guarded_X2_guarded : GoodIn wsL_guarded wsX2_guarded := goodIn_ca (goodIn_ca (goodIn_r _ [7, 8, 9, 10, 11, 12, 13, 14, 6, 15, 16, 17, 18, 19, 20, 21, 22, 23, 24, 25, 26, 27, 28] (by decide +kernel) (by decide +kernel)) (goodIn_sub (fun _ h => List.mem_cons_of_mem _ (List.mem_append_left _ (List.mem_append_right _ h))) (by decide +kernel))) (goodIn_sub (fun _ h => List.mem_cons_of_mem _ (List.mem_append_right _ h)) (by decide +kernel))
set_option maxRecDepth 20000 in
theorem gL_guarded_X2_guarded : GoodIn wsL_guarded (wsV RL 69 RX2 yX2_guarded wsX2_guarded) := goodIn_app (goodIn_of _ (by decide +kernel)) ggL_guarded_X2_guarded
