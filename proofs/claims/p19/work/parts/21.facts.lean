theorem so_mc_0 : ∀ x, x < 40 → so_cd (nm_mi (x + 0)) ∈ so_TB := by
  intro x hx
  match x, hx with
  | 0, _ => exact mc_SR_init
  | 1, _ => exact mc_Table_init
  | 2, _ => exact mc_Fate_init
  | 3, _ => exact mc_RunList_init
  | 4, _ => exact mc_Run_init
  | 5, _ => exact mc_Sheet_init
  | 6, _ => exact mc_Pages_init
  | 7, _ => exact mc_Space_init
  | 8, _ => exact mc_Blend_init
  | 9, _ => exact mc_TableStream_init
  | 10, _ => exact mc_Stream_init
  | 11, _ => exact mc_RunStream_init
  | 12, _ => exact mc_SR_fillHead
  | 13, _ => exact mc_Sheet_clear
  | 14, _ => exact mc_Sheet_two
  | 15, _ => exact mc_Sheet_one
  | 16, _ => exact mc_Sheet_seal
  | 17, _ => exact mc_Sheet_sumOf
  | 18, _ => exact mc_Pages_lay
  | 19, _ => exact mc_Pages_has
  | 20, _ => exact mc_Pages_checkSum
  | 21, _ => exact mc_SR_state
  | 22, _ => exact mc_SR_badAt
  | 23, _ => exact mc_Pages_isRight
  | 24, _ => exact mc_SR_leastWrong
  | 25, _ => exact mc_Space_after
  | 26, _ => exact mc_Space_has
  | 27, _ => exact mc_SR_down
  | 28, _ => exact mc_SR_goDown
  | 29, _ => exact mc_RunList_forget
  | 30, _ => exact mc_Space_clear
  | 31, _ => exact mc_La_cell
  | 32, _ => exact mc_SR_put
  | 33, _ => exact mc_SR_enterOne
  | 34, _ => exact mc_SR_requireUp
  | 35, _ => exact mc_Table_hasPlaceFor
  | 36, _ => exact mc_Table_placeOf
  | 37, _ => exact mc_Table_holds
  | 38, _ => exact mc_Table_enter
  | 39, _ => exact mc_Fate_begin
  | y + 40, h => exact absurd h (by omega)
theorem so_mc_40 : ∀ x, x < 40 → so_cd (nm_mi (x + 40)) ∈ so_TB := by
  intro x hx
  match x, hx with
  | 0, _ => exact mc_Fate_layUpon
  | 1, _ => exact mc_Table_shiftFrom
  | 2, _ => exact mc_SR_remove
  | 3, _ => exact mc_SR_fold
  | 4, _ => exact mc_SR_many
  | 5, _ => exact mc_SR_isKind
  | 6, _ => exact mc_RunList_countUpTo
  | 7, _ => exact mc_SR_mergeRuns
  | 8, _ => exact mc_SR_readRuns
  | 9, _ => exact mc_Pages_readsRight
  | 10, _ => exact mc_SR_blendRuns
  | 11, _ => exact mc_Blend_begin
  | 12, _ => exact mc_Blend_addRun
  | 13, _ => exact mc_RunStream_start
  | 14, _ => exact mc_Space_beginsAbove
  | 15, _ => exact mc_RunStream_step
  | 16, _ => exact mc_Pages_peek
  | 17, _ => exact mc_RunStream_readKey
  | 18, _ => exact mc_RunStream_nextOctet
  | 19, _ => exact mc_RunStream_readValue
  | 20, _ => exact mc_Blend_addInput
  | 21, _ => exact mc_SR_mostPages
  | 22, _ => exact mc_SR_countPages
  | 23, _ => exact mc_Blend_advance
  | 24, _ => exact mc_Blend_findLeast
  | 25, _ => exact mc_TableStream_step
  | 26, _ => exact mc_Sheet_fits
  | 27, _ => exact mc_Sheet_shared
  | 28, _ => exact mc_Sheet_folded
  | 29, _ => exact mc_Sheet_sizeOf
  | 30, _ => exact mc_Sheet_beginPage
  | 31, _ => exact mc_Sheet_append
  | 32, _ => exact mc_Sheet_appendValue
  | 33, _ => exact mc_SR_writeMerged
  | 34, _ => exact mc_SR_writeRun
  | 35, _ => exact mc_Space_leastFree
  | 36, _ => exact mc_SR_writePage
  | 37, _ => exact mc_Sheet_finishPage
  | 38, _ => exact mc_Space_claim
  | 39, _ => exact mc_Pages_store
  | y + 40, h => exact absurd h (by omega)
theorem so_mc_80 : ∀ x, x < 40 → so_cd (nm_mi (x + 80)) ∈ so_TB := by
  intro x hx
  match x, hx with
  | 0, _ => exact mc_Run_note
  | 1, _ => exact mc_Run_hashOf
  | 2, _ => exact mc_Run_setBit
  | 3, _ => exact mc_SR_letGo
  | 4, _ => exact mc_Space_giveBack
  | 5, _ => exact mc_RunList_dropFirst
  | 6, _ => exact mc_RunList_putFirst
  | 7, _ => exact mc_SR_writeHead
  | 8, _ => exact mc_SR_flushTable
  | 9, _ => exact mc_SR_blendTable
  | 10, _ => exact mc_Blend_addTable
  | 11, _ => exact mc_TableStream_start
  | 12, _ => exact mc_SR_flush
  | 13, _ => exact mc_SR_merge
  | 14, _ => exact mc_SR_mark
  | 15, _ => exact mc_SR_leastFreeMark
  | 16, _ => exact mc_RunList_keep
  | 17, _ => exact mc_RunList_putLast
  | 18, _ => exact mc_SR_release
  | 19, _ => exact mc_SR_runsOfMark
  | 20, _ => exact mc_SR_get
  | 21, _ => exact mc_SR_runsOf
  | 22, _ => exact mc_Table_lookUp
  | 23, _ => exact mc_SR_lookThrough
  | 24, _ => exact mc_Fate_wantsOlder
  | 25, _ => exact mc_Run_spans
  | 26, _ => exact mc_Run_bars
  | 27, _ => exact mc_Run_hasBit
  | 28, _ => exact mc_RunStream_startPage
  | 29, _ => exact mc_SR_findInPage
  | 30, _ => exact mc_SR_range
  | 31, _ => exact mc_SR_gatherAnswers
  | 32, _ => exact mc_SR_noteAnswer
  | 33, _ => exact mc_SR_at
  | 34, _ => exact mc_SR_run
  | 35, _ => exact mc_SR_hidden
  | 36, _ => exact mc_SR_octet
  | 37, _ => exact mc_SR_requireOctet
  | 38, _ => exact mc_SR_poke
  | 39, _ => exact mc_Pages_turn
  | y + 40, h => exact absurd h (by omega)
theorem so_mc_120 : ∀ x, x < 40 → so_cd (nm_mi (x + 120)) ∈ so_TB := by
  intro x hx
  match x, hx with
  | 0, _ => exact mc_SR_cut
  | 1, _ => exact mc_SR_open
  | 2, _ => exact mc_SR_newestHead
  | 3, _ => exact mc_SR_headIsRight
  | 4, _ => exact mc_Pages_four
  | 5, _ => exact mc_Pages_two
  | 6, _ => exact mc_SR_openRun
  | 7, _ => exact mc_SR_openPage
  | 8, _ => exact mc_Pages_bodyIs
  | 9, _ => exact mc_SR_told
  | 10, _ => exact mc_SR_countMarks
  | 11, _ => exact mc_Mo_init
  | 12, _ => exact mc_Mo_layHead
  | 13, _ => exact mc_Mo_clearDraft
  | 14, _ => exact mc_Mo_put2
  | 15, _ => exact mc_Mo_write
  | 16, _ => exact mc_Mo_sumOf
  | 17, _ => exact mc_Mo_goDown
  | 18, _ => exact mc_Mo_thrown
  | 19, _ => exact mc_Mo_put
  | 20, _ => exact mc_Mo_enter
  | 21, _ => exact mc_Mo_hasPlace
  | 22, _ => exact mc_Mo_placeOf
  | 23, _ => exact mc_Mo_come
  | 24, _ => exact mc_Mo_remove
  | 25, _ => exact mc_Mo_fold
  | 26, _ => exact mc_Mo_many
  | 27, _ => exact mc_Mo_atLevelNought
  | 28, _ => exact mc_Mo_mergeNow
  | 29, _ => exact mc_Mo_below
  | 30, _ => exact mc_Mo_isRight
  | 31, _ => exact mc_Mo_see
  | 32, _ => exact mc_Mo_copy
  | 33, _ => exact mc_Mo_ripe
  | 34, _ => exact mc_Mo_pagesFor
  | 35, _ => exact mc_Mo_sizeOf
  | 36, _ => exact mc_Mo_shared
  | 37, _ => exact mc_Mo_keyOctet
  | 38, _ => exact mc_Mo_vSize
  | 39, _ => exact mc_Mo_freeCount
  | y + 40, h => exact absurd h (by omega)
theorem so_mc_160 : ∀ x, x < 40 → so_cd (nm_mi (x + 160)) ∈ so_TB := by
  intro x hx
  match x, hx with
  | 0, _ => exact mc_Mo_markUsed
  | 1, _ => exact mc_Mo_writeRun
  | 2, _ => exact mc_Mo_layEntry
  | 3, _ => exact mc_Mo_clearFilter
  | 4, _ => exact mc_Mo_mark3
  | 5, _ => exact mc_Mo_hash
  | 6, _ => exact mc_Mo_bit
  | 7, _ => exact mc_Mo_writeHead
  | 8, _ => exact mc_Mo_flushNow
  | 9, _ => exact mc_Mo_flush
  | 10, _ => exact mc_Mo_merge
  | 11, _ => exact mc_Mo_mark
  | 12, _ => exact mc_Mo_release
  | 13, _ => exact mc_Mo_get
  | 14, _ => exact mc_Mo_isView
  | 15, _ => exact mc_Mo_runsOf
  | 16, _ => exact mc_Mo_runOf
  | 17, _ => exact mc_Mo_bars
  | 18, _ => exact mc_Mo_state
  | 19, _ => exact mc_Mo_range
  | 20, _ => exact mc_Mo_at
  | 21, _ => exact mc_Mo_run
  | 22, _ => exact mc_Mo_hidden
  | 23, _ => exact mc_Mo_octet
  | 24, _ => exact mc_Mo_isOctet
  | 25, _ => exact mc_Mo_poke
  | 26, _ => exact mc_Mo_badAt
  | 27, _ => exact mc_Mo_cut
  | 28, _ => exact mc_Mo_down
  | 29, _ => exact mc_Mo_open
  | 30, _ => exact mc_Mo_generationOf
  | 31, _ => exact mc_Mo_two
  | 32, _ => exact mc_Mo_areRuns
  | 33, _ => exact mc_Mo_isLaid
  | 34, _ => exact mc_Mo_behindValue
  | 35, _ => exact mc_Mo_told
  | 36, _ => exact mc_La_put
  | 37, _ => exact mc_La_remove
  | 38, _ => exact mc_La_fold
  | 39, _ => exact mc_La_many
  | y + 40, h => exact absurd h (by omega)
theorem so_mc_200 : ∀ x, x < 14 → so_cd (nm_mi (x + 200)) ∈ so_TB := by
  intro x hx
  match x, hx with
  | 0, _ => exact mc_La_flush
  | 1, _ => exact mc_La_merge
  | 2, _ => exact mc_La_mark
  | 3, _ => exact mc_La_release
  | 4, _ => exact mc_La_get
  | 5, _ => exact mc_La_range
  | 6, _ => exact mc_La_at
  | 7, _ => exact mc_La_run
  | 8, _ => exact mc_La_hidden
  | 9, _ => exact mc_La_octet
  | 10, _ => exact mc_La_poke
  | 11, _ => exact mc_La_cut
  | 12, _ => exact mc_La_open
  | 13, _ => exact mc_La_told
  | y + 14, h => exact absurd h (by omega)
theorem so_mc {x : Nat} (hx : x < 214) : so_cd (nm_mi x) ∈ so_TB := by
  by_cases h0 : x < 40
  · have := so_mc_0 (x - 0) (by omega)
    rwa [show x - 0 + 0 = x by omega] at this
  by_cases h40 : x < 80
  · have := so_mc_40 (x - 40) (by omega)
    rwa [show x - 40 + 40 = x by omega] at this
  by_cases h80 : x < 120
  · have := so_mc_80 (x - 80) (by omega)
    rwa [show x - 80 + 80 = x by omega] at this
  by_cases h120 : x < 160
  · have := so_mc_120 (x - 120) (by omega)
    rwa [show x - 120 + 120 = x by omega] at this
  by_cases h160 : x < 200
  · have := so_mc_160 (x - 160) (by omega)
    rwa [show x - 160 + 160 = x by omega] at this
  have := so_mc_200 (x - 200) (by omega)
  rwa [show x - 200 + 200 = x by omega] at this
theorem so_mz_0 : ∀ x, x < 40 → Cond.initialized (nm_mi (x + 0)).1.cls ∈ so_TB := by
  intro x hx
  match x, hx with
  | 0, _ => exact mz_0
  | 1, _ => exact mz_10
  | 2, _ => exact mz_2
  | 3, _ => exact mz_5
  | 4, _ => exact mz_4
  | 5, _ => exact mz_7
  | 6, _ => exact mz_3
  | 7, _ => exact mz_8
  | 8, _ => exact mz_1
  | 9, _ => exact mz_11
  | 10, _ => exact mz_9
  | 11, _ => exact mz_6
  | 12, _ => exact mz_0
  | 13, _ => exact mz_7
  | 14, _ => exact mz_7
  | 15, _ => exact mz_7
  | 16, _ => exact mz_7
  | 17, _ => exact mz_7
  | 18, _ => exact mz_3
  | 19, _ => exact mz_3
  | 20, _ => exact mz_3
  | 21, _ => exact mz_0
  | 22, _ => exact mz_0
  | 23, _ => exact mz_3
  | 24, _ => exact mz_0
  | 25, _ => exact mz_8
  | 26, _ => exact mz_8
  | 27, _ => exact mz_0
  | 28, _ => exact mz_0
  | 29, _ => exact mz_5
  | 30, _ => exact mz_8
  | 31, _ => exact mz_12
  | 32, _ => exact mz_0
  | 33, _ => exact mz_0
  | 34, _ => exact mz_0
  | 35, _ => exact mz_10
  | 36, _ => exact mz_10
  | 37, _ => exact mz_10
  | 38, _ => exact mz_10
  | 39, _ => exact mz_2
  | y + 40, h => exact absurd h (by omega)
theorem so_mz_40 : ∀ x, x < 40 → Cond.initialized (nm_mi (x + 40)).1.cls ∈ so_TB := by
  intro x hx
  match x, hx with
  | 0, _ => exact mz_2
  | 1, _ => exact mz_10
  | 2, _ => exact mz_0
  | 3, _ => exact mz_0
  | 4, _ => exact mz_0
  | 5, _ => exact mz_0
  | 6, _ => exact mz_5
  | 7, _ => exact mz_0
  | 8, _ => exact mz_0
  | 9, _ => exact mz_3
  | 10, _ => exact mz_0
  | 11, _ => exact mz_1
  | 12, _ => exact mz_1
  | 13, _ => exact mz_6
  | 14, _ => exact mz_8
  | 15, _ => exact mz_6
  | 16, _ => exact mz_3
  | 17, _ => exact mz_6
  | 18, _ => exact mz_6
  | 19, _ => exact mz_6
  | 20, _ => exact mz_1
  | 21, _ => exact mz_0
  | 22, _ => exact mz_0
  | 23, _ => exact mz_1
  | 24, _ => exact mz_1
  | 25, _ => exact mz_11
  | 26, _ => exact mz_7
  | 27, _ => exact mz_7
  | 28, _ => exact mz_7
  | 29, _ => exact mz_7
  | 30, _ => exact mz_7
  | 31, _ => exact mz_7
  | 32, _ => exact mz_7
  | 33, _ => exact mz_0
  | 34, _ => exact mz_0
  | 35, _ => exact mz_8
  | 36, _ => exact mz_0
  | 37, _ => exact mz_7
  | 38, _ => exact mz_8
  | 39, _ => exact mz_3
  | y + 40, h => exact absurd h (by omega)
theorem so_mz_80 : ∀ x, x < 40 → Cond.initialized (nm_mi (x + 80)).1.cls ∈ so_TB := by
  intro x hx
  match x, hx with
  | 0, _ => exact mz_4
  | 1, _ => exact mz_4
  | 2, _ => exact mz_4
  | 3, _ => exact mz_0
  | 4, _ => exact mz_8
  | 5, _ => exact mz_5
  | 6, _ => exact mz_5
  | 7, _ => exact mz_0
  | 8, _ => exact mz_0
  | 9, _ => exact mz_0
  | 10, _ => exact mz_1
  | 11, _ => exact mz_11
  | 12, _ => exact mz_0
  | 13, _ => exact mz_0
  | 14, _ => exact mz_0
  | 15, _ => exact mz_0
  | 16, _ => exact mz_5
  | 17, _ => exact mz_5
  | 18, _ => exact mz_0
  | 19, _ => exact mz_0
  | 20, _ => exact mz_0
  | 21, _ => exact mz_0
  | 22, _ => exact mz_10
  | 23, _ => exact mz_0
  | 24, _ => exact mz_2
  | 25, _ => exact mz_4
  | 26, _ => exact mz_4
  | 27, _ => exact mz_4
  | 28, _ => exact mz_6
  | 29, _ => exact mz_0
  | 30, _ => exact mz_0
  | 31, _ => exact mz_0
  | 32, _ => exact mz_0
  | 33, _ => exact mz_0
  | 34, _ => exact mz_0
  | 35, _ => exact mz_0
  | 36, _ => exact mz_0
  | 37, _ => exact mz_0
  | 38, _ => exact mz_0
  | 39, _ => exact mz_3
  | y + 40, h => exact absurd h (by omega)
theorem so_mz_120 : ∀ x, x < 40 → Cond.initialized (nm_mi (x + 120)).1.cls ∈ so_TB := by
  intro x hx
  match x, hx with
  | 0, _ => exact mz_0
  | 1, _ => exact mz_0
  | 2, _ => exact mz_0
  | 3, _ => exact mz_0
  | 4, _ => exact mz_3
  | 5, _ => exact mz_3
  | 6, _ => exact mz_0
  | 7, _ => exact mz_0
  | 8, _ => exact mz_3
  | 9, _ => exact mz_0
  | 10, _ => exact mz_0
  | 11, _ => exact mz_13
  | 12, _ => exact mz_13
  | 13, _ => exact mz_13
  | 14, _ => exact mz_13
  | 15, _ => exact mz_13
  | 16, _ => exact mz_13
  | 17, _ => exact mz_13
  | 18, _ => exact mz_13
  | 19, _ => exact mz_13
  | 20, _ => exact mz_13
  | 21, _ => exact mz_13
  | 22, _ => exact mz_13
  | 23, _ => exact mz_13
  | 24, _ => exact mz_13
  | 25, _ => exact mz_13
  | 26, _ => exact mz_13
  | 27, _ => exact mz_13
  | 28, _ => exact mz_13
  | 29, _ => exact mz_13
  | 30, _ => exact mz_13
  | 31, _ => exact mz_13
  | 32, _ => exact mz_13
  | 33, _ => exact mz_13
  | 34, _ => exact mz_13
  | 35, _ => exact mz_13
  | 36, _ => exact mz_13
  | 37, _ => exact mz_13
  | 38, _ => exact mz_13
  | 39, _ => exact mz_13
  | y + 40, h => exact absurd h (by omega)
theorem so_mz_160 : ∀ x, x < 40 → Cond.initialized (nm_mi (x + 160)).1.cls ∈ so_TB := by
  intro x hx
  match x, hx with
  | 0, _ => exact mz_13
  | 1, _ => exact mz_13
  | 2, _ => exact mz_13
  | 3, _ => exact mz_13
  | 4, _ => exact mz_13
  | 5, _ => exact mz_13
  | 6, _ => exact mz_13
  | 7, _ => exact mz_13
  | 8, _ => exact mz_13
  | 9, _ => exact mz_13
  | 10, _ => exact mz_13
  | 11, _ => exact mz_13
  | 12, _ => exact mz_13
  | 13, _ => exact mz_13
  | 14, _ => exact mz_13
  | 15, _ => exact mz_13
  | 16, _ => exact mz_13
  | 17, _ => exact mz_13
  | 18, _ => exact mz_13
  | 19, _ => exact mz_13
  | 20, _ => exact mz_13
  | 21, _ => exact mz_13
  | 22, _ => exact mz_13
  | 23, _ => exact mz_13
  | 24, _ => exact mz_13
  | 25, _ => exact mz_13
  | 26, _ => exact mz_13
  | 27, _ => exact mz_13
  | 28, _ => exact mz_13
  | 29, _ => exact mz_13
  | 30, _ => exact mz_13
  | 31, _ => exact mz_13
  | 32, _ => exact mz_13
  | 33, _ => exact mz_13
  | 34, _ => exact mz_13
  | 35, _ => exact mz_13
  | 36, _ => exact mz_12
  | 37, _ => exact mz_12
  | 38, _ => exact mz_12
  | 39, _ => exact mz_12
  | y + 40, h => exact absurd h (by omega)
theorem so_mz_200 : ∀ x, x < 14 → Cond.initialized (nm_mi (x + 200)).1.cls ∈ so_TB := by
  intro x hx
  match x, hx with
  | 0, _ => exact mz_12
  | 1, _ => exact mz_12
  | 2, _ => exact mz_12
  | 3, _ => exact mz_12
  | 4, _ => exact mz_12
  | 5, _ => exact mz_12
  | 6, _ => exact mz_12
  | 7, _ => exact mz_12
  | 8, _ => exact mz_12
  | 9, _ => exact mz_12
  | 10, _ => exact mz_12
  | 11, _ => exact mz_12
  | 12, _ => exact mz_12
  | 13, _ => exact mz_12
  | y + 14, h => exact absurd h (by omega)
theorem so_mz {x : Nat} (hx : x < 214) : Cond.initialized (nm_mi x).1.cls ∈ so_TB := by
  by_cases h0 : x < 40
  · have := so_mz_0 (x - 0) (by omega)
    rwa [show x - 0 + 0 = x by omega] at this
  by_cases h40 : x < 80
  · have := so_mz_40 (x - 40) (by omega)
    rwa [show x - 40 + 40 = x by omega] at this
  by_cases h80 : x < 120
  · have := so_mz_80 (x - 80) (by omega)
    rwa [show x - 80 + 80 = x by omega] at this
  by_cases h120 : x < 160
  · have := so_mz_120 (x - 120) (by omega)
    rwa [show x - 120 + 120 = x by omega] at this
  by_cases h160 : x < 200
  · have := so_mz_160 (x - 160) (by omega)
    rwa [show x - 160 + 160 = x by omega] at this
  have := so_mz_200 (x - 200) (by omega)
  rwa [show x - 200 + 200 = x by omega] at this
theorem so_ms_0 : ∀ x, x < 40 → (nm_mw[(x + 0)]?).map (·.2.1) = some 0 → Cond.static (nm_mi (x + 0)).1 ∈ so_TB := by
  intro x hx
  match x, hx with
  | 0, _ => exact fun h => absurd h (by decide)
  | 1, _ => exact fun h => absurd h (by decide)
  | 2, _ => exact fun h => absurd h (by decide)
  | 3, _ => exact fun h => absurd h (by decide)
  | 4, _ => exact fun h => absurd h (by decide)
  | 5, _ => exact fun h => absurd h (by decide)
  | 6, _ => exact fun h => absurd h (by decide)
  | 7, _ => exact fun h => absurd h (by decide)
  | 8, _ => exact fun h => absurd h (by decide)
  | 9, _ => exact fun h => absurd h (by decide)
  | 10, _ => exact fun h => absurd h (by decide)
  | 11, _ => exact fun h => absurd h (by decide)
  | 12, _ => exact fun h => absurd h (by decide)
  | 13, _ => exact fun h => absurd h (by decide)
  | 14, _ => exact fun h => absurd h (by decide)
  | 15, _ => exact fun h => absurd h (by decide)
  | 16, _ => exact fun h => absurd h (by decide)
  | 17, _ => exact fun _ => ms_Sheet_sumOf
  | 18, _ => exact fun h => absurd h (by decide)
  | 19, _ => exact fun h => absurd h (by decide)
  | 20, _ => exact fun h => absurd h (by decide)
  | 21, _ => exact fun h => absurd h (by decide)
  | 22, _ => exact fun h => absurd h (by decide)
  | 23, _ => exact fun h => absurd h (by decide)
  | 24, _ => exact fun h => absurd h (by decide)
  | 25, _ => exact fun h => absurd h (by decide)
  | 26, _ => exact fun h => absurd h (by decide)
  | 27, _ => exact fun h => absurd h (by decide)
  | 28, _ => exact fun h => absurd h (by decide)
  | 29, _ => exact fun h => absurd h (by decide)
  | 30, _ => exact fun h => absurd h (by decide)
  | 31, _ => exact fun _ => ms_La_cell
  | 32, _ => exact fun h => absurd h (by decide)
  | 33, _ => exact fun h => absurd h (by decide)
  | 34, _ => exact fun h => absurd h (by decide)
  | 35, _ => exact fun h => absurd h (by decide)
  | 36, _ => exact fun h => absurd h (by decide)
  | 37, _ => exact fun h => absurd h (by decide)
  | 38, _ => exact fun h => absurd h (by decide)
  | 39, _ => exact fun h => absurd h (by decide)
  | y + 40, h => exact absurd h (by omega)
theorem so_ms_40 : ∀ x, x < 40 → (nm_mw[(x + 40)]?).map (·.2.1) = some 0 → Cond.static (nm_mi (x + 40)).1 ∈ so_TB := by
  intro x hx
  match x, hx with
  | 0, _ => exact fun h => absurd h (by decide)
  | 1, _ => exact fun h => absurd h (by decide)
  | 2, _ => exact fun h => absurd h (by decide)
  | 3, _ => exact fun h => absurd h (by decide)
  | 4, _ => exact fun h => absurd h (by decide)
  | 5, _ => exact fun _ => ms_SR_isKind
  | 6, _ => exact fun h => absurd h (by decide)
  | 7, _ => exact fun h => absurd h (by decide)
  | 8, _ => exact fun h => absurd h (by decide)
  | 9, _ => exact fun h => absurd h (by decide)
  | 10, _ => exact fun h => absurd h (by decide)
  | 11, _ => exact fun h => absurd h (by decide)
  | 12, _ => exact fun h => absurd h (by decide)
  | 13, _ => exact fun h => absurd h (by decide)
  | 14, _ => exact fun h => absurd h (by decide)
  | 15, _ => exact fun h => absurd h (by decide)
  | 16, _ => exact fun h => absurd h (by decide)
  | 17, _ => exact fun h => absurd h (by decide)
  | 18, _ => exact fun h => absurd h (by decide)
  | 19, _ => exact fun h => absurd h (by decide)
  | 20, _ => exact fun h => absurd h (by decide)
  | 21, _ => exact fun _ => ms_SR_mostPages
  | 22, _ => exact fun h => absurd h (by decide)
  | 23, _ => exact fun h => absurd h (by decide)
  | 24, _ => exact fun h => absurd h (by decide)
  | 25, _ => exact fun h => absurd h (by decide)
  | 26, _ => exact fun h => absurd h (by decide)
  | 27, _ => exact fun h => absurd h (by decide)
  | 28, _ => exact fun _ => ms_Sheet_folded
  | 29, _ => exact fun _ => ms_Sheet_sizeOf
  | 30, _ => exact fun h => absurd h (by decide)
  | 31, _ => exact fun h => absurd h (by decide)
  | 32, _ => exact fun h => absurd h (by decide)
  | 33, _ => exact fun h => absurd h (by decide)
  | 34, _ => exact fun h => absurd h (by decide)
  | 35, _ => exact fun h => absurd h (by decide)
  | 36, _ => exact fun h => absurd h (by decide)
  | 37, _ => exact fun h => absurd h (by decide)
  | 38, _ => exact fun h => absurd h (by decide)
  | 39, _ => exact fun h => absurd h (by decide)
  | y + 40, h => exact absurd h (by omega)
theorem so_ms_80 : ∀ x, x < 40 → (nm_mw[(x + 80)]?).map (·.2.1) = some 0 → Cond.static (nm_mi (x + 80)).1 ∈ so_TB := by
  intro x hx
  match x, hx with
  | 0, _ => exact fun h => absurd h (by decide)
  | 1, _ => exact fun h => absurd h (by decide)
  | 2, _ => exact fun h => absurd h (by decide)
  | 3, _ => exact fun h => absurd h (by decide)
  | 4, _ => exact fun h => absurd h (by decide)
  | 5, _ => exact fun h => absurd h (by decide)
  | 6, _ => exact fun h => absurd h (by decide)
  | 7, _ => exact fun h => absurd h (by decide)
  | 8, _ => exact fun h => absurd h (by decide)
  | 9, _ => exact fun h => absurd h (by decide)
  | 10, _ => exact fun h => absurd h (by decide)
  | 11, _ => exact fun h => absurd h (by decide)
  | 12, _ => exact fun h => absurd h (by decide)
  | 13, _ => exact fun h => absurd h (by decide)
  | 14, _ => exact fun h => absurd h (by decide)
  | 15, _ => exact fun h => absurd h (by decide)
  | 16, _ => exact fun h => absurd h (by decide)
  | 17, _ => exact fun h => absurd h (by decide)
  | 18, _ => exact fun h => absurd h (by decide)
  | 19, _ => exact fun h => absurd h (by decide)
  | 20, _ => exact fun h => absurd h (by decide)
  | 21, _ => exact fun h => absurd h (by decide)
  | 22, _ => exact fun h => absurd h (by decide)
  | 23, _ => exact fun h => absurd h (by decide)
  | 24, _ => exact fun h => absurd h (by decide)
  | 25, _ => exact fun h => absurd h (by decide)
  | 26, _ => exact fun h => absurd h (by decide)
  | 27, _ => exact fun h => absurd h (by decide)
  | 28, _ => exact fun h => absurd h (by decide)
  | 29, _ => exact fun h => absurd h (by decide)
  | 30, _ => exact fun h => absurd h (by decide)
  | 31, _ => exact fun h => absurd h (by decide)
  | 32, _ => exact fun h => absurd h (by decide)
  | 33, _ => exact fun h => absurd h (by decide)
  | 34, _ => exact fun h => absurd h (by decide)
  | 35, _ => exact fun h => absurd h (by decide)
  | 36, _ => exact fun h => absurd h (by decide)
  | 37, _ => exact fun h => absurd h (by decide)
  | 38, _ => exact fun h => absurd h (by decide)
  | 39, _ => exact fun h => absurd h (by decide)
  | y + 40, h => exact absurd h (by omega)
theorem so_ms_120 : ∀ x, x < 40 → (nm_mw[(x + 120)]?).map (·.2.1) = some 0 → Cond.static (nm_mi (x + 120)).1 ∈ so_TB := by
  intro x hx
  match x, hx with
  | 0, _ => exact fun h => absurd h (by decide)
  | 1, _ => exact fun h => absurd h (by decide)
  | 2, _ => exact fun h => absurd h (by decide)
  | 3, _ => exact fun h => absurd h (by decide)
  | 4, _ => exact fun h => absurd h (by decide)
  | 5, _ => exact fun h => absurd h (by decide)
  | 6, _ => exact fun h => absurd h (by decide)
  | 7, _ => exact fun h => absurd h (by decide)
  | 8, _ => exact fun h => absurd h (by decide)
  | 9, _ => exact fun h => absurd h (by decide)
  | 10, _ => exact fun h => absurd h (by decide)
  | 11, _ => exact fun h => absurd h (by decide)
  | 12, _ => exact fun h => absurd h (by decide)
  | 13, _ => exact fun h => absurd h (by decide)
  | 14, _ => exact fun h => absurd h (by decide)
  | 15, _ => exact fun h => absurd h (by decide)
  | 16, _ => exact fun h => absurd h (by decide)
  | 17, _ => exact fun h => absurd h (by decide)
  | 18, _ => exact fun h => absurd h (by decide)
  | 19, _ => exact fun h => absurd h (by decide)
  | 20, _ => exact fun h => absurd h (by decide)
  | 21, _ => exact fun h => absurd h (by decide)
  | 22, _ => exact fun h => absurd h (by decide)
  | 23, _ => exact fun h => absurd h (by decide)
  | 24, _ => exact fun h => absurd h (by decide)
  | 25, _ => exact fun h => absurd h (by decide)
  | 26, _ => exact fun h => absurd h (by decide)
  | 27, _ => exact fun h => absurd h (by decide)
  | 28, _ => exact fun h => absurd h (by decide)
  | 29, _ => exact fun h => absurd h (by decide)
  | 30, _ => exact fun h => absurd h (by decide)
  | 31, _ => exact fun h => absurd h (by decide)
  | 32, _ => exact fun h => absurd h (by decide)
  | 33, _ => exact fun h => absurd h (by decide)
  | 34, _ => exact fun h => absurd h (by decide)
  | 35, _ => exact fun h => absurd h (by decide)
  | 36, _ => exact fun _ => ms_Mo_shared
  | 37, _ => exact fun _ => ms_Mo_keyOctet
  | 38, _ => exact fun _ => ms_Mo_vSize
  | 39, _ => exact fun h => absurd h (by decide)
  | y + 40, h => exact absurd h (by omega)
theorem so_ms_160 : ∀ x, x < 40 → (nm_mw[(x + 160)]?).map (·.2.1) = some 0 → Cond.static (nm_mi (x + 160)).1 ∈ so_TB := by
  intro x hx
  match x, hx with
  | 0, _ => exact fun h => absurd h (by decide)
  | 1, _ => exact fun h => absurd h (by decide)
  | 2, _ => exact fun h => absurd h (by decide)
  | 3, _ => exact fun h => absurd h (by decide)
  | 4, _ => exact fun h => absurd h (by decide)
  | 5, _ => exact fun _ => ms_Mo_hash
  | 6, _ => exact fun _ => ms_Mo_bit
  | 7, _ => exact fun h => absurd h (by decide)
  | 8, _ => exact fun h => absurd h (by decide)
  | 9, _ => exact fun h => absurd h (by decide)
  | 10, _ => exact fun h => absurd h (by decide)
  | 11, _ => exact fun h => absurd h (by decide)
  | 12, _ => exact fun h => absurd h (by decide)
  | 13, _ => exact fun h => absurd h (by decide)
  | 14, _ => exact fun h => absurd h (by decide)
  | 15, _ => exact fun h => absurd h (by decide)
  | 16, _ => exact fun h => absurd h (by decide)
  | 17, _ => exact fun h => absurd h (by decide)
  | 18, _ => exact fun h => absurd h (by decide)
  | 19, _ => exact fun h => absurd h (by decide)
  | 20, _ => exact fun h => absurd h (by decide)
  | 21, _ => exact fun h => absurd h (by decide)
  | 22, _ => exact fun h => absurd h (by decide)
  | 23, _ => exact fun h => absurd h (by decide)
  | 24, _ => exact fun h => absurd h (by decide)
  | 25, _ => exact fun h => absurd h (by decide)
  | 26, _ => exact fun h => absurd h (by decide)
  | 27, _ => exact fun h => absurd h (by decide)
  | 28, _ => exact fun h => absurd h (by decide)
  | 29, _ => exact fun h => absurd h (by decide)
  | 30, _ => exact fun h => absurd h (by decide)
  | 31, _ => exact fun h => absurd h (by decide)
  | 32, _ => exact fun h => absurd h (by decide)
  | 33, _ => exact fun h => absurd h (by decide)
  | 34, _ => exact fun h => absurd h (by decide)
  | 35, _ => exact fun h => absurd h (by decide)
  | 36, _ => exact fun _ => ms_La_put
  | 37, _ => exact fun _ => ms_La_remove
  | 38, _ => exact fun _ => ms_La_fold
  | 39, _ => exact fun _ => ms_La_many
  | y + 40, h => exact absurd h (by omega)
theorem so_ms_200 : ∀ x, x < 14 → (nm_mw[(x + 200)]?).map (·.2.1) = some 0 → Cond.static (nm_mi (x + 200)).1 ∈ so_TB := by
  intro x hx
  match x, hx with
  | 0, _ => exact fun _ => ms_La_flush
  | 1, _ => exact fun _ => ms_La_merge
  | 2, _ => exact fun _ => ms_La_mark
  | 3, _ => exact fun _ => ms_La_release
  | 4, _ => exact fun _ => ms_La_get
  | 5, _ => exact fun _ => ms_La_range
  | 6, _ => exact fun _ => ms_La_at
  | 7, _ => exact fun _ => ms_La_run
  | 8, _ => exact fun _ => ms_La_hidden
  | 9, _ => exact fun _ => ms_La_octet
  | 10, _ => exact fun _ => ms_La_poke
  | 11, _ => exact fun _ => ms_La_cut
  | 12, _ => exact fun _ => ms_La_open
  | 13, _ => exact fun _ => ms_La_told
  | y + 14, h => exact absurd h (by omega)
theorem so_ms {x : Nat} (hx : x < 214) : (nm_mw[x]?).map (·.2.1) = some 0 → Cond.static (nm_mi x).1 ∈ so_TB := by
  by_cases h0 : x < 40
  · have := so_ms_0 (x - 0) (by omega)
    rwa [show x - 0 + 0 = x by omega] at this
  by_cases h40 : x < 80
  · have := so_ms_40 (x - 40) (by omega)
    rwa [show x - 40 + 40 = x by omega] at this
  by_cases h80 : x < 120
  · have := so_ms_80 (x - 80) (by omega)
    rwa [show x - 80 + 80 = x by omega] at this
  by_cases h120 : x < 160
  · have := so_ms_120 (x - 120) (by omega)
    rwa [show x - 120 + 120 = x by omega] at this
  by_cases h160 : x < 200
  · have := so_ms_160 (x - 160) (by omega)
    rwa [show x - 160 + 160 = x by omega] at this
  have := so_ms_200 (x - 200) (by omega)
  rwa [show x - 200 + 200 = x by omega] at this
theorem so_mm_0 : ∀ x, x < 40 → (nm_mw[(x + 0)]?).map (·.2.1) = some 1 → Cond.instanceMethod (nm_mi (x + 0)).1 ∈ so_TB := by
  intro x hx
  match x, hx with
  | 0, _ => exact fun _ => mm_SR_init
  | 1, _ => exact fun _ => mm_Table_init
  | 2, _ => exact fun _ => mm_Fate_init
  | 3, _ => exact fun _ => mm_RunList_init
  | 4, _ => exact fun _ => mm_Run_init
  | 5, _ => exact fun _ => mm_Sheet_init
  | 6, _ => exact fun _ => mm_Pages_init
  | 7, _ => exact fun _ => mm_Space_init
  | 8, _ => exact fun _ => mm_Blend_init
  | 9, _ => exact fun _ => mm_TableStream_init
  | 10, _ => exact fun _ => mm_Stream_init
  | 11, _ => exact fun _ => mm_RunStream_init
  | 12, _ => exact fun _ => mm_SR_fillHead
  | 13, _ => exact fun _ => mm_Sheet_clear
  | 14, _ => exact fun _ => mm_Sheet_two
  | 15, _ => exact fun _ => mm_Sheet_one
  | 16, _ => exact fun _ => mm_Sheet_seal
  | 17, _ => exact fun h => absurd h (by decide)
  | 18, _ => exact fun _ => mm_Pages_lay
  | 19, _ => exact fun _ => mm_Pages_has
  | 20, _ => exact fun _ => mm_Pages_checkSum
  | 21, _ => exact fun _ => mm_SR_state
  | 22, _ => exact fun _ => mm_SR_badAt
  | 23, _ => exact fun _ => mm_Pages_isRight
  | 24, _ => exact fun _ => mm_SR_leastWrong
  | 25, _ => exact fun _ => mm_Space_after
  | 26, _ => exact fun _ => mm_Space_has
  | 27, _ => exact fun _ => mm_SR_down
  | 28, _ => exact fun _ => mm_SR_goDown
  | 29, _ => exact fun _ => mm_RunList_forget
  | 30, _ => exact fun _ => mm_Space_clear
  | 31, _ => exact fun h => absurd h (by decide)
  | 32, _ => exact fun _ => mm_SR_put
  | 33, _ => exact fun _ => mm_SR_enterOne
  | 34, _ => exact fun _ => mm_SR_requireUp
  | 35, _ => exact fun _ => mm_Table_hasPlaceFor
  | 36, _ => exact fun _ => mm_Table_placeOf
  | 37, _ => exact fun _ => mm_Table_holds
  | 38, _ => exact fun _ => mm_Table_enter
  | 39, _ => exact fun _ => mm_Fate_begin
  | y + 40, h => exact absurd h (by omega)
theorem so_mm_40 : ∀ x, x < 40 → (nm_mw[(x + 40)]?).map (·.2.1) = some 1 → Cond.instanceMethod (nm_mi (x + 40)).1 ∈ so_TB := by
  intro x hx
  match x, hx with
  | 0, _ => exact fun _ => mm_Fate_layUpon
  | 1, _ => exact fun _ => mm_Table_shiftFrom
  | 2, _ => exact fun _ => mm_SR_remove
  | 3, _ => exact fun _ => mm_SR_fold
  | 4, _ => exact fun _ => mm_SR_many
  | 5, _ => exact fun h => absurd h (by decide)
  | 6, _ => exact fun _ => mm_RunList_countUpTo
  | 7, _ => exact fun _ => mm_SR_mergeRuns
  | 8, _ => exact fun _ => mm_SR_readRuns
  | 9, _ => exact fun _ => mm_Pages_readsRight
  | 10, _ => exact fun _ => mm_SR_blendRuns
  | 11, _ => exact fun _ => mm_Blend_begin
  | 12, _ => exact fun _ => mm_Blend_addRun
  | 13, _ => exact fun _ => mm_RunStream_start
  | 14, _ => exact fun _ => mm_Space_beginsAbove
  | 15, _ => exact fun _ => mm_RunStream_step
  | 16, _ => exact fun _ => mm_Pages_peek
  | 17, _ => exact fun _ => mm_RunStream_readKey
  | 18, _ => exact fun _ => mm_RunStream_nextOctet
  | 19, _ => exact fun _ => mm_RunStream_readValue
  | 20, _ => exact fun _ => mm_Blend_addInput
  | 21, _ => exact fun h => absurd h (by decide)
  | 22, _ => exact fun _ => mm_SR_countPages
  | 23, _ => exact fun _ => mm_Blend_advance
  | 24, _ => exact fun _ => mm_Blend_findLeast
  | 25, _ => exact fun _ => mm_TableStream_step
  | 26, _ => exact fun _ => mm_Sheet_fits
  | 27, _ => exact fun _ => mm_Sheet_shared
  | 28, _ => exact fun h => absurd h (by decide)
  | 29, _ => exact fun h => absurd h (by decide)
  | 30, _ => exact fun _ => mm_Sheet_beginPage
  | 31, _ => exact fun _ => mm_Sheet_append
  | 32, _ => exact fun _ => mm_Sheet_appendValue
  | 33, _ => exact fun _ => mm_SR_writeMerged
  | 34, _ => exact fun _ => mm_SR_writeRun
  | 35, _ => exact fun _ => mm_Space_leastFree
  | 36, _ => exact fun _ => mm_SR_writePage
  | 37, _ => exact fun _ => mm_Sheet_finishPage
  | 38, _ => exact fun _ => mm_Space_claim
  | 39, _ => exact fun _ => mm_Pages_store
  | y + 40, h => exact absurd h (by omega)
theorem so_mm_80 : ∀ x, x < 40 → (nm_mw[(x + 80)]?).map (·.2.1) = some 1 → Cond.instanceMethod (nm_mi (x + 80)).1 ∈ so_TB := by
  intro x hx
  match x, hx with
  | 0, _ => exact fun _ => mm_Run_note
  | 1, _ => exact fun _ => mm_Run_hashOf
  | 2, _ => exact fun _ => mm_Run_setBit
  | 3, _ => exact fun _ => mm_SR_letGo
  | 4, _ => exact fun _ => mm_Space_giveBack
  | 5, _ => exact fun _ => mm_RunList_dropFirst
  | 6, _ => exact fun _ => mm_RunList_putFirst
  | 7, _ => exact fun _ => mm_SR_writeHead
  | 8, _ => exact fun _ => mm_SR_flushTable
  | 9, _ => exact fun _ => mm_SR_blendTable
  | 10, _ => exact fun _ => mm_Blend_addTable
  | 11, _ => exact fun _ => mm_TableStream_start
  | 12, _ => exact fun _ => mm_SR_flush
  | 13, _ => exact fun _ => mm_SR_merge
  | 14, _ => exact fun _ => mm_SR_mark
  | 15, _ => exact fun _ => mm_SR_leastFreeMark
  | 16, _ => exact fun _ => mm_RunList_keep
  | 17, _ => exact fun _ => mm_RunList_putLast
  | 18, _ => exact fun _ => mm_SR_release
  | 19, _ => exact fun _ => mm_SR_runsOfMark
  | 20, _ => exact fun _ => mm_SR_get
  | 21, _ => exact fun _ => mm_SR_runsOf
  | 22, _ => exact fun _ => mm_Table_lookUp
  | 23, _ => exact fun _ => mm_SR_lookThrough
  | 24, _ => exact fun _ => mm_Fate_wantsOlder
  | 25, _ => exact fun _ => mm_Run_spans
  | 26, _ => exact fun _ => mm_Run_bars
  | 27, _ => exact fun _ => mm_Run_hasBit
  | 28, _ => exact fun _ => mm_RunStream_startPage
  | 29, _ => exact fun _ => mm_SR_findInPage
  | 30, _ => exact fun _ => mm_SR_range
  | 31, _ => exact fun _ => mm_SR_gatherAnswers
  | 32, _ => exact fun _ => mm_SR_noteAnswer
  | 33, _ => exact fun _ => mm_SR_at
  | 34, _ => exact fun _ => mm_SR_run
  | 35, _ => exact fun _ => mm_SR_hidden
  | 36, _ => exact fun _ => mm_SR_octet
  | 37, _ => exact fun _ => mm_SR_requireOctet
  | 38, _ => exact fun _ => mm_SR_poke
  | 39, _ => exact fun _ => mm_Pages_turn
  | y + 40, h => exact absurd h (by omega)
theorem so_mm_120 : ∀ x, x < 40 → (nm_mw[(x + 120)]?).map (·.2.1) = some 1 → Cond.instanceMethod (nm_mi (x + 120)).1 ∈ so_TB := by
  intro x hx
  match x, hx with
  | 0, _ => exact fun _ => mm_SR_cut
  | 1, _ => exact fun _ => mm_SR_open
  | 2, _ => exact fun _ => mm_SR_newestHead
  | 3, _ => exact fun _ => mm_SR_headIsRight
  | 4, _ => exact fun _ => mm_Pages_four
  | 5, _ => exact fun _ => mm_Pages_two
  | 6, _ => exact fun _ => mm_SR_openRun
  | 7, _ => exact fun _ => mm_SR_openPage
  | 8, _ => exact fun _ => mm_Pages_bodyIs
  | 9, _ => exact fun _ => mm_SR_told
  | 10, _ => exact fun _ => mm_SR_countMarks
  | 11, _ => exact fun _ => mm_Mo_init
  | 12, _ => exact fun _ => mm_Mo_layHead
  | 13, _ => exact fun _ => mm_Mo_clearDraft
  | 14, _ => exact fun _ => mm_Mo_put2
  | 15, _ => exact fun _ => mm_Mo_write
  | 16, _ => exact fun _ => mm_Mo_sumOf
  | 17, _ => exact fun _ => mm_Mo_goDown
  | 18, _ => exact fun _ => mm_Mo_thrown
  | 19, _ => exact fun _ => mm_Mo_put
  | 20, _ => exact fun _ => mm_Mo_enter
  | 21, _ => exact fun _ => mm_Mo_hasPlace
  | 22, _ => exact fun _ => mm_Mo_placeOf
  | 23, _ => exact fun _ => mm_Mo_come
  | 24, _ => exact fun _ => mm_Mo_remove
  | 25, _ => exact fun _ => mm_Mo_fold
  | 26, _ => exact fun _ => mm_Mo_many
  | 27, _ => exact fun _ => mm_Mo_atLevelNought
  | 28, _ => exact fun _ => mm_Mo_mergeNow
  | 29, _ => exact fun _ => mm_Mo_below
  | 30, _ => exact fun _ => mm_Mo_isRight
  | 31, _ => exact fun _ => mm_Mo_see
  | 32, _ => exact fun _ => mm_Mo_copy
  | 33, _ => exact fun _ => mm_Mo_ripe
  | 34, _ => exact fun _ => mm_Mo_pagesFor
  | 35, _ => exact fun _ => mm_Mo_sizeOf
  | 36, _ => exact fun h => absurd h (by decide)
  | 37, _ => exact fun h => absurd h (by decide)
  | 38, _ => exact fun h => absurd h (by decide)
  | 39, _ => exact fun _ => mm_Mo_freeCount
  | y + 40, h => exact absurd h (by omega)
theorem so_mm_160 : ∀ x, x < 40 → (nm_mw[(x + 160)]?).map (·.2.1) = some 1 → Cond.instanceMethod (nm_mi (x + 160)).1 ∈ so_TB := by
  intro x hx
  match x, hx with
  | 0, _ => exact fun _ => mm_Mo_markUsed
  | 1, _ => exact fun _ => mm_Mo_writeRun
  | 2, _ => exact fun _ => mm_Mo_layEntry
  | 3, _ => exact fun _ => mm_Mo_clearFilter
  | 4, _ => exact fun _ => mm_Mo_mark3
  | 5, _ => exact fun h => absurd h (by decide)
  | 6, _ => exact fun h => absurd h (by decide)
  | 7, _ => exact fun _ => mm_Mo_writeHead
  | 8, _ => exact fun _ => mm_Mo_flushNow
  | 9, _ => exact fun _ => mm_Mo_flush
  | 10, _ => exact fun _ => mm_Mo_merge
  | 11, _ => exact fun _ => mm_Mo_mark
  | 12, _ => exact fun _ => mm_Mo_release
  | 13, _ => exact fun _ => mm_Mo_get
  | 14, _ => exact fun _ => mm_Mo_isView
  | 15, _ => exact fun _ => mm_Mo_runsOf
  | 16, _ => exact fun _ => mm_Mo_runOf
  | 17, _ => exact fun _ => mm_Mo_bars
  | 18, _ => exact fun _ => mm_Mo_state
  | 19, _ => exact fun _ => mm_Mo_range
  | 20, _ => exact fun _ => mm_Mo_at
  | 21, _ => exact fun _ => mm_Mo_run
  | 22, _ => exact fun _ => mm_Mo_hidden
  | 23, _ => exact fun _ => mm_Mo_octet
  | 24, _ => exact fun _ => mm_Mo_isOctet
  | 25, _ => exact fun _ => mm_Mo_poke
  | 26, _ => exact fun _ => mm_Mo_badAt
  | 27, _ => exact fun _ => mm_Mo_cut
  | 28, _ => exact fun _ => mm_Mo_down
  | 29, _ => exact fun _ => mm_Mo_open
  | 30, _ => exact fun _ => mm_Mo_generationOf
  | 31, _ => exact fun _ => mm_Mo_two
  | 32, _ => exact fun _ => mm_Mo_areRuns
  | 33, _ => exact fun _ => mm_Mo_isLaid
  | 34, _ => exact fun _ => mm_Mo_behindValue
  | 35, _ => exact fun _ => mm_Mo_told
  | 36, _ => exact fun h => absurd h (by decide)
  | 37, _ => exact fun h => absurd h (by decide)
  | 38, _ => exact fun h => absurd h (by decide)
  | 39, _ => exact fun h => absurd h (by decide)
  | y + 40, h => exact absurd h (by omega)
theorem so_mm_200 : ∀ x, x < 14 → (nm_mw[(x + 200)]?).map (·.2.1) = some 1 → Cond.instanceMethod (nm_mi (x + 200)).1 ∈ so_TB := by
  intro x hx
  match x, hx with
  | 0, _ => exact fun h => absurd h (by decide)
  | 1, _ => exact fun h => absurd h (by decide)
  | 2, _ => exact fun h => absurd h (by decide)
  | 3, _ => exact fun h => absurd h (by decide)
  | 4, _ => exact fun h => absurd h (by decide)
  | 5, _ => exact fun h => absurd h (by decide)
  | 6, _ => exact fun h => absurd h (by decide)
  | 7, _ => exact fun h => absurd h (by decide)
  | 8, _ => exact fun h => absurd h (by decide)
  | 9, _ => exact fun h => absurd h (by decide)
  | 10, _ => exact fun h => absurd h (by decide)
  | 11, _ => exact fun h => absurd h (by decide)
  | 12, _ => exact fun h => absurd h (by decide)
  | 13, _ => exact fun h => absurd h (by decide)
  | y + 14, h => exact absurd h (by omega)
theorem so_mm {x : Nat} (hx : x < 214) : (nm_mw[x]?).map (·.2.1) = some 1 → Cond.instanceMethod (nm_mi x).1 ∈ so_TB := by
  by_cases h0 : x < 40
  · have := so_mm_0 (x - 0) (by omega)
    rwa [show x - 0 + 0 = x by omega] at this
  by_cases h40 : x < 80
  · have := so_mm_40 (x - 40) (by omega)
    rwa [show x - 40 + 40 = x by omega] at this
  by_cases h80 : x < 120
  · have := so_mm_80 (x - 80) (by omega)
    rwa [show x - 80 + 80 = x by omega] at this
  by_cases h120 : x < 160
  · have := so_mm_120 (x - 120) (by omega)
    rwa [show x - 120 + 120 = x by omega] at this
  by_cases h160 : x < 200
  · have := so_mm_160 (x - 160) (by omega)
    rwa [show x - 160 + 160 = x by omega] at this
  have := so_mm_200 (x - 200) (by omega)
  rwa [show x - 200 + 200 = x by omega] at this
theorem so_ml_0 : ∀ x, x < 40 → (nm_mw[(x + 0)]?).map (·.2.1) = some 1 → (nm_mi (x + 0)).1.name ≠ "<init>" → Cond.selects (nm_mi (x + 0)).1.cls (nm_mi (x + 0)).1 (nm_mi (x + 0)).1 ∈ so_TB := by
  intro x hx
  match x, hx with
  | 0, _ => exact fun _ h => absurd rfl h
  | 1, _ => exact fun _ h => absurd rfl h
  | 2, _ => exact fun _ h => absurd rfl h
  | 3, _ => exact fun _ h => absurd rfl h
  | 4, _ => exact fun _ h => absurd rfl h
  | 5, _ => exact fun _ h => absurd rfl h
  | 6, _ => exact fun _ h => absurd rfl h
  | 7, _ => exact fun _ h => absurd rfl h
  | 8, _ => exact fun _ h => absurd rfl h
  | 9, _ => exact fun _ h => absurd rfl h
  | 10, _ => exact fun _ h => absurd rfl h
  | 11, _ => exact fun _ h => absurd rfl h
  | 12, _ => exact fun _ _ => ml_SR_fillHead
  | 13, _ => exact fun _ _ => ml_Sheet_clear
  | 14, _ => exact fun _ _ => ml_Sheet_two
  | 15, _ => exact fun _ _ => ml_Sheet_one
  | 16, _ => exact fun _ _ => ml_Sheet_seal
  | 17, _ => exact fun h _ => absurd h (by decide)
  | 18, _ => exact fun _ _ => ml_Pages_lay
  | 19, _ => exact fun _ _ => ml_Pages_has
  | 20, _ => exact fun _ _ => ml_Pages_checkSum
  | 21, _ => exact fun _ _ => ml_SR_state
  | 22, _ => exact fun _ _ => ml_SR_badAt
  | 23, _ => exact fun _ _ => ml_Pages_isRight
  | 24, _ => exact fun _ _ => ml_SR_leastWrong
  | 25, _ => exact fun _ _ => ml_Space_after
  | 26, _ => exact fun _ _ => ml_Space_has
  | 27, _ => exact fun _ _ => ml_SR_down
  | 28, _ => exact fun _ _ => ml_SR_goDown
  | 29, _ => exact fun _ _ => ml_RunList_forget
  | 30, _ => exact fun _ _ => ml_Space_clear
  | 31, _ => exact fun h _ => absurd h (by decide)
  | 32, _ => exact fun _ _ => ml_SR_put
  | 33, _ => exact fun _ _ => ml_SR_enterOne
  | 34, _ => exact fun _ _ => ml_SR_requireUp
  | 35, _ => exact fun _ _ => ml_Table_hasPlaceFor
  | 36, _ => exact fun _ _ => ml_Table_placeOf
  | 37, _ => exact fun _ _ => ml_Table_holds
  | 38, _ => exact fun _ _ => ml_Table_enter
  | 39, _ => exact fun _ _ => ml_Fate_begin
  | y + 40, h => exact absurd h (by omega)
theorem so_ml_40 : ∀ x, x < 40 → (nm_mw[(x + 40)]?).map (·.2.1) = some 1 → (nm_mi (x + 40)).1.name ≠ "<init>" → Cond.selects (nm_mi (x + 40)).1.cls (nm_mi (x + 40)).1 (nm_mi (x + 40)).1 ∈ so_TB := by
  intro x hx
  match x, hx with
  | 0, _ => exact fun _ _ => ml_Fate_layUpon
  | 1, _ => exact fun _ _ => ml_Table_shiftFrom
  | 2, _ => exact fun _ _ => ml_SR_remove
  | 3, _ => exact fun _ _ => ml_SR_fold
  | 4, _ => exact fun _ _ => ml_SR_many
  | 5, _ => exact fun h _ => absurd h (by decide)
  | 6, _ => exact fun _ _ => ml_RunList_countUpTo
  | 7, _ => exact fun _ _ => ml_SR_mergeRuns
  | 8, _ => exact fun _ _ => ml_SR_readRuns
  | 9, _ => exact fun _ _ => ml_Pages_readsRight
  | 10, _ => exact fun _ _ => ml_SR_blendRuns
  | 11, _ => exact fun _ _ => ml_Blend_begin
  | 12, _ => exact fun _ _ => ml_Blend_addRun
  | 13, _ => exact fun _ _ => ml_RunStream_start
  | 14, _ => exact fun _ _ => ml_Space_beginsAbove
  | 15, _ => exact fun _ _ => ml_RunStream_step
  | 16, _ => exact fun _ _ => ml_Pages_peek
  | 17, _ => exact fun _ _ => ml_RunStream_readKey
  | 18, _ => exact fun _ _ => ml_RunStream_nextOctet
  | 19, _ => exact fun _ _ => ml_RunStream_readValue
  | 20, _ => exact fun _ _ => ml_Blend_addInput
  | 21, _ => exact fun h _ => absurd h (by decide)
  | 22, _ => exact fun _ _ => ml_SR_countPages
  | 23, _ => exact fun _ _ => ml_Blend_advance
  | 24, _ => exact fun _ _ => ml_Blend_findLeast
  | 25, _ => exact fun _ _ => ml_TableStream_step
  | 26, _ => exact fun _ _ => ml_Sheet_fits
  | 27, _ => exact fun _ _ => ml_Sheet_shared
  | 28, _ => exact fun h _ => absurd h (by decide)
  | 29, _ => exact fun h _ => absurd h (by decide)
  | 30, _ => exact fun _ _ => ml_Sheet_beginPage
  | 31, _ => exact fun _ _ => ml_Sheet_append
  | 32, _ => exact fun _ _ => ml_Sheet_appendValue
  | 33, _ => exact fun _ _ => ml_SR_writeMerged
  | 34, _ => exact fun _ _ => ml_SR_writeRun
  | 35, _ => exact fun _ _ => ml_Space_leastFree
  | 36, _ => exact fun _ _ => ml_SR_writePage
  | 37, _ => exact fun _ _ => ml_Sheet_finishPage
  | 38, _ => exact fun _ _ => ml_Space_claim
  | 39, _ => exact fun _ _ => ml_Pages_store
  | y + 40, h => exact absurd h (by omega)
theorem so_ml_80 : ∀ x, x < 40 → (nm_mw[(x + 80)]?).map (·.2.1) = some 1 → (nm_mi (x + 80)).1.name ≠ "<init>" → Cond.selects (nm_mi (x + 80)).1.cls (nm_mi (x + 80)).1 (nm_mi (x + 80)).1 ∈ so_TB := by
  intro x hx
  match x, hx with
  | 0, _ => exact fun _ _ => ml_Run_note
  | 1, _ => exact fun _ _ => ml_Run_hashOf
  | 2, _ => exact fun _ _ => ml_Run_setBit
  | 3, _ => exact fun _ _ => ml_SR_letGo
  | 4, _ => exact fun _ _ => ml_Space_giveBack
  | 5, _ => exact fun _ _ => ml_RunList_dropFirst
  | 6, _ => exact fun _ _ => ml_RunList_putFirst
  | 7, _ => exact fun _ _ => ml_SR_writeHead
  | 8, _ => exact fun _ _ => ml_SR_flushTable
  | 9, _ => exact fun _ _ => ml_SR_blendTable
  | 10, _ => exact fun _ _ => ml_Blend_addTable
  | 11, _ => exact fun _ _ => ml_TableStream_start
  | 12, _ => exact fun _ _ => ml_SR_flush
  | 13, _ => exact fun _ _ => ml_SR_merge
  | 14, _ => exact fun _ _ => ml_SR_mark
  | 15, _ => exact fun _ _ => ml_SR_leastFreeMark
  | 16, _ => exact fun _ _ => ml_RunList_keep
  | 17, _ => exact fun _ _ => ml_RunList_putLast
  | 18, _ => exact fun _ _ => ml_SR_release
  | 19, _ => exact fun _ _ => ml_SR_runsOfMark
  | 20, _ => exact fun _ _ => ml_SR_get
  | 21, _ => exact fun _ _ => ml_SR_runsOf
  | 22, _ => exact fun _ _ => ml_Table_lookUp
  | 23, _ => exact fun _ _ => ml_SR_lookThrough
  | 24, _ => exact fun _ _ => ml_Fate_wantsOlder
  | 25, _ => exact fun _ _ => ml_Run_spans
  | 26, _ => exact fun _ _ => ml_Run_bars
  | 27, _ => exact fun _ _ => ml_Run_hasBit
  | 28, _ => exact fun _ _ => ml_RunStream_startPage
  | 29, _ => exact fun _ _ => ml_SR_findInPage
  | 30, _ => exact fun _ _ => ml_SR_range
  | 31, _ => exact fun _ _ => ml_SR_gatherAnswers
  | 32, _ => exact fun _ _ => ml_SR_noteAnswer
  | 33, _ => exact fun _ _ => ml_SR_at
  | 34, _ => exact fun _ _ => ml_SR_run
  | 35, _ => exact fun _ _ => ml_SR_hidden
  | 36, _ => exact fun _ _ => ml_SR_octet
  | 37, _ => exact fun _ _ => ml_SR_requireOctet
  | 38, _ => exact fun _ _ => ml_SR_poke
  | 39, _ => exact fun _ _ => ml_Pages_turn
  | y + 40, h => exact absurd h (by omega)
theorem so_ml_120 : ∀ x, x < 40 → (nm_mw[(x + 120)]?).map (·.2.1) = some 1 → (nm_mi (x + 120)).1.name ≠ "<init>" → Cond.selects (nm_mi (x + 120)).1.cls (nm_mi (x + 120)).1 (nm_mi (x + 120)).1 ∈ so_TB := by
  intro x hx
  match x, hx with
  | 0, _ => exact fun _ _ => ml_SR_cut
  | 1, _ => exact fun _ _ => ml_SR_open
  | 2, _ => exact fun _ _ => ml_SR_newestHead
  | 3, _ => exact fun _ _ => ml_SR_headIsRight
  | 4, _ => exact fun _ _ => ml_Pages_four
  | 5, _ => exact fun _ _ => ml_Pages_two
  | 6, _ => exact fun _ _ => ml_SR_openRun
  | 7, _ => exact fun _ _ => ml_SR_openPage
  | 8, _ => exact fun _ _ => ml_Pages_bodyIs
  | 9, _ => exact fun _ _ => ml_SR_told
  | 10, _ => exact fun _ _ => ml_SR_countMarks
  | 11, _ => exact fun _ h => absurd rfl h
  | 12, _ => exact fun _ _ => ml_Mo_layHead
  | 13, _ => exact fun _ _ => ml_Mo_clearDraft
  | 14, _ => exact fun _ _ => ml_Mo_put2
  | 15, _ => exact fun _ _ => ml_Mo_write
  | 16, _ => exact fun _ _ => ml_Mo_sumOf
  | 17, _ => exact fun _ _ => ml_Mo_goDown
  | 18, _ => exact fun _ _ => ml_Mo_thrown
  | 19, _ => exact fun _ _ => ml_Mo_put
  | 20, _ => exact fun _ _ => ml_Mo_enter
  | 21, _ => exact fun _ _ => ml_Mo_hasPlace
  | 22, _ => exact fun _ _ => ml_Mo_placeOf
  | 23, _ => exact fun _ _ => ml_Mo_come
  | 24, _ => exact fun _ _ => ml_Mo_remove
  | 25, _ => exact fun _ _ => ml_Mo_fold
  | 26, _ => exact fun _ _ => ml_Mo_many
  | 27, _ => exact fun _ _ => ml_Mo_atLevelNought
  | 28, _ => exact fun _ _ => ml_Mo_mergeNow
  | 29, _ => exact fun _ _ => ml_Mo_below
  | 30, _ => exact fun _ _ => ml_Mo_isRight
  | 31, _ => exact fun _ _ => ml_Mo_see
  | 32, _ => exact fun _ _ => ml_Mo_copy
  | 33, _ => exact fun _ _ => ml_Mo_ripe
  | 34, _ => exact fun _ _ => ml_Mo_pagesFor
  | 35, _ => exact fun _ _ => ml_Mo_sizeOf
  | 36, _ => exact fun h _ => absurd h (by decide)
  | 37, _ => exact fun h _ => absurd h (by decide)
  | 38, _ => exact fun h _ => absurd h (by decide)
  | 39, _ => exact fun _ _ => ml_Mo_freeCount
  | y + 40, h => exact absurd h (by omega)
theorem so_ml_160 : ∀ x, x < 40 → (nm_mw[(x + 160)]?).map (·.2.1) = some 1 → (nm_mi (x + 160)).1.name ≠ "<init>" → Cond.selects (nm_mi (x + 160)).1.cls (nm_mi (x + 160)).1 (nm_mi (x + 160)).1 ∈ so_TB := by
  intro x hx
  match x, hx with
  | 0, _ => exact fun _ _ => ml_Mo_markUsed
  | 1, _ => exact fun _ _ => ml_Mo_writeRun
  | 2, _ => exact fun _ _ => ml_Mo_layEntry
  | 3, _ => exact fun _ _ => ml_Mo_clearFilter
  | 4, _ => exact fun _ _ => ml_Mo_mark3
  | 5, _ => exact fun h _ => absurd h (by decide)
  | 6, _ => exact fun h _ => absurd h (by decide)
  | 7, _ => exact fun _ _ => ml_Mo_writeHead
  | 8, _ => exact fun _ _ => ml_Mo_flushNow
  | 9, _ => exact fun _ _ => ml_Mo_flush
  | 10, _ => exact fun _ _ => ml_Mo_merge
  | 11, _ => exact fun _ _ => ml_Mo_mark
  | 12, _ => exact fun _ _ => ml_Mo_release
  | 13, _ => exact fun _ _ => ml_Mo_get
  | 14, _ => exact fun _ _ => ml_Mo_isView
  | 15, _ => exact fun _ _ => ml_Mo_runsOf
  | 16, _ => exact fun _ _ => ml_Mo_runOf
  | 17, _ => exact fun _ _ => ml_Mo_bars
  | 18, _ => exact fun _ _ => ml_Mo_state
  | 19, _ => exact fun _ _ => ml_Mo_range
  | 20, _ => exact fun _ _ => ml_Mo_at
  | 21, _ => exact fun _ _ => ml_Mo_run
  | 22, _ => exact fun _ _ => ml_Mo_hidden
  | 23, _ => exact fun _ _ => ml_Mo_octet
  | 24, _ => exact fun _ _ => ml_Mo_isOctet
  | 25, _ => exact fun _ _ => ml_Mo_poke
  | 26, _ => exact fun _ _ => ml_Mo_badAt
  | 27, _ => exact fun _ _ => ml_Mo_cut
  | 28, _ => exact fun _ _ => ml_Mo_down
  | 29, _ => exact fun _ _ => ml_Mo_open
  | 30, _ => exact fun _ _ => ml_Mo_generationOf
  | 31, _ => exact fun _ _ => ml_Mo_two
  | 32, _ => exact fun _ _ => ml_Mo_areRuns
  | 33, _ => exact fun _ _ => ml_Mo_isLaid
  | 34, _ => exact fun _ _ => ml_Mo_behindValue
  | 35, _ => exact fun _ _ => ml_Mo_told
  | 36, _ => exact fun h _ => absurd h (by decide)
  | 37, _ => exact fun h _ => absurd h (by decide)
  | 38, _ => exact fun h _ => absurd h (by decide)
  | 39, _ => exact fun h _ => absurd h (by decide)
  | y + 40, h => exact absurd h (by omega)
theorem so_ml_200 : ∀ x, x < 14 → (nm_mw[(x + 200)]?).map (·.2.1) = some 1 → (nm_mi (x + 200)).1.name ≠ "<init>" → Cond.selects (nm_mi (x + 200)).1.cls (nm_mi (x + 200)).1 (nm_mi (x + 200)).1 ∈ so_TB := by
  intro x hx
  match x, hx with
  | 0, _ => exact fun h _ => absurd h (by decide)
  | 1, _ => exact fun h _ => absurd h (by decide)
  | 2, _ => exact fun h _ => absurd h (by decide)
  | 3, _ => exact fun h _ => absurd h (by decide)
  | 4, _ => exact fun h _ => absurd h (by decide)
  | 5, _ => exact fun h _ => absurd h (by decide)
  | 6, _ => exact fun h _ => absurd h (by decide)
  | 7, _ => exact fun h _ => absurd h (by decide)
  | 8, _ => exact fun h _ => absurd h (by decide)
  | 9, _ => exact fun h _ => absurd h (by decide)
  | 10, _ => exact fun h _ => absurd h (by decide)
  | 11, _ => exact fun h _ => absurd h (by decide)
  | 12, _ => exact fun h _ => absurd h (by decide)
  | 13, _ => exact fun h _ => absurd h (by decide)
  | y + 14, h => exact absurd h (by omega)
theorem so_ml {x : Nat} (hx : x < 214) : (nm_mw[x]?).map (·.2.1) = some 1 → (nm_mi x).1.name ≠ "<init>" → Cond.selects (nm_mi x).1.cls (nm_mi x).1 (nm_mi x).1 ∈ so_TB := by
  by_cases h0 : x < 40
  · have := so_ml_0 (x - 0) (by omega)
    rwa [show x - 0 + 0 = x by omega] at this
  by_cases h40 : x < 80
  · have := so_ml_40 (x - 40) (by omega)
    rwa [show x - 40 + 40 = x by omega] at this
  by_cases h80 : x < 120
  · have := so_ml_80 (x - 80) (by omega)
    rwa [show x - 80 + 80 = x by omega] at this
  by_cases h120 : x < 160
  · have := so_ml_120 (x - 120) (by omega)
    rwa [show x - 120 + 120 = x by omega] at this
  by_cases h160 : x < 200
  · have := so_ml_160 (x - 160) (by omega)
    rwa [show x - 160 + 160 = x by omega] at this
  have := so_ml_200 (x - 200) (by omega)
  rwa [show x - 200 + 200 = x by omega] at this
theorem so_my {x : Nat} (hx : x < 214) : so_ow (nm_mi x) = (nm_mi x).1.cls ∧ plainName (nm_mi x).1.cls = true ∧ ((nm_mi x).1.cls ≠ "java/lang/invoke/MethodHandle" ∧ (nm_mi x).1.cls ≠ "java/lang/invoke/VarHandle") := by
  have h : ((List.range 214).all fun x => decide (so_ow (nm_mi x) = (nm_mi x).1.cls) && plainName (nm_mi x).1.cls && decide ((nm_mi x).1.cls ≠ "java/lang/invoke/MethodHandle" ∧ (nm_mi x).1.cls ≠ "java/lang/invoke/VarHandle")) = true := by decide +kernel
  have h1 := List.all_eq_true.mp h x (List.mem_range.mpr hx)
  simp only [Bool.and_eq_true, decide_eq_true_eq] at h1
  exact ⟨h1.1.1, h1.1.2, h1.2⟩
theorem so_mk_0 : ∀ x, x < 40 → so_ckm (x + 0) = true := by
  intro x hx
  match x, hx with
  | 0, _ => exact ck_SR_init
  | 1, _ => exact ck_Table_init
  | 2, _ => exact ck_Fate_init
  | 3, _ => exact ck_RunList_init
  | 4, _ => exact ck_Run_init
  | 5, _ => exact ck_Sheet_init
  | 6, _ => exact ck_Pages_init
  | 7, _ => exact ck_Space_init
  | 8, _ => exact ck_Blend_init
  | 9, _ => exact ck_TableStream_init
  | 10, _ => exact ck_Stream_init
  | 11, _ => exact ck_RunStream_init
  | 12, _ => exact ck_SR_fillHead
  | 13, _ => exact ck_Sheet_clear
  | 14, _ => exact ck_Sheet_two
  | 15, _ => exact ck_Sheet_one
  | 16, _ => exact ck_Sheet_seal
  | 17, _ => exact ck_Sheet_sumOf
  | 18, _ => exact ck_Pages_lay
  | 19, _ => exact ck_Pages_has
  | 20, _ => exact ck_Pages_checkSum
  | 21, _ => exact ck_SR_state
  | 22, _ => exact ck_SR_badAt
  | 23, _ => exact ck_Pages_isRight
  | 24, _ => exact ck_SR_leastWrong
  | 25, _ => exact ck_Space_after
  | 26, _ => exact ck_Space_has
  | 27, _ => exact ck_SR_down
  | 28, _ => exact ck_SR_goDown
  | 29, _ => exact ck_RunList_forget
  | 30, _ => exact ck_Space_clear
  | 31, _ => exact ck_La_cell
  | 32, _ => exact ck_SR_put
  | 33, _ => exact ck_SR_enterOne
  | 34, _ => exact ck_SR_requireUp
  | 35, _ => exact ck_Table_hasPlaceFor
  | 36, _ => exact ck_Table_placeOf
  | 37, _ => exact ck_Table_holds
  | 38, _ => exact ck_Table_enter
  | 39, _ => exact ck_Fate_begin
  | y + 40, h => exact absurd h (by omega)
theorem so_mk_40 : ∀ x, x < 40 → so_ckm (x + 40) = true := by
  intro x hx
  match x, hx with
  | 0, _ => exact ck_Fate_layUpon
  | 1, _ => exact ck_Table_shiftFrom
  | 2, _ => exact ck_SR_remove
  | 3, _ => exact ck_SR_fold
  | 4, _ => exact ck_SR_many
  | 5, _ => exact ck_SR_isKind
  | 6, _ => exact ck_RunList_countUpTo
  | 7, _ => exact ck_SR_mergeRuns
  | 8, _ => exact ck_SR_readRuns
  | 9, _ => exact ck_Pages_readsRight
  | 10, _ => exact ck_SR_blendRuns
  | 11, _ => exact ck_Blend_begin
  | 12, _ => exact ck_Blend_addRun
  | 13, _ => exact ck_RunStream_start
  | 14, _ => exact ck_Space_beginsAbove
  | 15, _ => exact ck_RunStream_step
  | 16, _ => exact ck_Pages_peek
  | 17, _ => exact ck_RunStream_readKey
  | 18, _ => exact ck_RunStream_nextOctet
  | 19, _ => exact ck_RunStream_readValue
  | 20, _ => exact ck_Blend_addInput
  | 21, _ => exact ck_SR_mostPages
  | 22, _ => exact ck_SR_countPages
  | 23, _ => exact ck_Blend_advance
  | 24, _ => exact ck_Blend_findLeast
  | 25, _ => exact ck_TableStream_step
  | 26, _ => exact ck_Sheet_fits
  | 27, _ => exact ck_Sheet_shared
  | 28, _ => exact ck_Sheet_folded
  | 29, _ => exact ck_Sheet_sizeOf
  | 30, _ => exact ck_Sheet_beginPage
  | 31, _ => exact ck_Sheet_append
  | 32, _ => exact ck_Sheet_appendValue
  | 33, _ => exact ck_SR_writeMerged
  | 34, _ => exact ck_SR_writeRun
  | 35, _ => exact ck_Space_leastFree
  | 36, _ => exact ck_SR_writePage
  | 37, _ => exact ck_Sheet_finishPage
  | 38, _ => exact ck_Space_claim
  | 39, _ => exact ck_Pages_store
  | y + 40, h => exact absurd h (by omega)
theorem so_mk_80 : ∀ x, x < 40 → so_ckm (x + 80) = true := by
  intro x hx
  match x, hx with
  | 0, _ => exact ck_Run_note
  | 1, _ => exact ck_Run_hashOf
  | 2, _ => exact ck_Run_setBit
  | 3, _ => exact ck_SR_letGo
  | 4, _ => exact ck_Space_giveBack
  | 5, _ => exact ck_RunList_dropFirst
  | 6, _ => exact ck_RunList_putFirst
  | 7, _ => exact ck_SR_writeHead
  | 8, _ => exact ck_SR_flushTable
  | 9, _ => exact ck_SR_blendTable
  | 10, _ => exact ck_Blend_addTable
  | 11, _ => exact ck_TableStream_start
  | 12, _ => exact ck_SR_flush
  | 13, _ => exact ck_SR_merge
  | 14, _ => exact ck_SR_mark
  | 15, _ => exact ck_SR_leastFreeMark
  | 16, _ => exact ck_RunList_keep
  | 17, _ => exact ck_RunList_putLast
  | 18, _ => exact ck_SR_release
  | 19, _ => exact ck_SR_runsOfMark
  | 20, _ => exact ck_SR_get
  | 21, _ => exact ck_SR_runsOf
  | 22, _ => exact ck_Table_lookUp
  | 23, _ => exact ck_SR_lookThrough
  | 24, _ => exact ck_Fate_wantsOlder
  | 25, _ => exact ck_Run_spans
  | 26, _ => exact ck_Run_bars
  | 27, _ => exact ck_Run_hasBit
  | 28, _ => exact ck_RunStream_startPage
  | 29, _ => exact ck_SR_findInPage
  | 30, _ => exact ck_SR_range
  | 31, _ => exact ck_SR_gatherAnswers
  | 32, _ => exact ck_SR_noteAnswer
  | 33, _ => exact ck_SR_at
  | 34, _ => exact ck_SR_run
  | 35, _ => exact ck_SR_hidden
  | 36, _ => exact ck_SR_octet
  | 37, _ => exact ck_SR_requireOctet
  | 38, _ => exact ck_SR_poke
  | 39, _ => exact ck_Pages_turn
  | y + 40, h => exact absurd h (by omega)
theorem so_mk_120 : ∀ x, x < 40 → so_ckm (x + 120) = true := by
  intro x hx
  match x, hx with
  | 0, _ => exact ck_SR_cut
  | 1, _ => exact ck_SR_open
  | 2, _ => exact ck_SR_newestHead
  | 3, _ => exact ck_SR_headIsRight
  | 4, _ => exact ck_Pages_four
  | 5, _ => exact ck_Pages_two
  | 6, _ => exact ck_SR_openRun
  | 7, _ => exact ck_SR_openPage
  | 8, _ => exact ck_Pages_bodyIs
  | 9, _ => exact ck_SR_told
  | 10, _ => exact ck_SR_countMarks
  | 11, _ => exact ck_Mo_init
  | 12, _ => exact ck_Mo_layHead
  | 13, _ => exact ck_Mo_clearDraft
  | 14, _ => exact ck_Mo_put2
  | 15, _ => exact ck_Mo_write
  | 16, _ => exact ck_Mo_sumOf
  | 17, _ => exact ck_Mo_goDown
  | 18, _ => exact ck_Mo_thrown
  | 19, _ => exact ck_Mo_put
  | 20, _ => exact ck_Mo_enter
  | 21, _ => exact ck_Mo_hasPlace
  | 22, _ => exact ck_Mo_placeOf
  | 23, _ => exact ck_Mo_come
  | 24, _ => exact ck_Mo_remove
  | 25, _ => exact ck_Mo_fold
  | 26, _ => exact ck_Mo_many
  | 27, _ => exact ck_Mo_atLevelNought
  | 28, _ => exact ck_Mo_mergeNow
  | 29, _ => exact ck_Mo_below
  | 30, _ => exact ck_Mo_isRight
  | 31, _ => exact ck_Mo_see
  | 32, _ => exact ck_Mo_copy
  | 33, _ => exact ck_Mo_ripe
  | 34, _ => exact ck_Mo_pagesFor
  | 35, _ => exact ck_Mo_sizeOf
  | 36, _ => exact ck_Mo_shared
  | 37, _ => exact ck_Mo_keyOctet
  | 38, _ => exact ck_Mo_vSize
  | 39, _ => exact ck_Mo_freeCount
  | y + 40, h => exact absurd h (by omega)
theorem so_mk_160 : ∀ x, x < 40 → so_ckm (x + 160) = true := by
  intro x hx
  match x, hx with
  | 0, _ => exact ck_Mo_markUsed
  | 1, _ => exact ck_Mo_writeRun
  | 2, _ => exact ck_Mo_layEntry
  | 3, _ => exact ck_Mo_clearFilter
  | 4, _ => exact ck_Mo_mark3
  | 5, _ => exact ck_Mo_hash
  | 6, _ => exact ck_Mo_bit
  | 7, _ => exact ck_Mo_writeHead
  | 8, _ => exact ck_Mo_flushNow
  | 9, _ => exact ck_Mo_flush
  | 10, _ => exact ck_Mo_merge
  | 11, _ => exact ck_Mo_mark
  | 12, _ => exact ck_Mo_release
  | 13, _ => exact ck_Mo_get
  | 14, _ => exact ck_Mo_isView
  | 15, _ => exact ck_Mo_runsOf
  | 16, _ => exact ck_Mo_runOf
  | 17, _ => exact ck_Mo_bars
  | 18, _ => exact ck_Mo_state
  | 19, _ => exact ck_Mo_range
  | 20, _ => exact ck_Mo_at
  | 21, _ => exact ck_Mo_run
  | 22, _ => exact ck_Mo_hidden
  | 23, _ => exact ck_Mo_octet
  | 24, _ => exact ck_Mo_isOctet
  | 25, _ => exact ck_Mo_poke
  | 26, _ => exact ck_Mo_badAt
  | 27, _ => exact ck_Mo_cut
  | 28, _ => exact ck_Mo_down
  | 29, _ => exact ck_Mo_open
  | 30, _ => exact ck_Mo_generationOf
  | 31, _ => exact ck_Mo_two
  | 32, _ => exact ck_Mo_areRuns
  | 33, _ => exact ck_Mo_isLaid
  | 34, _ => exact ck_Mo_behindValue
  | 35, _ => exact ck_Mo_told
  | 36, _ => exact ck_La_put
  | 37, _ => exact ck_La_remove
  | 38, _ => exact ck_La_fold
  | 39, _ => exact ck_La_many
  | y + 40, h => exact absurd h (by omega)
theorem so_mk_200 : ∀ x, x < 14 → so_ckm (x + 200) = true := by
  intro x hx
  match x, hx with
  | 0, _ => exact ck_La_flush
  | 1, _ => exact ck_La_merge
  | 2, _ => exact ck_La_mark
  | 3, _ => exact ck_La_release
  | 4, _ => exact ck_La_get
  | 5, _ => exact ck_La_range
  | 6, _ => exact ck_La_at
  | 7, _ => exact ck_La_run
  | 8, _ => exact ck_La_hidden
  | 9, _ => exact ck_La_octet
  | 10, _ => exact ck_La_poke
  | 11, _ => exact ck_La_cut
  | 12, _ => exact ck_La_open
  | 13, _ => exact ck_La_told
  | y + 14, h => exact absurd h (by omega)
theorem so_mk {x : Nat} (hx : x < 214) : so_ckm x = true := by
  by_cases h0 : x < 40
  · have := so_mk_0 (x - 0) (by omega)
    rwa [show x - 0 + 0 = x by omega] at this
  by_cases h40 : x < 80
  · have := so_mk_40 (x - 40) (by omega)
    rwa [show x - 40 + 40 = x by omega] at this
  by_cases h80 : x < 120
  · have := so_mk_80 (x - 80) (by omega)
    rwa [show x - 80 + 80 = x by omega] at this
  by_cases h120 : x < 160
  · have := so_mk_120 (x - 120) (by omega)
    rwa [show x - 120 + 120 = x by omega] at this
  by_cases h160 : x < 200
  · have := so_mk_160 (x - 160) (by omega)
    rwa [show x - 160 + 160 = x by omega] at this
  have := so_mk_200 (x - 200) (by omega)
  rwa [show x - 200 + 200 = x by omega] at this
