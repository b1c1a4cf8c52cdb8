/-! the links of the law's helpers -/
theorem cl_L_13 : Cond.classLink RL 13 "java/lang/IndexOutOfBoundsException" ∈ TW := tw_in (List.mem_of_getElem? (i := 377) (by decide +kernel)) (by decide +kernel)
theorem cl_L_15 : Cond.classLink RL 15 "java/lang/IllegalArgumentException" ∈ TW := tw_in (List.mem_of_getElem? (i := 378) (by decide +kernel)) (by decide +kernel)
theorem cl_L_17 : Cond.classLink RL 17 "java/lang/IllegalStateException" ∈ TW := tw_in (List.mem_of_getElem? (i := 379) (by decide +kernel)) (by decide +kernel)
theorem ca_13 : Cond.castable "java/lang/IndexOutOfBoundsException" "java/lang/IndexOutOfBoundsException" ∈ TW := at231 _ (by decide +kernel)
theorem ca_15 : Cond.castable "java/lang/IllegalArgumentException" "java/lang/IllegalArgumentException" ∈ TW := at238 _ (by decide +kernel)
theorem ca_17 : Cond.castable "java/lang/IllegalStateException" "java/lang/IllegalStateException" ∈ TW := at243 _ (by decide +kernel)
def I_L_store : MI := (yL_store, cL_store, 5, some .int, 9, 160)
def hh_L_store : List (Nat × Nat × Nat × Nat) := [(0, 10, 13, 13), (0, 10, 17, 15), (0, 10, 21, 17)]
theorem cw_L_store : Cond.codeWith yL_store cL_store 5 (some .int) hh_L_store ∈ TW := tw_in (List.mem_of_getElem? (i := 376) (by decide +kernel)) (by decide +kernel)
theorem ms_L_store : Cond.static yL_store ∈ TW := tw_in (List.mem_of_getElem? (i := 375) (by decide +kernel)) (by decide +kernel)
def I_L_write : MI := (yL_write, cL_write, 5, some .int, 9, 159)
def hh_L_write : List (Nat × Nat × Nat × Nat) := [(0, 10, 13, 13), (0, 10, 17, 15), (0, 10, 21, 17)]
theorem cw_L_write : Cond.codeWith yL_write cL_write 5 (some .int) hh_L_write ∈ TW := tw_in (List.mem_of_getElem? (i := 518) (by decide +kernel)) (by decide +kernel)
theorem ms_L_write : Cond.static yL_write ∈ TW := tw_in (List.mem_of_getElem? (i := 517) (by decide +kernel)) (by decide +kernel)
def I_L_read : MI := (yL_read, cL_read, 4, some .int, 9, 144)
def hh_L_read : List (Nat × Nat × Nat × Nat) := [(0, 9, 12, 13), (0, 9, 15, 17)]
theorem cw_L_read : Cond.codeWith yL_read cL_read 4 (some .int) hh_L_read ∈ TW := tw_in (List.mem_of_getElem? (i := 537) (by decide +kernel)) (by decide +kernel)
theorem ms_L_read : Cond.static yL_read ∈ TW := tw_in (List.mem_of_getElem? (i := 536) (by decide +kernel)) (by decide +kernel)
def I_L_remove : MI := (yL_remove, cL_remove, 4, some .int, 9, 159)
def hh_L_remove : List (Nat × Nat × Nat × Nat) := [(0, 9, 12, 13), (0, 9, 15, 17)]
theorem cw_L_remove : Cond.codeWith yL_remove cL_remove 4 (some .int) hh_L_remove ∈ TW := tw_in (List.mem_of_getElem? (i := 544) (by decide +kernel)) (by decide +kernel)
theorem ms_L_remove : Cond.static yL_remove ∈ TW := tw_in (List.mem_of_getElem? (i := 543) (by decide +kernel)) (by decide +kernel)
def I_L_lend : MI := (yL_lend, cL_lend, 5, some .int, 9, 161)
def hh_L_lend : List (Nat × Nat × Nat × Nat) := [(0, 10, 13, 13), (0, 10, 17, 15), (0, 10, 21, 17)]
theorem cw_L_lend : Cond.codeWith yL_lend cL_lend 5 (some .int) hh_L_lend ∈ TW := tw_in (List.mem_of_getElem? (i := 556) (by decide +kernel)) (by decide +kernel)
theorem ms_L_lend : Cond.static yL_lend ∈ TW := tw_in (List.mem_of_getElem? (i := 555) (by decide +kernel)) (by decide +kernel)
def I_L_recall : MI := (yL_recall, cL_recall, 5, some .int, 9, 159)
def hh_L_recall : List (Nat × Nat × Nat × Nat) := [(0, 10, 13, 13), (0, 10, 17, 15), (0, 10, 21, 17)]
theorem cw_L_recall : Cond.codeWith yL_recall cL_recall 5 (some .int) hh_L_recall ∈ TW := tw_in (List.mem_of_getElem? (i := 574) (by decide +kernel)) (by decide +kernel)
theorem ms_L_recall : Cond.static yL_recall ∈ TW := tw_in (List.mem_of_getElem? (i := 573) (by decide +kernel)) (by decide +kernel)
def I_L_disconnect : MI := (yL_disconnect, cL_disconnect, 4, some .int, 9, 157)
def hh_L_disconnect : List (Nat × Nat × Nat × Nat) := [(0, 9, 12, 13), (0, 9, 15, 17)]
theorem cw_L_disconnect : Cond.codeWith yL_disconnect cL_disconnect 4 (some .int) hh_L_disconnect ∈ TW := tw_in (List.mem_of_getElem? (i := 586) (by decide +kernel)) (by decide +kernel)
theorem ms_L_disconnect : Cond.static yL_disconnect ∈ TW := tw_in (List.mem_of_getElem? (i := 585) (by decide +kernel)) (by decide +kernel)
def I_L_reconnect : MI := (yL_reconnect, cL_reconnect, 4, some .int, 9, 158)
def hh_L_reconnect : List (Nat × Nat × Nat × Nat) := [(0, 9, 12, 13), (0, 9, 15, 17)]
theorem cw_L_reconnect : Cond.codeWith yL_reconnect cL_reconnect 4 (some .int) hh_L_reconnect ∈ TW := tw_in (List.mem_of_getElem? (i := 601) (by decide +kernel)) (by decide +kernel)
theorem ms_L_reconnect : Cond.static yL_reconnect ∈ TW := tw_in (List.mem_of_getElem? (i := 600) (by decide +kernel)) (by decide +kernel)
def I_L_crash : MI := (yL_crash, cL_crash, 4, some .int, 9, 158)
def hh_L_crash : List (Nat × Nat × Nat × Nat) := [(0, 9, 12, 13), (0, 9, 15, 17)]
theorem cw_L_crash : Cond.codeWith yL_crash cL_crash 4 (some .int) hh_L_crash ∈ TW := tw_in (List.mem_of_getElem? (i := 620) (by decide +kernel)) (by decide +kernel)
theorem ms_L_crash : Cond.static yL_crash ∈ TW := tw_in (List.mem_of_getElem? (i := 619) (by decide +kernel)) (by decide +kernel)
def I_L_pass : MI := (yL_pass, cL_pass, 4, some .int, 8, 161)
def hh_L_pass : List (Nat × Nat × Nat × Nat) := [(0, 9, 12, 15), (0, 9, 15, 17)]
theorem cw_L_pass : Cond.codeWith yL_pass cL_pass 4 (some .int) hh_L_pass ∈ TW := tw_in (List.mem_of_getElem? (i := 635) (by decide +kernel)) (by decide +kernel)
theorem ms_L_pass : Cond.static yL_pass ∈ TW := tw_in (List.mem_of_getElem? (i := 634) (by decide +kernel)) (by decide +kernel)
def I_L_setTransferTime : MI := (yL_setTransferTime, cL_setTransferTime, 4, some .int, 8, 126)
def hh_L_setTransferTime : List (Nat × Nat × Nat × Nat) := [(0, 9, 12, 15)]
theorem cw_L_setTransferTime : Cond.codeWith yL_setTransferTime cL_setTransferTime 4 (some .int) hh_L_setTransferTime ∈ TW := tw_in (List.mem_of_getElem? (i := 647) (by decide +kernel)) (by decide +kernel)
theorem ms_L_setTransferTime : Cond.static yL_setTransferTime ∈ TW := tw_in (List.mem_of_getElem? (i := 646) (by decide +kernel)) (by decide +kernel)
def I_L_appendText : MI := (yL_appendText, cL_appendText, 4, some .int, 8, 125)
def hh_L_appendText : List (Nat × Nat × Nat × Nat) := [(0, 9, 12, 15), (0, 9, 15, 17)]
theorem cw_L_appendText : Cond.codeWith yL_appendText cL_appendText 4 (some .int) hh_L_appendText ∈ TW := tw_in (List.mem_of_getElem? (i := 654) (by decide +kernel)) (by decide +kernel)
theorem ms_L_appendText : Cond.static yL_appendText ∈ TW := tw_in (List.mem_of_getElem? (i := 653) (by decide +kernel)) (by decide +kernel)
def I_L_runText : MI := (yL_runText, cL_runText, 3, some .int, 8, 185)
def hh_L_runText : List (Nat × Nat × Nat × Nat) := [(0, 8, 11, 17)]
theorem cw_L_runText : Cond.codeWith yL_runText cL_runText 3 (some .int) hh_L_runText ∈ TW := tw_in (List.mem_of_getElem? (i := 661) (by decide +kernel)) (by decide +kernel)
theorem ms_L_runText : Cond.static yL_runText ∈ TW := tw_in (List.mem_of_getElem? (i := 660) (by decide +kernel)) (by decide +kernel)
def I_L_undo : MI := (yL_undo, cL_undo, 3, some .int, 8, 122)
def hh_L_undo : List (Nat × Nat × Nat × Nat) := [(0, 8, 11, 17)]
theorem cw_L_undo : Cond.codeWith yL_undo cL_undo 3 (some .int) hh_L_undo ∈ TW := tw_in (List.mem_of_getElem? (i := 677) (by decide +kernel)) (by decide +kernel)
theorem ms_L_undo : Cond.static yL_undo ∈ TW := tw_in (List.mem_of_getElem? (i := 676) (by decide +kernel)) (by decide +kernel)
def I_L_save : MI := (yL_save, cL_save, 4, some .int, 8, 124)
def hh_L_save : List (Nat × Nat × Nat × Nat) := [(0, 9, 12, 13)]
theorem cw_L_save : Cond.codeWith yL_save cL_save 4 (some .int) hh_L_save ∈ TW := tw_in (List.mem_of_getElem? (i := 684) (by decide +kernel)) (by decide +kernel)
theorem ms_L_save : Cond.static yL_save ∈ TW := tw_in (List.mem_of_getElem? (i := 683) (by decide +kernel)) (by decide +kernel)
def I_L_restore : MI := (yL_restore, cL_restore, 4, some .int, 8, 124)
def hh_L_restore : List (Nat × Nat × Nat × Nat) := [(0, 9, 12, 13), (0, 9, 15, 17)]
theorem cw_L_restore : Cond.codeWith yL_restore cL_restore 4 (some .int) hh_L_restore ∈ TW := tw_in (List.mem_of_getElem? (i := 691) (by decide +kernel)) (by decide +kernel)
theorem ms_L_restore : Cond.static yL_restore ∈ TW := tw_in (List.mem_of_getElem? (i := 690) (by decide +kernel)) (by decide +kernel)
def I_L_status : MI := (yL_status, cL_status, 4, some .int, 9, 144)
def hh_L_status : List (Nat × Nat × Nat × Nat) := [(0, 9, 12, 13)]
theorem cw_L_status : Cond.codeWith yL_status cL_status 4 (some .int) hh_L_status ∈ TW := tw_in (List.mem_of_getElem? (i := 699) (by decide +kernel)) (by decide +kernel)
theorem ms_L_status : Cond.static yL_status ∈ TW := tw_in (List.mem_of_getElem? (i := 698) (by decide +kernel)) (by decide +kernel)
def I_L_copies : MI := (yL_copies, cL_copies, 4, some .int, 9, 144)
def hh_L_copies : List (Nat × Nat × Nat × Nat) := [(0, 9, 12, 13)]
theorem cw_L_copies : Cond.codeWith yL_copies cL_copies 4 (some .int) hh_L_copies ∈ TW := tw_in (List.mem_of_getElem? (i := 710) (by decide +kernel)) (by decide +kernel)
theorem ms_L_copies : Cond.static yL_copies ∈ TW := tw_in (List.mem_of_getElem? (i := 709) (by decide +kernel)) (by decide +kernel)
def I_L_countStatus : MI := (yL_countStatus, cL_countStatus, 4, some .int, 8, 125)
def hh_L_countStatus : List (Nat × Nat × Nat × Nat) := [(0, 9, 12, 15)]
theorem cw_L_countStatus : Cond.codeWith yL_countStatus cL_countStatus 4 (some .int) hh_L_countStatus ∈ TW := tw_in (List.mem_of_getElem? (i := 718) (by decide +kernel)) (by decide +kernel)
theorem ms_L_countStatus : Cond.static yL_countStatus ∈ TW := tw_in (List.mem_of_getElem? (i := 717) (by decide +kernel)) (by decide +kernel)
def I_L_mode : MI := (yL_mode, cL_mode, 4, some .int, 9, 144)
def hh_L_mode : List (Nat × Nat × Nat × Nat) := [(0, 9, 12, 13)]
theorem cw_L_mode : Cond.codeWith yL_mode cL_mode 4 (some .int) hh_L_mode ∈ TW := tw_in (List.mem_of_getElem? (i := 730) (by decide +kernel)) (by decide +kernel)
theorem ms_L_mode : Cond.static yL_mode ∈ TW := tw_in (List.mem_of_getElem? (i := 729) (by decide +kernel)) (by decide +kernel)
def I_L_isConnected : MI := (yL_isConnected, cL_isConnected, 4, some .int, 9, 144)
def hh_L_isConnected : List (Nat × Nat × Nat × Nat) := [(0, 16, 19, 13)]
theorem cw_L_isConnected : Cond.codeWith yL_isConnected cL_isConnected 4 (some .int) hh_L_isConnected ∈ TW := tw_in (List.mem_of_getElem? (i := 737) (by decide +kernel)) (by decide +kernel)
theorem ms_L_isConnected : Cond.static yL_isConnected ∈ TW := tw_in (List.mem_of_getElem? (i := 736) (by decide +kernel)) (by decide +kernel)
def I_L_usedRoom : MI := (yL_usedRoom, cL_usedRoom, 4, some .int, 9, 144)
def hh_L_usedRoom : List (Nat × Nat × Nat × Nat) := [(0, 9, 12, 13)]
theorem cw_L_usedRoom : Cond.codeWith yL_usedRoom cL_usedRoom 4 (some .int) hh_L_usedRoom ∈ TW := tw_in (List.mem_of_getElem? (i := 744) (by decide +kernel)) (by decide +kernel)
theorem ms_L_usedRoom : Cond.static yL_usedRoom ∈ TW := tw_in (List.mem_of_getElem? (i := 743) (by decide +kernel)) (by decide +kernel)
def I_L_freeRoom : MI := (yL_freeRoom, cL_freeRoom, 4, some .int, 9, 144)
def hh_L_freeRoom : List (Nat × Nat × Nat × Nat) := [(0, 9, 12, 13)]
theorem cw_L_freeRoom : Cond.codeWith yL_freeRoom cL_freeRoom 4 (some .int) hh_L_freeRoom ∈ TW := tw_in (List.mem_of_getElem? (i := 752) (by decide +kernel)) (by decide +kernel)
theorem ms_L_freeRoom : Cond.static yL_freeRoom ∈ TW := tw_in (List.mem_of_getElem? (i := 751) (by decide +kernel)) (by decide +kernel)
def I_L_deadlineIn : MI := (yL_deadlineIn, cL_deadlineIn, 4, some .int, 9, 144)
def hh_L_deadlineIn : List (Nat × Nat × Nat × Nat) := [(0, 9, 12, 13)]
theorem cw_L_deadlineIn : Cond.codeWith yL_deadlineIn cL_deadlineIn 4 (some .int) hh_L_deadlineIn ∈ TW := tw_in (List.mem_of_getElem? (i := 760) (by decide +kernel)) (by decide +kernel)
theorem ms_L_deadlineIn : Cond.static yL_deadlineIn ∈ TW := tw_in (List.mem_of_getElem? (i := 759) (by decide +kernel)) (by decide +kernel)
def I_L_replica : MI := (yL_replica, cL_replica, 5, some .int, 9, 145)
def hh_L_replica : List (Nat × Nat × Nat × Nat) := [(0, 10, 13, 13)]
theorem cw_L_replica : Cond.codeWith yL_replica cL_replica 5 (some .int) hh_L_replica ∈ TW := tw_in (List.mem_of_getElem? (i := 767) (by decide +kernel)) (by decide +kernel)
theorem ms_L_replica : Cond.static yL_replica ∈ TW := tw_in (List.mem_of_getElem? (i := 766) (by decide +kernel)) (by decide +kernel)
def I_L_transfer : MI := (yL_transfer, cL_transfer, 4, some .int, 8, 125)
def hh_L_transfer : List (Nat × Nat × Nat × Nat) := [(0, 9, 12, 15)]
theorem cw_L_transfer : Cond.codeWith yL_transfer cL_transfer 4 (some .int) hh_L_transfer ∈ TW := tw_in (List.mem_of_getElem? (i := 774) (by decide +kernel)) (by decide +kernel)
theorem ms_L_transfer : Cond.static yL_transfer ∈ TW := tw_in (List.mem_of_getElem? (i := 773) (by decide +kernel)) (by decide +kernel)
def I_L_lostWithout : MI := (yL_lostWithout, cL_lostWithout, 4, some .int, 8, 125)
def hh_L_lostWithout : List (Nat × Nat × Nat × Nat) := [(0, 9, 12, 15)]
theorem cw_L_lostWithout : Cond.codeWith yL_lostWithout cL_lostWithout 4 (some .int) hh_L_lostWithout ∈ TW := tw_in (List.mem_of_getElem? (i := 781) (by decide +kernel)) (by decide +kernel)
theorem ms_L_lostWithout : Cond.static yL_lostWithout ∈ TW := tw_in (List.mem_of_getElem? (i := 780) (by decide +kernel)) (by decide +kernel)
def I_L_lostIn : MI := (yL_lostIn, cL_lostIn, 4, some .int, 8, 161)
def hh_L_lostIn : List (Nat × Nat × Nat × Nat) := [(0, 9, 12, 15)]
theorem cw_L_lostIn : Cond.codeWith yL_lostIn cL_lostIn 4 (some .int) hh_L_lostIn ∈ TW := tw_in (List.mem_of_getElem? (i := 788) (by decide +kernel)) (by decide +kernel)
theorem ms_L_lostIn : Cond.static yL_lostIn ∈ TW := tw_in (List.mem_of_getElem? (i := 787) (by decide +kernel)) (by decide +kernel)
