section
-- ===== PART A: goes FIRST, ahead of the names: the tables' words, and 'selects' of the private methods out of them =====
/-- a private method of a class that the tables say can be made, by its rows of tables_1 -/
def lw_okq (q : MethodName × Nat) : Prop := (q.1.cls ≠ "java/lang/invoke/MethodHandle" ∧ q.1.cls ≠ "java/lang/invoke/VarHandle") ∧ Cond.instantiable q.1.cls q.2 ∈ tables_1 ∧ Cond.privateMethod q.1 ∈ tables_1 ∧ Cond.instanceMethod q.1 ∈ tables_1
theorem lw_p0 : lw_okq (⟨"SleepBorder$Border", "isSettled", "()Z"⟩, 15) := ⟨⟨by decide +kernel, by decide +kernel⟩, List.mem_of_getElem? (i := 21) (by decide +kernel), List.mem_of_getElem? (i := 165) (by decide +kernel), List.mem_of_getElem? (i := 166) (by decide +kernel)⟩
theorem lw_p1 : lw_okq (⟨"SleepBorder$Border", "advanceTransits", "()V"⟩, 15) := ⟨⟨by decide +kernel, by decide +kernel⟩, List.mem_of_getElem? (i := 21) (by decide +kernel), List.mem_of_getElem? (i := 173) (by decide +kernel), List.mem_of_getElem? (i := 174) (by decide +kernel)⟩
theorem lw_p2 : lw_okq (⟨"SleepBorder$Border", "shortenLullabies", "()V"⟩, 15) := ⟨⟨by decide +kernel, by decide +kernel⟩, List.mem_of_getElem? (i := 21) (by decide +kernel), List.mem_of_getElem? (i := 177) (by decide +kernel), List.mem_of_getElem? (i := 178) (by decide +kernel)⟩
theorem lw_p3 : lw_okq (⟨"SleepBorder$Border", "work", "(I)V"⟩, 15) := ⟨⟨by decide +kernel, by decide +kernel⟩, List.mem_of_getElem? (i := 21) (by decide +kernel), List.mem_of_getElem? (i := 181) (by decide +kernel), List.mem_of_getElem? (i := 182) (by decide +kernel)⟩
theorem lw_p4 : lw_okq (⟨"SleepBorder$Border", "searchOn", "(II)V"⟩, 15) := ⟨⟨by decide +kernel, by decide +kernel⟩, List.mem_of_getElem? (i := 21) (by decide +kernel), List.mem_of_getElem? (i := 189) (by decide +kernel), List.mem_of_getElem? (i := 190) (by decide +kernel)⟩
theorem lw_p5 : lw_okq (⟨"SleepBorder$Border", "beginSearch", "(II)V"⟩, 15) := ⟨⟨by decide +kernel, by decide +kernel⟩, List.mem_of_getElem? (i := 21) (by decide +kernel), List.mem_of_getElem? (i := 205) (by decide +kernel), List.mem_of_getElem? (i := 206) (by decide +kernel)⟩
theorem lw_p6 : lw_okq (⟨"java/lang/Throwable", "fillInStackTrace", "(I)Ljava/lang/Throwable;"⟩, 6) := ⟨⟨by decide +kernel, by decide +kernel⟩, List.mem_of_getElem? (i := 286) (by decide +kernel), List.mem_of_getElem? (i := 284) (by decide +kernel), List.mem_of_getElem? (i := 285) (by decide +kernel)⟩
theorem lw_p7 : lw_okq (⟨"SleepBorder", "mixTravellers", "(J)J"⟩, 2) := ⟨⟨by decide +kernel, by decide +kernel⟩, List.mem_of_getElem? (i := 13) (by decide +kernel), List.mem_of_getElem? (i := 317) (by decide +kernel), List.mem_of_getElem? (i := 318) (by decide +kernel)⟩
theorem lw_p8 : lw_okq (⟨"SleepBorder", "requireTraveller", "(I)V"⟩, 2) := ⟨⟨by decide +kernel, by decide +kernel⟩, List.mem_of_getElem? (i := 13) (by decide +kernel), List.mem_of_getElem? (i := 325) (by decide +kernel), List.mem_of_getElem? (i := 326) (by decide +kernel)⟩
theorem lw_p9 : lw_okq (⟨"SleepBorder", "foreseenSleep", "(I)I"⟩, 2) := ⟨⟨by decide +kernel, by decide +kernel⟩, List.mem_of_getElem? (i := 13) (by decide +kernel), List.mem_of_getElem? (i := 368) (by decide +kernel), List.mem_of_getElem? (i := 369) (by decide +kernel)⟩
theorem lw_p10 : lw_okq (⟨"SleepBorder", "mixGuards", "(J)J"⟩, 2) := ⟨⟨by decide +kernel, by decide +kernel⟩, List.mem_of_getElem? (i := 13) (by decide +kernel), List.mem_of_getElem? (i := 372) (by decide +kernel), List.mem_of_getElem? (i := 373) (by decide +kernel)⟩
theorem lw_p11 : lw_okq (⟨"SleepBorder", "requireGuard", "(I)V"⟩, 2) := ⟨⟨by decide +kernel, by decide +kernel⟩, List.mem_of_getElem? (i := 13) (by decide +kernel), List.mem_of_getElem? (i := 380) (by decide +kernel), List.mem_of_getElem? (i := 381) (by decide +kernel)⟩
theorem lw_p12 : lw_okq (⟨"SleepBorder", "requireWaiting", "(I)V"⟩, 2) := ⟨⟨by decide +kernel, by decide +kernel⟩, List.mem_of_getElem? (i := 13) (by decide +kernel), List.mem_of_getElem? (i := 446) (by decide +kernel), List.mem_of_getElem? (i := 447) (by decide +kernel)⟩
theorem lw_p13 : lw_okq (⟨"SleepBorderModel", "fail", "(I)I"⟩, 7) := ⟨⟨by decide +kernel, by decide +kernel⟩, List.mem_of_getElem? (i := 531) (by decide +kernel), List.mem_of_getElem? (i := 568) (by decide +kernel), List.mem_of_getElem? (i := 569) (by decide +kernel)⟩
theorem lw_p14 : lw_okq (⟨"SleepBorderModel", "hire", "()V"⟩, 7) := ⟨⟨by decide +kernel, by decide +kernel⟩, List.mem_of_getElem? (i := 531) (by decide +kernel), List.mem_of_getElem? (i := 572) (by decide +kernel), List.mem_of_getElem? (i := 573) (by decide +kernel)⟩
theorem lw_p15 : lw_okq (⟨"SleepBorderModel", "post", "(III)V"⟩, 7) := ⟨⟨by decide +kernel, by decide +kernel⟩, List.mem_of_getElem? (i := 531) (by decide +kernel), List.mem_of_getElem? (i := 576) (by decide +kernel), List.mem_of_getElem? (i := 577) (by decide +kernel)⟩
def lw_privs_1 : List (MethodName × Nat) := [(⟨"SleepBorder$Border", "isSettled", "()Z"⟩, 15), (⟨"SleepBorder$Border", "advanceTransits", "()V"⟩, 15), (⟨"SleepBorder$Border", "shortenLullabies", "()V"⟩, 15), (⟨"SleepBorder$Border", "work", "(I)V"⟩, 15), (⟨"SleepBorder$Border", "searchOn", "(II)V"⟩, 15), (⟨"SleepBorder$Border", "beginSearch", "(II)V"⟩, 15), (⟨"java/lang/Throwable", "fillInStackTrace", "(I)Ljava/lang/Throwable;"⟩, 6), (⟨"SleepBorder", "mixTravellers", "(J)J"⟩, 2), (⟨"SleepBorder", "requireTraveller", "(I)V"⟩, 2), (⟨"SleepBorder", "foreseenSleep", "(I)I"⟩, 2), (⟨"SleepBorder", "mixGuards", "(J)J"⟩, 2), (⟨"SleepBorder", "requireGuard", "(I)V"⟩, 2), (⟨"SleepBorder", "requireWaiting", "(I)V"⟩, 2), (⟨"SleepBorderModel", "fail", "(I)I"⟩, 7), (⟨"SleepBorderModel", "hire", "()V"⟩, 7), (⟨"SleepBorderModel", "post", "(III)V"⟩, 7)]
theorem lw_r1 : ∀ q ∈ lw_privs_1, lw_okq q := List.forall_mem_cons.mpr ⟨lw_p0, List.forall_mem_cons.mpr ⟨lw_p1, List.forall_mem_cons.mpr ⟨lw_p2, List.forall_mem_cons.mpr ⟨lw_p3, List.forall_mem_cons.mpr ⟨lw_p4, List.forall_mem_cons.mpr ⟨lw_p5, List.forall_mem_cons.mpr ⟨lw_p6, List.forall_mem_cons.mpr ⟨lw_p7, List.forall_mem_cons.mpr ⟨lw_p8, List.forall_mem_cons.mpr ⟨lw_p9, List.forall_mem_cons.mpr ⟨lw_p10, List.forall_mem_cons.mpr ⟨lw_p11, List.forall_mem_cons.mpr ⟨lw_p12, List.forall_mem_cons.mpr ⟨lw_p13, List.forall_mem_cons.mpr ⟨lw_p14, List.forall_mem_cons.mpr ⟨lw_p15, fun _ h => absurd h List.not_mem_nil⟩⟩⟩⟩⟩⟩⟩⟩⟩⟩⟩⟩⟩⟩⟩⟩
theorem lw_p16 : lw_okq (⟨"SleepBorderModel", "let", "(III)V"⟩, 7) := ⟨⟨by decide +kernel, by decide +kernel⟩, List.mem_of_getElem? (i := 531) (by decide +kernel), List.mem_of_getElem? (i := 587) (by decide +kernel), List.mem_of_getElem? (i := 588) (by decide +kernel)⟩
theorem lw_p17 : lw_okq (⟨"SleepBorderModel", "write", "(IIIII)I"⟩, 7) := ⟨⟨by decide +kernel, by decide +kernel⟩, List.mem_of_getElem? (i := 531) (by decide +kernel), List.mem_of_getElem? (i := 595) (by decide +kernel), List.mem_of_getElem? (i := 596) (by decide +kernel)⟩
theorem lw_p18 : lw_okq (⟨"SleepBorderModel", "isTraveller", "(I)Z"⟩, 7) := ⟨⟨by decide +kernel, by decide +kernel⟩, List.mem_of_getElem? (i := 531) (by decide +kernel), List.mem_of_getElem? (i := 599) (by decide +kernel), List.mem_of_getElem? (i := 600) (by decide +kernel)⟩
theorem lw_p19 : lw_okq (⟨"SleepBorderModel", "tr", "(II)I"⟩, 7) := ⟨⟨by decide +kernel, by decide +kernel⟩, List.mem_of_getElem? (i := 531) (by decide +kernel), List.mem_of_getElem? (i := 603) (by decide +kernel), List.mem_of_getElem? (i := 604) (by decide +kernel)⟩
theorem lw_p20 : lw_okq (⟨"SleepBorderModel", "isGuard", "(I)Z"⟩, 7) := ⟨⟨by decide +kernel, by decide +kernel⟩, List.mem_of_getElem? (i := 531) (by decide +kernel), List.mem_of_getElem? (i := 615) (by decide +kernel), List.mem_of_getElem? (i := 616) (by decide +kernel)⟩
theorem lw_p21 : lw_okq (⟨"SleepBorderModel", "gu", "(II)I"⟩, 7) := ⟨⟨by decide +kernel, by decide +kernel⟩, List.mem_of_getElem? (i := 531) (by decide +kernel), List.mem_of_getElem? (i := 619) (by decide +kernel), List.mem_of_getElem? (i := 620) (by decide +kernel)⟩
theorem lw_p22 : lw_okq (⟨"SleepBorderModel", "count", "(I)I"⟩, 7) := ⟨⟨by decide +kernel, by decide +kernel⟩, List.mem_of_getElem? (i := 531) (by decide +kernel), List.mem_of_getElem? (i := 627) (by decide +kernel), List.mem_of_getElem? (i := 628) (by decide +kernel)⟩
theorem lw_p23 : lw_okq (⟨"SleepBorderModel", "minutesOn", "(I)V"⟩, 7) := ⟨⟨by decide +kernel, by decide +kernel⟩, List.mem_of_getElem? (i := 531) (by decide +kernel), List.mem_of_getElem? (i := 631) (by decide +kernel), List.mem_of_getElem? (i := 632) (by decide +kernel)⟩
theorem lw_p24 : lw_okq (⟨"SleepBorderModel", "minuteOn", "()V"⟩, 7) := ⟨⟨by decide +kernel, by decide +kernel⟩, List.mem_of_getElem? (i := 531) (by decide +kernel), List.mem_of_getElem? (i := 635) (by decide +kernel), List.mem_of_getElem? (i := 636) (by decide +kernel)⟩
theorem lw_p25 : lw_okq (⟨"SleepBorderModel", "travel", "(I)V"⟩, 7) := ⟨⟨by decide +kernel, by decide +kernel⟩, List.mem_of_getElem? (i := 531) (by decide +kernel), List.mem_of_getElem? (i := 639) (by decide +kernel), List.mem_of_getElem? (i := 640) (by decide +kernel)⟩
theorem lw_p26 : lw_okq (⟨"SleepBorderModel", "listen", "(I)V"⟩, 7) := ⟨⟨by decide +kernel, by decide +kernel⟩, List.mem_of_getElem? (i := 531) (by decide +kernel), List.mem_of_getElem? (i := 643) (by decide +kernel), List.mem_of_getElem? (i := 644) (by decide +kernel)⟩
theorem lw_p27 : lw_okq (⟨"SleepBorderModel", "begin", "(I)V"⟩, 7) := ⟨⟨by decide +kernel, by decide +kernel⟩, List.mem_of_getElem? (i := 531) (by decide +kernel), List.mem_of_getElem? (i := 647) (by decide +kernel), List.mem_of_getElem? (i := 648) (by decide +kernel)⟩
theorem lw_p28 : lw_okq (⟨"SleepBorderModel", "first", "()I"⟩, 7) := ⟨⟨by decide +kernel, by decide +kernel⟩, List.mem_of_getElem? (i := 531) (by decide +kernel), List.mem_of_getElem? (i := 651) (by decide +kernel), List.mem_of_getElem? (i := 652) (by decide +kernel)⟩
theorem lw_p29 : lw_okq (⟨"SleepBorderModel", "takes", "(I)I"⟩, 7) := ⟨⟨by decide +kernel, by decide +kernel⟩, List.mem_of_getElem? (i := 531) (by decide +kernel), List.mem_of_getElem? (i := 656) (by decide +kernel), List.mem_of_getElem? (i := 657) (by decide +kernel)⟩
theorem lw_p30 : lw_okq (⟨"SleepBorderModel", "loud", "()I"⟩, 7) := ⟨⟨by decide +kernel, by decide +kernel⟩, List.mem_of_getElem? (i := 531) (by decide +kernel), List.mem_of_getElem? (i := 660) (by decide +kernel), List.mem_of_getElem? (i := 661) (by decide +kernel)⟩
theorem lw_p31 : lw_okq (⟨"SleepBorderModel", "searchOn", "(I)V"⟩, 7) := ⟨⟨by decide +kernel, by decide +kernel⟩, List.mem_of_getElem? (i := 531) (by decide +kernel), List.mem_of_getElem? (i := 664) (by decide +kernel), List.mem_of_getElem? (i := 665) (by decide +kernel)⟩
def lw_privs_2 : List (MethodName × Nat) := [(⟨"SleepBorderModel", "let", "(III)V"⟩, 7), (⟨"SleepBorderModel", "write", "(IIIII)I"⟩, 7), (⟨"SleepBorderModel", "isTraveller", "(I)Z"⟩, 7), (⟨"SleepBorderModel", "tr", "(II)I"⟩, 7), (⟨"SleepBorderModel", "isGuard", "(I)Z"⟩, 7), (⟨"SleepBorderModel", "gu", "(II)I"⟩, 7), (⟨"SleepBorderModel", "count", "(I)I"⟩, 7), (⟨"SleepBorderModel", "minutesOn", "(I)V"⟩, 7), (⟨"SleepBorderModel", "minuteOn", "()V"⟩, 7), (⟨"SleepBorderModel", "travel", "(I)V"⟩, 7), (⟨"SleepBorderModel", "listen", "(I)V"⟩, 7), (⟨"SleepBorderModel", "begin", "(I)V"⟩, 7), (⟨"SleepBorderModel", "first", "()I"⟩, 7), (⟨"SleepBorderModel", "takes", "(I)I"⟩, 7), (⟨"SleepBorderModel", "loud", "()I"⟩, 7), (⟨"SleepBorderModel", "searchOn", "(I)V"⟩, 7)]
theorem lw_r2 : ∀ q ∈ lw_privs_2, lw_okq q := List.forall_mem_cons.mpr ⟨lw_p16, List.forall_mem_cons.mpr ⟨lw_p17, List.forall_mem_cons.mpr ⟨lw_p18, List.forall_mem_cons.mpr ⟨lw_p19, List.forall_mem_cons.mpr ⟨lw_p20, List.forall_mem_cons.mpr ⟨lw_p21, List.forall_mem_cons.mpr ⟨lw_p22, List.forall_mem_cons.mpr ⟨lw_p23, List.forall_mem_cons.mpr ⟨lw_p24, List.forall_mem_cons.mpr ⟨lw_p25, List.forall_mem_cons.mpr ⟨lw_p26, List.forall_mem_cons.mpr ⟨lw_p27, List.forall_mem_cons.mpr ⟨lw_p28, List.forall_mem_cons.mpr ⟨lw_p29, List.forall_mem_cons.mpr ⟨lw_p30, List.forall_mem_cons.mpr ⟨lw_p31, fun _ h => absurd h List.not_mem_nil⟩⟩⟩⟩⟩⟩⟩⟩⟩⟩⟩⟩⟩⟩⟩⟩
theorem lw_p32 : lw_okq (⟨"SleepBorderModel", "finds", "(II)Z"⟩, 7) := ⟨⟨by decide +kernel, by decide +kernel⟩, List.mem_of_getElem? (i := 531) (by decide +kernel), List.mem_of_getElem? (i := 668) (by decide +kernel), List.mem_of_getElem? (i := 669) (by decide +kernel)⟩
theorem lw_p33 : lw_okq (⟨"SleepBorderModel", "hidden", "(I)I"⟩, 7) := ⟨⟨by decide +kernel, by decide +kernel⟩, List.mem_of_getElem? (i := 531) (by decide +kernel), List.mem_of_getElem? (i := 672) (by decide +kernel), List.mem_of_getElem? (i := 673) (by decide +kernel)⟩
theorem lw_p34 : lw_okq (⟨"SleepBorderModel", "told", "(I)I"⟩, 7) := ⟨⟨by decide +kernel, by decide +kernel⟩, List.mem_of_getElem? (i := 531) (by decide +kernel), List.mem_of_getElem? (i := 681) (by decide +kernel), List.mem_of_getElem? (i := 682) (by decide +kernel)⟩
theorem lw_p35 : lw_okq (⟨"SleepBorderModel", "place", "(I)I"⟩, 7) := ⟨⟨by decide +kernel, by decide +kernel⟩, List.mem_of_getElem? (i := 531) (by decide +kernel), List.mem_of_getElem? (i := 733) (by decide +kernel), List.mem_of_getElem? (i := 734) (by decide +kernel)⟩
theorem lw_p36 : lw_okq (⟨"SleepBorderModel", "guard", "(II)I"⟩, 7) := ⟨⟨by decide +kernel, by decide +kernel⟩, List.mem_of_getElem? (i := 531) (by decide +kernel), List.mem_of_getElem? (i := 749) (by decide +kernel), List.mem_of_getElem? (i := 750) (by decide +kernel)⟩
theorem lw_p37 : lw_okq (⟨"SleepBorderModel", "alertest", "()I"⟩, 7) := ⟨⟨by decide +kernel, by decide +kernel⟩, List.mem_of_getElem? (i := 531) (by decide +kernel), List.mem_of_getElem? (i := 769) (by decide +kernel), List.mem_of_getElem? (i := 770) (by decide +kernel)⟩
theorem lw_p38 : lw_okq (⟨"SleepBorderModel", "until", "(I)I"⟩, 7) := ⟨⟨by decide +kernel, by decide +kernel⟩, List.mem_of_getElem? (i := 531) (by decide +kernel), List.mem_of_getElem? (i := 777) (by decide +kernel), List.mem_of_getElem? (i := 778) (by decide +kernel)⟩
theorem lw_p39 : lw_okq (⟨"SleepBorderModel", "keep", "()V"⟩, 7) := ⟨⟨by decide +kernel, by decide +kernel⟩, List.mem_of_getElem? (i := 531) (by decide +kernel), List.mem_of_getElem? (i := 781) (by decide +kernel), List.mem_of_getElem? (i := 782) (by decide +kernel)⟩
theorem lw_p40 : lw_okq (⟨"SleepBorderModel", "run", "(I)I"⟩, 7) := ⟨⟨by decide +kernel, by decide +kernel⟩, List.mem_of_getElem? (i := 531) (by decide +kernel), List.mem_of_getElem? (i := 788) (by decide +kernel), List.mem_of_getElem? (i := 789) (by decide +kernel)⟩
theorem lw_p41 : lw_okq (⟨"SleepBorderModel", "bringBack", "()V"⟩, 7) := ⟨⟨by decide +kernel, by decide +kernel⟩, List.mem_of_getElem? (i := 531) (by decide +kernel), List.mem_of_getElem? (i := 792) (by decide +kernel), List.mem_of_getElem? (i := 793) (by decide +kernel)⟩
theorem lw_p42 : lw_okq (⟨"SleepBorderModel", "sleepers", "(I)I"⟩, 7) := ⟨⟨by decide +kernel, by decide +kernel⟩, List.mem_of_getElem? (i := 531) (by decide +kernel), List.mem_of_getElem? (i := 800) (by decide +kernel), List.mem_of_getElem? (i := 801) (by decide +kernel)⟩
theorem lw_p43 : lw_okq (⟨"SleepBorderModel", "wanted", "()I"⟩, 7) := ⟨⟨by decide +kernel, by decide +kernel⟩, List.mem_of_getElem? (i := 531) (by decide +kernel), List.mem_of_getElem? (i := 812) (by decide +kernel), List.mem_of_getElem? (i := 813) (by decide +kernel)⟩
def lw_privs_3 : List (MethodName × Nat) := [(⟨"SleepBorderModel", "finds", "(II)Z"⟩, 7), (⟨"SleepBorderModel", "hidden", "(I)I"⟩, 7), (⟨"SleepBorderModel", "told", "(I)I"⟩, 7), (⟨"SleepBorderModel", "place", "(I)I"⟩, 7), (⟨"SleepBorderModel", "guard", "(II)I"⟩, 7), (⟨"SleepBorderModel", "alertest", "()I"⟩, 7), (⟨"SleepBorderModel", "until", "(I)I"⟩, 7), (⟨"SleepBorderModel", "keep", "()V"⟩, 7), (⟨"SleepBorderModel", "run", "(I)I"⟩, 7), (⟨"SleepBorderModel", "bringBack", "()V"⟩, 7), (⟨"SleepBorderModel", "sleepers", "(I)I"⟩, 7), (⟨"SleepBorderModel", "wanted", "()I"⟩, 7)]
theorem lw_r3 : ∀ q ∈ lw_privs_3, lw_okq q := List.forall_mem_cons.mpr ⟨lw_p32, List.forall_mem_cons.mpr ⟨lw_p33, List.forall_mem_cons.mpr ⟨lw_p34, List.forall_mem_cons.mpr ⟨lw_p35, List.forall_mem_cons.mpr ⟨lw_p36, List.forall_mem_cons.mpr ⟨lw_p37, List.forall_mem_cons.mpr ⟨lw_p38, List.forall_mem_cons.mpr ⟨lw_p39, List.forall_mem_cons.mpr ⟨lw_p40, List.forall_mem_cons.mpr ⟨lw_p41, List.forall_mem_cons.mpr ⟨lw_p42, List.forall_mem_cons.mpr ⟨lw_p43, fun _ h => absurd h List.not_mem_nil⟩⟩⟩⟩⟩⟩⟩⟩⟩⟩⟩⟩
def lw_privs : List (MethodName × Nat) := lw_privs_1 ++ (lw_privs_2 ++ (lw_privs_3))
def lw_tbl : List Cond := k2_sels lw_privs ++ tables_1
theorem lw_privs_ok : ∀ q ∈ lw_privs, lw_okq q := by
  show ∀ q ∈ lw_privs_1 ++ (lw_privs_2 ++ (lw_privs_3)), lw_okq q
  exact List.forall_mem_append.mpr ⟨lw_r1, List.forall_mem_append.mpr ⟨lw_r2, lw_r3⟩⟩
/-- the streams that the claim lets the run draw from -/
abbrev lw_cs : List Choice := [Jvm.Choice.named "NaN.bits"]
theorem lw_bits : nanBits ∈ lw_cs := by first | decide | exact List.mem_cons_self | simp [lw_cs, nanBits]
-- ===== end of PART A; then your names; then what follows =====
end
section
/-! ===== BEGIN words of one list among another's, by their places ===== -/
theorem goodIn_r {big : List Cond} (ws : List Cond) (ps : List Nat) (hp : ws = ps.filterMap (fun i => big[i]?)) (h : ws.all goodWord = true) : GoodIn big ws := by
  intro w hw
  have h1 := List.all_eq_true.mp h w hw
  rw [hp] at hw
  obtain ⟨i, -, hi⟩ := List.mem_filterMap.mp hw
  have hm : w ∈ big := by first | exact List.mem_of_getElem? hi | exact List.getElem?_mem hi
  exact ⟨hm, good_of_word h1⟩
theorem goodIn_app {big a b : List Cond} (ha : GoodIn big a) (hb : GoodIn big b) : GoodIn big (a ++ b) := fun w h => (List.mem_append.mp h).elim (ha w) (hb w)
theorem goodIn_ca {big a b : List Cond} {c : Cond} (ha : GoodIn big (c :: a)) (hb : GoodIn big b) : GoodIn big (c :: (a ++ b)) := fun w h => (List.mem_cons.mp h).elim (fun e => ha w (List.mem_cons.mpr (Or.inl e))) (fun h => (List.mem_append.mp h).elim (fun h => ha w (List.mem_cons.mpr (Or.inr h))) (hb w))
theorem goodIn_sub {big ws : List Cond} (hm : ∀ w ∈ ws, w ∈ big) (h : ws.all goodWord = true) : GoodIn big ws := fun w hw => ⟨hm w hw, good_of_word (List.all_eq_true.mp h w hw)⟩
/-! ===== END ===== -/

/-! ===== BEGIN exceptions that leave a method, and their catching by the caller (launches without stack traces) ===== -/
section VXA
/-! The laws vx_back, vx_callV, vx_callS, vx_callSW, vx_throw0, vx_throwS follow proofs of the library, with one case more: JvmDerived/Free/Laws.lean (Back.of_free), Shelf42/LK1.lean (callV, callS), Shelf/KitTraced.lean (throwNew0V, throwNewS). -/
/-- where a method has thrown q: the class by its name, the cell, what was written, the world -/
def vx_T (XC : String → State → State → Prop) (st : State) (q : Addr) (t : State) (mc ms : Nat) (free : Addr → Prop) : Prop :=
  ∃ (E : String) (ce : Cell) (L : List Loc), XC E st t ∧ t.heap[q]? = some ce ∧ ce.vm = .none ∧ st.vm.findClass E = some ce.cls ∧ st.WarmedH t.vm ∧ st.sameButNew ({ t with vm := st.vm } : State) L mc ms ∧ ∀ z ∈ L, free z.base
def vx_Q (Qc : Array Value → State → Outcome → State → Prop) (XC : String → State → State → Prop) (mc ms : Nat) (free : Addr → Prop) : Array Value → State → Outcome → State → Prop := fun a st o t =>
  (Qc a st o t ∧ ∃ L, FrameEnd st o t L mc ms ∧ ∀ q ∈ L, free q.base) ∨ ∃ q, o = .threw q ∧ vx_T XC st q t mc ms free
/-- a callee that returns or throws -/
def vx_Met (l : Launch) (y : MethodName) (ws : List Cond) (rm : Room) (Pc : Array Value → State → Prop) (Qc : Array Value → State → Outcome → State → Prop) (XC : String → State → State → Prop) (mc ms : Nat) (free : Addr → Prop) : Prop :=
  MetFree l y (headSpec ws rm) Pc (fun _ _ _ _ _ => True) (vx_Q Qc XC mc ms free)
def vx_Post (XC : String → State → State → Prop) (mc ms : Nat) (free : Addr → Prop) : Pt → Array Value → Addr → Pt → Prop := fun A a q B =>
  ∃ (g : JFrame) (mk : MethodId) (t : State) (L : List Loc) (E : String) (ce : Cell), B.U.heap = t.heap ∧ B.U.vm = t.vm ∧ XC E (A.U.calling g mk a) t ∧ t.heap[q]? = some ce ∧ ce.vm = .none ∧ A.U.vm.findClass E = some ce.cls ∧ B.locs = A.locs ++ L ∧ (∀ z ∈ L, free z.base) ∧ B.cells = A.cells + mc ∧ B.slots = A.slots + ms
def vx_Back (l : Launch) (R : Room) (p : Program) (e : Env) (below : List Frame) (s : State) (sargs : Array Value) (y : MethodName) (len W9 : Nat)
    (Pre : Pt → Array Value → Prop) (Post : Pt → Array Value → Option Value → Pt → Prop) (PostX : Pt → Array Value → Addr → Pt → Prop) : Prop :=
  ∀ (m : MethodId) (meth : Method) (c : Code) (A : Pt) (g : JFrame) (ig : Instr) (mk : MethodId) (a : Array Value),
    Stand p l e R s m sargs below meth c A.U A.locs A.cells A.slots → g.method = m → g.locals.size = c.maxLocals → decode c.code g.pc = .ok (ig, len) →
    2 * g.monitorRoom + (g.stack.map fun v => v.category).sum ≤ W9 → A.U.methodNamed? y = some mk → Pre A a →
    (∃ (v : Option Value) (B : Pt), Stand p l e R s m sargs below meth c B.U B.locs B.cells B.slots ∧ Post A a v B ∧
      Steps p.tables e below (doInvoke e (A.U.setTop g) [] mk a).1 (B.U.setTop { g with pc := g.pc + len, stack := v.toList ++ g.stack })) ∨
    (∃ (q : Addr) (B : Pt), Stand p l e R s m sargs below meth c B.U B.locs B.cells B.slots ∧ PostX A a q B ∧
      Steps p.tables e below (doInvoke e (A.U.setTop g) [] mk a).1 ((B.U.setTop g).pushFrame (.throwing q)))
section Payer
variable {l : Launch} {R : Room} {p : Program} {e : Env} {below : List Frame} {s : State} {sargs : Array Value} {y : MethodName} {len W9 : Nat}
theorem vx_back {ws : List Cond} {rm : Room} {Pc : Array Value → State → Prop} {Qc : Array Value → State → Outcome → State → Prop} {XC : String → State → State → Prop} {mc ms : Nat} {free : Addr → Prop} {bytes : ByteArray} {maxL : Nat} {ret : Option FieldType}
    (hM : vx_Met l y ws rm Pc Qc XC mc ms free) (hblind : FrameBlind Pc) (hrc : rm.cells = mc) (hrs : rm.slots = ms)
    (hframes : rm.frames + 1 ≤ R.frames) (hlocals : W9 + (maxL + 11) + rm.locals ≤ R.locals)
    (hws : ∀ w ∈ ws, ∀ a' U, s.WarmedH U.vm → w.before a' U = true) (hcode : Cond.code y bytes maxL ret ∈ ws) (hinit : ∀ a' U, s.WarmedH U.vm → (Cond.initialized y.cls).before a' U = true) :
    vx_Back l R p e below s sargs y len W9 (PreOf R mc ms Pc) (PostOf Qc mc ms free) (vx_Post XC mc ms free) := by
  intro m meth c A g ig mk a X hg hsize hdg hW hn hp
  have h1 : (headSpec ws rm).pre.before a A.U = true := atoms_intro fun w hw => hws w hw _ _ X.warmed
  have h2 : (Cond.code y bytes maxL ret).before a A.U = true := hws _ hcode _ _ X.warmed
  have h3 : (Cond.initialized y.cls).before a A.U = true := hinit _ _ X.warmed
  have h4 : A.cells + (headSpec ws rm).room.cells ≤ R.cells := by rw [show (headSpec ws rm).room.cells = mc from hrc]; exact hp.1
  have h5 : A.slots + (headSpec ws rm).room.slots ≤ R.slots := by rw [show (headSpec ws rm).room.slots = ms from hrs]; exact hp.2.1
  have hPc : Pc a (A.U.calling g mk a) := hblind _ _ _ _ hp.2.2
  obtain ⟨U, Ls, c0, s0⟩ := A
  dsimp only [Pt.U, Pt.locs, Pt.cells, Pt.slots] at h1 h2 h3 h4 h5 X hn hPc ⊢
  obtain ⟨methY, cY, hmY, hcY, -, hlY, -, -, -, -⟩ := Cond.code_spec hn h2
  obtain ⟨kY, hkY, -⟩ := className_of_methodNamed hn
  have hinitY : kY.init = .initialized := Cond.initialized_spec (findClass_of_methodNamed hn) hkY h3
  have h : At U g.method c below := by rw [hg]; exact X.here
  have hlocals9 : W9 + (maxL + 11) + (headSpec ws rm).room.locals ≤ R.locals := hlocals
  have happ : (headSpec ws rm).appliesLoose y e.platform (U.calling g mk a) = true :=
    Spec.appliesLoose_calling (g := g) h hdg hn hkY hinitY
      (X.room_calling (g := g) (R' := (headSpec ws rm).room) hsize hmY hcY hframes (by rw [hlY]; omega) h4 h5) h1
  obtain ⟨mid, hmid⟩ := h.above
  have hfr : (U.setTop g).frames = (.java g :: mid) ++ below := by rw [State.frames_setTop' g h.top, hmid]; rfl
  obtain ⟨o, s₂, hsteps, -, hend, hq⟩ := Steps.callFree hM p X.admits X.cas X.clock (acts := []) hfr happ hPc trivial
  have hq' : vx_Q Qc XC mc ms free a (U.calling g mk a) o s₂ := hq
  rw [State.frames_setTop' g h.top] at hend
  obtain ⟨g₀, hg0⟩ := Option.isSome_iff_exists.mp h.top
  obtain ⟨r, hr⟩ := State.topJava?_eq_some.mp hg0
  have hr' : (({ U with heap := s₂.heap, slotsUsed := s₂.slotsUsed } : State).setVm s₂.vm).frames = .java g₀ :: r := hr
  rcases hq' with ⟨hqc, L, hfe, hL⟩ | ⟨q, rfl, E, ce, L, hx, hce, hcv, hcl, hW₂, hsm, hL⟩
  · obtain ⟨⟨v, rfl⟩, hW₂, e2, q2, q3, q4, q5, q6⟩ := id hfe
    have e3 : s₂ = ({ (U.calling g mk a).setFrames s₂.frames with heap := s₂.heap, slotsUsed := s₂.slotsUsed } : State).setVm s₂.vm := by
      have : s₂ = ({ s₂ with vm := (U.calling g mk a).vm } : State).setVm s₂.vm := rfl
      rw [e2] at this
      exact this
    obtain ⟨c₂, i₂, len₂, hc₂, hd₂, hf₂⟩ := hend
    have hW' : U.WarmedH s₂.vm := hW₂
    have hcc : c₂ = c := by
      have h1 : s₂.code? g.method = U.code? g.method := by
        rw [State.code?_eq, State.code?_eq, hW'.alike.method?]
      exact Option.some.inj (hc₂.symm.trans (h1.trans h.code))
    subst hcc
    have hlen : len₂ = len := by rw [hdg] at hd₂; cases hd₂; rfl
    subst hlen
    have hs₂ : s₂ = (({ U with heap := s₂.heap, slotsUsed := s₂.slotsUsed } : State).setVm s₂.vm).setTop { g with pc := g.pc + len₂, stack := v.toList ++ g.stack } := by
      refine e3.trans ?_
      rw [hf₂, State.calling_eq h.top, State.setFrames_setFrames, State.setTop_of_frames _ hr', hr]
      rfl
    have hsame : U.sameButNew ({ U with heap := s₂.heap, slotsUsed := s₂.slotsUsed } : State) L mc ms := by
      refine ⟨?_, q2, q3, q4, q5, q6⟩
      obtain ⟨t, ht, -⟩ := State.frames_cons hr
      show ({ U with heap := s₂.heap, slotsUsed := s₂.slotsUsed } : State) = { U.setFrames U.frames with heap := s₂.heap, slotsUsed := s₂.slotsUsed }
      rw [State.setFrames_self ht]
    subst hg
    refine Or.inl ⟨v, ⟨(({ U with heap := s₂.heap, slotsUsed := s₂.slotsUsed } : State).setVm s₂.vm), Ls ++ L, c0 + mc, s0 + ms⟩,
      ⟨X.admits, X.cas, X.clock, X.frames, X.room, X.hears, X.method, X.code, (X.here.setHeapUsed s₂.heap s₂.slotsUsed).setVm hW'.alike, X.tail, State.WarmedH.trans X.warmed hW', X.limits, X.bytes, X.same.trans (hsame.setVm s.vm)⟩,
      ⟨g, mk, s₂, L, rfl, rfl, hqc, rfl, hL, rfl, rfl⟩, ?_⟩
    show Steps p.tables e below _ ((({ U with heap := s₂.heap, slotsUsed := s₂.slotsUsed } : State).setVm s₂.vm).setTop { g with pc := g.pc + len₂, stack := v.toList ++ g.stack })
    rw [← hs₂]
    exact hsteps
  · obtain ⟨e2, q2, q3, q4, q5, q6⟩ := id hsm
    have e3 : s₂ = ({ (U.calling g mk a).setFrames s₂.frames with heap := s₂.heap, slotsUsed := s₂.slotsUsed } : State).setVm s₂.vm := by
      have : s₂ = ({ s₂ with vm := (U.calling g mk a).vm } : State).setVm s₂.vm := rfl
      rw [e2] at this
      exact this
    have hf₂ : s₂.frames = .throwing q :: .java g :: U.frames.tail := hend
    have hW' : U.WarmedH s₂.vm := hW₂
    have hs₂ : s₂ = ((({ U with heap := s₂.heap, slotsUsed := s₂.slotsUsed } : State).setVm s₂.vm).setTop g).pushFrame (.throwing q) := by
      refine e3.trans ?_
      rw [hf₂, State.calling_eq h.top, State.setFrames_setFrames, State.pushFrame, State.frames_setTop _ hr', State.setTop_of_frames _ hr', State.setFrames_setFrames, hr]
      rfl
    have hsame : U.sameButNew ({ U with heap := s₂.heap, slotsUsed := s₂.slotsUsed } : State) L mc ms := by
      refine ⟨?_, q2, q3, q4, q5, q6⟩
      obtain ⟨t, ht, -⟩ := State.frames_cons hr
      show ({ U with heap := s₂.heap, slotsUsed := s₂.slotsUsed } : State) = { U.setFrames U.frames with heap := s₂.heap, slotsUsed := s₂.slotsUsed }
      rw [State.setFrames_self ht]
    subst hg
    refine Or.inr ⟨q, ⟨(({ U with heap := s₂.heap, slotsUsed := s₂.slotsUsed } : State).setVm s₂.vm), Ls ++ L, c0 + mc, s0 + ms⟩,
      ⟨X.admits, X.cas, X.clock, X.frames, X.room, X.hears, X.method, X.code, (X.here.setHeapUsed s₂.heap s₂.slotsUsed).setVm hW'.alike, X.tail, State.WarmedH.trans X.warmed hW', X.limits, X.bytes, X.same.trans (hsame.setVm s.vm)⟩,
      ⟨g, mk, s₂, L, E, ce, rfl, rfl, hx, hce, hcv, hcl, rfl, hL, rfl, rfl⟩, ?_⟩
    show Steps p.tables e below _ (((({ U with heap := s₂.heap, slotsUsed := s₂.slotsUsed } : State).setVm s₂.vm).setTop g).pushFrame (.throwing q))
    rw [← hs₂]
    exact hsteps
end Payer
section Calls
variable {p : Program} {l : Launch} {e : Env} {R : Room} {s : State} {m : MethodId} {args : Array Value} {below : List Frame} {meth : Method} {c : Code} {T : State} {locs : List Loc} {cells slots : Nat}
theorem vx_callV (X : Stand p l e R s m args below meth c T locs cells slots) (hexec : p.tables.exec = Jvm.exec) {own C : String} {index : Nat} {y : MethodName} {bytes : ByteArray} {maxL : Nat} {ret : Option FieldType}
    (hown : s.vm.findClass own = some m.cls) (hlink : (Cond.methodLink own index y).before args s = true) (hinst : (Cond.instanceMethod y).before args s = true) (hsel : (Cond.selects C y y).before args s = true)
    (hcode : (Cond.code y bytes maxL ret).before args s = true) (hy : y.cls ≠ "java/lang/invoke/MethodHandle" ∧ y.cls ≠ "java/lang/invoke/VarHandle")
    {W9 : Nat} {Pre : Pt → Array Value → Prop} {Post : Pt → Array Value → Option Value → Pt → Prop} {PostX : Pt → Array Value → Addr → Pt → Prop} (hK : vx_Back l R p e below s args y 3 W9 Pre Post PostX)
    {b : Addr} {cellB : Cell} (hcell : T.heap[b]? = some cellB) (hobj : cellB.vm.isStatics = false) (hcls : s.vm.findClass C = some cellB.cls)
    {g : JFrame} (hg : g.method = m) (hsize : g.locals.size = c.maxLocals) {argsL rest : List Value} (hlen : ∀ sig, parseMethodDescriptor y.desc = some sig → argsL.length = sig.parameters.length)
    (hstack : g.stack = argsL.reverse ++ .ref b :: rest) (hW : 2 * g.monitorRoom + (rest.map fun v => v.category).sum ≤ W9) (hdg : decode c.code g.pc = .ok (.invokevirtual index, 3))
    (hpre : ∀ vm₁, s.WarmedH vm₁ → Pre ⟨T.setVm vm₁, locs, cells, slots⟩ (Value.ref b :: argsL).toArray) :
    (∃ (v : Option Value) (vm₁ : Vm) (B : Pt), s.WarmedH vm₁ ∧ Stand p l e R s m args below meth c B.U B.locs B.cells B.slots ∧ Post ⟨T.setVm vm₁, locs, cells, slots⟩ (Value.ref b :: argsL).toArray v B ∧
      ∀ target, Steps p.tables e below (B.U.setTop { g with pc := g.pc + 3, stack := v.toList ++ rest }) target → Steps p.tables e below (T.setTop g) target) ∨
    (∃ (q : Addr) (vm₁ : Vm) (B : Pt), s.WarmedH vm₁ ∧ Stand p l e R s m args below meth c B.U B.locs B.cells B.slots ∧ PostX ⟨T.setVm vm₁, locs, cells, slots⟩ (Value.ref b :: argsL).toArray q B ∧
      Steps p.tables e below (T.setTop g) ((B.U.setTop { g with stack := rest }).pushFrame (.throwing q))) := by
  obtain ⟨mk, methM, hnamed, hmethM, hstM, habM⟩ := Cond.instanceMethod_spec hinst
  obtain ⟨methM', cM, hmethM', -, -, -, -, -, -, hsigM⟩ := Cond.code_spec hnamed hcode
  cases hmethM.symm.trans hmethM'
  obtain ⟨c2, r2, m2, q1, q2, q3, q4, kP, hkP, hkPi⟩ := Cond.selects_spec hsel
  cases hcls.symm.trans q1
  cases (State.methodFound?_of_named hnamed hy).symm.trans q2
  cases hnamed.symm.trans q3
  have hselP : selectMethod e.platform s.vm cellB.cls mk = .method mk := by rw [Launch.admits_selectMethod X.admits]; exact q4
  obtain ⟨vm₁, X₁, hstep₁⟩ := X.invokevirtual hexec hown hlink hnamed hmethM hstM hkP hkPi hy (a := b) (cell := cellB) hcell
    (fun z h => by rw [h] at hobj; cases hobj) hselP hmethM habM hkP hkPi (g := g) hg (argsL := argsL) (rest := rest) (hlen _ hsigM) hstack hdg
  rcases hK m meth c ⟨T.setVm vm₁, locs, cells, slots⟩ { g with stack := rest } (.invokevirtual index) mk (Value.ref b :: argsL).toArray X₁ hg hsize hdg hW (X₁.named hnamed) (hpre vm₁ X₁.warmed) with ⟨v, B, X', hpost, hsteps⟩ | ⟨q, B, X', hpost, hsteps⟩
  · exact Or.inl ⟨v, vm₁, B, X₁.warmed, X', hpost, fun target h => hstep₁ _ fun acts => by rw [doInvoke_state]; exact hsteps.trans h⟩
  · exact Or.inr ⟨q, vm₁, B, X₁.warmed, X', hpost, hstep₁ _ fun acts => by rw [doInvoke_state]; exact hsteps⟩
theorem vx_callS (X : Stand p l e R s m args below meth c T locs cells slots) (hexec : p.tables.exec = Jvm.exec) {own : String} {index : Nat} {y : MethodName} {bytes : ByteArray} {maxL : Nat} {ret : Option FieldType}
    (hown : s.vm.findClass own = some m.cls) (hlink : (Cond.methodLink own index y).before args s = true) (hstat : (Cond.static y).before args s = true) (hinit : (Cond.initialized y.cls).before args s = true)
    (hcode : (Cond.code y bytes maxL ret).before args s = true) (hy : y.cls ≠ "java/lang/invoke/MethodHandle" ∧ y.cls ≠ "java/lang/invoke/VarHandle")
    {W9 : Nat} {Pre : Pt → Array Value → Prop} {Post : Pt → Array Value → Option Value → Pt → Prop} {PostX : Pt → Array Value → Addr → Pt → Prop} (hK : vx_Back l R p e below s args y 3 W9 Pre Post PostX)
    {g : JFrame} (hg : g.method = m) (hsize : g.locals.size = c.maxLocals) {argsL rest : List Value} (hlen : ∀ sig, parseMethodDescriptor y.desc = some sig → argsL.length = sig.parameters.length)
    (hstack : g.stack = argsL.reverse ++ rest) (hW : 2 * g.monitorRoom + (rest.map fun v => v.category).sum ≤ W9) (hdg : decode c.code g.pc = .ok (.invokestatic index, 3))
    (hpre : ∀ vm₁, s.WarmedH vm₁ → Pre ⟨T.setVm vm₁, locs, cells, slots⟩ argsL.toArray) :
    (∃ (v : Option Value) (vm₁ : Vm) (B : Pt), s.WarmedH vm₁ ∧ Stand p l e R s m args below meth c B.U B.locs B.cells B.slots ∧ Post ⟨T.setVm vm₁, locs, cells, slots⟩ argsL.toArray v B ∧
      ∀ target, Steps p.tables e below (B.U.setTop { g with pc := g.pc + 3, stack := v.toList ++ rest }) target → Steps p.tables e below (T.setTop g) target) ∨
    (∃ (q : Addr) (vm₁ : Vm) (B : Pt), s.WarmedH vm₁ ∧ Stand p l e R s m args below meth c B.U B.locs B.cells B.slots ∧ PostX ⟨T.setVm vm₁, locs, cells, slots⟩ argsL.toArray q B ∧
      Steps p.tables e below (T.setTop g) ((B.U.setTop { g with stack := rest }).pushFrame (.throwing q))) := by
  obtain ⟨mk, hnamed⟩ := Cond.code_named hcode
  obtain ⟨methM, cM, hmethM, -, -, -, -, -, -, hsigM⟩ := Cond.code_spec hnamed hcode
  have hstatic : methM.isStatic = true := Cond.static_spec hnamed hmethM hstat
  obtain ⟨kP, hkP, -⟩ := className_of_methodNamed hnamed
  have hinitP : kP.init = .initialized := Cond.initialized_spec (findClass_of_methodNamed hnamed) hkP hinit
  obtain ⟨vm₁, X₁, hstep₁⟩ := X.invokestatic hexec hown hlink hnamed hmethM hstatic hkP hinitP hy (g := g) hg (argsL := argsL) (rest := rest) (hlen _ hsigM) hstack hdg
  rcases hK m meth c ⟨T.setVm vm₁, locs, cells, slots⟩ { g with stack := rest } (.invokestatic index) mk argsL.toArray X₁ hg hsize hdg hW (X₁.named hnamed) (hpre vm₁ X₁.warmed) with ⟨v, B, X', hpost, hsteps⟩ | ⟨q, B, X', hpost, hsteps⟩
  · exact Or.inl ⟨v, vm₁, B, X₁.warmed, X', hpost, fun target h => hstep₁ _ fun acts => by rw [doInvoke_state]; exact hsteps.trans h⟩
  · exact Or.inr ⟨q, vm₁, B, X₁.warmed, X', hpost, hstep₁ _ fun acts => by rw [doInvoke_state]; exact hsteps⟩
end Calls
theorem vx_cls {s : State} {T : State} {vm₁ : Vm} {E : String} {k : ClassId} (hW : s.WarmedH vm₁) (h : (T.setVm vm₁).vm.findClass E = some k) : s.vm.findClass E = some k := by
  have h1 : vm₁.findClass E = some k := h
  rw [hW.alike.findClass] at h1
  exact h1
/-- the method's frame g, with q thrown over it -/
def vx_W (p : Program) (l : Launch) (e : Env) (R : Room) (s : State) (m : MethodId) (args : Array Value) (below : List Frame) (meth : Method) (c : Code) (H : Heap) (locs : List Loc) (cells slots : Nat) (Q : State → Prop) (g : JFrame) (q : Addr) : Prop :=
  ∀ T : State, T.heap = H → Stand p l e R s m args below meth c T locs cells slots → ∃ t, Steps p.tables e below ((T.setTop g).pushFrame (.throwing q)) t ∧ Q t
def vx_Run (p : Program) (l : Launch) (e : Env) (R : Room) (s : State) (m : MethodId) (args : Array Value) (below : List Frame) (meth : Method) (c : Code) (H : Heap) (locs : List Loc) (cells slots mc ms : Nat) (g : JFrame) (rest : List Value) (Qa : State → Outcome → State → Prop) (XC : String → State → State → Prop) (free : Addr → Prop) : Prop :=
  ∀ T : State, T.heap = H → Stand p l e R s m args below meth c T locs cells slots →
    (∃ (v : Option Value) (st₀ t T' : State) (L : List Loc), st₀.heap = H ∧ Stand p l e R s m args below meth c T' (locs ++ L) (cells + mc) (slots + ms) ∧ (∀ q ∈ L, free q.base) ∧ T'.heap = t.heap ∧ T'.vm = t.vm ∧ Qa st₀ (.returned v) t ∧
      Goes p e below T g T' { g with pc := g.pc + 3, stack := v.toList ++ rest }) ∨
    (∃ (q : Addr) (st₀ t T' : State) (L : List Loc) (E : String) (ce : Cell), st₀.heap = H ∧ Stand p l e R s m args below meth c T' (locs ++ L) (cells + mc) (slots + ms) ∧ (∀ z ∈ L, free z.base) ∧ T'.heap = t.heap ∧ T'.vm = t.vm ∧ XC E st₀ t ∧ t.heap[q]? = some ce ∧ ce.vm = .none ∧ s.vm.findClass E = some ce.cls ∧
      Steps p.tables e below (T.setTop g) ((T'.setTop { g with stack := rest }).pushFrame (.throwing q)))
def vx_X {S : Type} (px : S → Prop) (B : String → S → State → Prop) (A : Nat → Prop) : String → State → State → Prop := fun E st t => ∃ u : S, px u ∧ B E u t ∧ va_F A st t
section Runs
variable {p : Program} {l : Launch} {e : Env} {R : Room} {s : State} {m : MethodId} {args : Array Value} {below : List Frame} {meth : Method} {c : Code} {H : Heap} {locs : List Loc} {cells slots : Nat}
variable {y : MethodName} {bytes cc : ByteArray} {maxL nL mc ms n index : Nat} {ret : Option FieldType} {ws : List Cond} {rm : Room} {Pc : Array Value → State → Prop} {Qc : Array Value → State → Outcome → State → Prop} {XC : String → State → State → Prop} {free : Addr → Prop} {Ts : List Cond} {own C : String} {b : Addr} {As rest : List Value} {g : JFrame}
theorem vx_callBack (cb : CallB R s args own index y bytes maxL ret ws rm mc ms n) (hM : vx_Met l y ws rm Pc Qc XC mc ms free) (hbl : FrameBlind Pc) : vx_Back l R p e below s args y 3 8 (PreOf R mc ms Pc) (PostOf Qc mc ms free) (vx_Post XC mc ms free) := by
  obtain ⟨hrc, hrs, hfr, hlo, hws, hcw, -, hini, -⟩ := cb
  exact vx_back (bytes := bytes) (maxL := maxL) (ret := ret) hM hbl hrc hrs hfr hlo hws hcw (fun a' U hW => word_at hW (Or.inl (by first | rfl | simp [Cond.onTables, Cond.keeps, Cond.steady])) hini)
theorem vx_runV (S : CallFix p m c cc nL s args Ts own) (hM : vx_Met l y ws rm Pc Qc XC mc ms free) (cw : CallW R s args own C index y bytes maxL ret ws rm mc ms n) (hp : PreV s H C b Pc As)
    (hg : g.method = m) (hn : As.length = n) (hsize : g.locals.size = nL) (hstack : g.stack = As.reverse ++ .ref b :: rest) (hW : 2 * g.monitorRoom + (rest.map fun v => v.category).sum ≤ 8) (hdg : decode cc g.pc = .ok (.invokevirtual index, 3)) (hf : cells + mc ≤ R.cells ∧ slots + ms ≤ R.slots) :
    vx_Run p l e R s m args below meth c H locs cells slots mc ms g rest (Qc (Value.ref b :: As).toArray) XC free := by
  have hK : vx_Back l R p e below s args y 3 8 (PreOf R mc ms Pc) (PostOf Qc mc ms free) (vx_Post XC mc ms free) := vx_callBack cw.1 hM hp.1
  obtain ⟨⟨-, -, -, -, -, -, hcode, -, hy, hlen, hl⟩, hin, hse⟩ := cw
  obtain ⟨hx, hb, hml, ho, -⟩ := S
  obtain ⟨-, ⟨cellB, hcB, hoB, hclB⟩, hPc⟩ := hp
  intro T hT X
  rcases vx_callV X hx (C := C) (bytes := bytes) (maxL := maxL) (ret := ret) ho hl hin hse hcode hy hK (by rw [hT]; exact hcB) hoB hclB hg (hsize.trans hml.symm) (argsL := As) (rest := rest) (fun sig h => hn.trans (hlen sig h)) hstack hW (by rw [hb]; exact hdg)
    (fun vm₁ hW₁ => ⟨hf.1, hf.2, hPc (T.setVm vm₁) hT hW₁⟩) with ⟨v, vm₁, ⟨U', l2, c2, s2⟩, hW₁, X', ⟨g', mk, t, L, e1, e2, hq, h1, hL, h2, h3⟩, st⟩ | ⟨q, vm₁, ⟨U', l2, c2, s2⟩, hW₁, X', ⟨g', mk, t, L, E, ce, e1, e2, hq, hce, hcv, hcl, h1, hL, h2, h3⟩, st⟩
  · dsimp only [Pt.U, Pt.locs, Pt.cells, Pt.slots] at X' e1 e2 h1 h2 h3 st
    subst h1; subst h2; subst h3
    exact Or.inl ⟨v, (T.setVm vm₁).calling g' mk (Value.ref b :: As).toArray, t, U', L, hT, X', hL, e1, e2, hq, st⟩
  · dsimp only [Pt.U, Pt.locs, Pt.cells, Pt.slots] at X' e1 e2 h1 h2 h3 st hcl
    subst h1; subst h2; subst h3
    exact Or.inr ⟨q, (T.setVm vm₁).calling g' mk (Value.ref b :: As).toArray, t, U', L, E, ce, hT, X', hL, e1, e2, hq, hce, hcv, vx_cls hW₁ hcl, st⟩
theorem vx_runS (S : CallFix p m c cc nL s args Ts own) (hM : vx_Met l y ws rm Pc Qc XC mc ms free) (cw : CallB R s args own index y bytes maxL ret ws rm mc ms n ∧ (Cond.static y).before args s = true) (hp : PreS s H Pc As)
    (hg : g.method = m) (hn : As.length = n) (hsize : g.locals.size = nL) (hstack : g.stack = As.reverse ++ rest) (hW : 2 * g.monitorRoom + (rest.map fun v => v.category).sum ≤ 8) (hdg : decode cc g.pc = .ok (.invokestatic index, 3)) (hf : cells + mc ≤ R.cells ∧ slots + ms ≤ R.slots) :
    vx_Run p l e R s m args below meth c H locs cells slots mc ms g rest (Qc As.toArray) XC free := by
  have hK : vx_Back l R p e below s args y 3 8 (PreOf R mc ms Pc) (PostOf Qc mc ms free) (vx_Post XC mc ms free) := vx_callBack cw.1 hM hp.1
  obtain ⟨⟨-, -, -, -, -, -, hcode, hini, hy, hlen, hl⟩, hstt⟩ := cw
  obtain ⟨hx, hb, hml, ho, -⟩ := S
  intro T hT X
  rcases vx_callS X hx (bytes := bytes) (maxL := maxL) (ret := ret) ho hl hstt hini hcode hy hK hg (hsize.trans hml.symm) (argsL := As) (rest := rest) (fun sig h => hn.trans (hlen sig h)) hstack hW (by rw [hb]; exact hdg)
    (fun vm₁ hW₁ => ⟨hf.1, hf.2, hp.2 (T.setVm vm₁) hT hW₁⟩) with ⟨v, vm₁, ⟨U', l2, c2, s2⟩, hW₁, X', ⟨g', mk, t, L, e1, e2, hq, h1, hL, h2, h3⟩, st⟩ | ⟨q, vm₁, ⟨U', l2, c2, s2⟩, hW₁, X', ⟨g', mk, t, L, E, ce, e1, e2, hq, hce, hcv, hcl, h1, hL, h2, h3⟩, st⟩
  · dsimp only [Pt.U, Pt.locs, Pt.cells, Pt.slots] at X' e1 e2 h1 h2 h3 st
    subst h1; subst h2; subst h3
    exact Or.inl ⟨v, (T.setVm vm₁).calling g' mk As.toArray, t, U', L, hT, X', hL, e1, e2, hq, st⟩
  · dsimp only [Pt.U, Pt.locs, Pt.cells, Pt.slots] at X' e1 e2 h1 h2 h3 st hcl
    subst h1; subst h2; subst h3
    exact Or.inr ⟨q, (T.setVm vm₁).calling g' mk As.toArray, t, U', L, E, ce, hT, X', hL, e1, e2, hq, hce, hcv, vx_cls hW₁ hcl, st⟩
end Runs
section Rows
variable {p : Program} {l : Launch} {e : Env} {R : Room} {s : State} {m : MethodId} {args : Array Value} {below : List Frame} {meth : Method} {c : Code} {H : Heap} {locs : List Loc} {cells slots : Nat} {Q : State → Prop}
variable {mc ms : Nat} {free : Addr → Prop} {A0 A1 : Nat → Prop} {H0 : Heap} {a : Array Value} {pc : Nat} {ls : Array Slot} {st0 rest : List Value}
theorem vx_keep {st₀ t T' : State} {L : List Loc} (h0 : st₀.heap = H) (e1 : T'.heap = t.heap) (hS : va_S A0 H0 H locs) (hA : ∀ q, q < H.size → A1 q → A0 q) (hf : ∀ q, free q → A0 q) (hL : ∀ q ∈ L, free q.base) (hF : va_F A1 st₀ t) :
    H.size ≤ T'.heap.size ∧ (∀ q : Nat, q < H.size → ¬ A1 q → T'.heap[q]? = H[q]?) ∧ va_S A0 H0 T'.heap (locs ++ L) := by
  obtain ⟨hz, hk⟩ := hF
  rw [h0] at hz hk
  exact ⟨by rw [e1]; exact hz, fun q h1 h2 => by rw [e1]; exact hk q h1 h2,
    ⟨Nat.le_trans hS.1 (by rw [e1]; exact hz), fun q h1 h2 => by rw [e1, hk q (Nat.lt_of_lt_of_le h1 hS.1) (fun z => h2 (hA q (Nat.lt_of_lt_of_le h1 hS.1) z))]; exact hS.2.1 q h1 h2, fun q hq => by
      rcases List.mem_append.mp hq with h | h
      · exact hS.2.2 q h
      · exact hf _ (hL q h)⟩⟩
theorem vx_calli {S SX : Type} {post : Int32 → S → Prop} {px : SX → Prop} {B : S → State → Prop} {BX : String → SX → State → Prop} {AX : Nat → Prop} (hr : vx_Run p l e R s m args below meth c H locs cells slots mc ms (F0 m pc ls st0) rest (va_Qi post B A1 a) (vx_X px BX AX) free) (hS : va_S A0 H0 H locs) (hA : ∀ q, q < H.size → A1 q → A0 q) (hf : ∀ q, free q → A0 q) (hAX : ∀ q, q < H.size → AX q → A0 q)
    (kx : ∀ (E : String) (ce : Cell) (q9 : Addr) (u : SX) (t : State) (H1 : Heap) (locs1 : List Loc), t.heap = H1 → s.vm.Alike t.vm → px u → BX E u t → H.size ≤ H1.size → (∀ q : Nat, q < H.size → ¬ AX q → H1[q]? = H[q]?) → va_S A0 H0 H1 locs1 → H1[q9]? = some ce → ce.vm = .none → s.vm.findClass E = some ce.cls → vx_W p l e R s m args below meth c H1 locs1 (cells + mc) (slots + ms) Q (F0 m pc ls rest) q9)
    (kk : ∀ (r : Int32) (u : S) (t : State) (H1 : Heap) (locs1 : List Loc), t.heap = H1 → s.vm.Alike t.vm → post r u → B u t → H.size ≤ H1.size → (∀ q : Nat, q < H.size → ¬ A1 q → H1[q]? = H[q]?) → va_S A0 H0 H1 locs1 → W p l e R s m args below meth c H1 locs1 (cells + mc) (slots + ms) Q (F0 m (pc + 3) ls (.int r :: rest))) : W p l e R s m args below meth c H locs cells slots Q (F0 m pc ls st0) := by
  intro T hT X
  rcases hr T hT X with ⟨v, st₀, t, T', L, h0, X', hL, e1, e2, ⟨⟨r, u, hv, hp, hb⟩, hF⟩, st⟩ | ⟨q, st₀, t, T', L, E, ce, h0, X', hL, e1, e2, ⟨u, hp, hb, hF⟩, hce, hcv, hcl, st⟩
  · cases hv
    obtain ⟨k1, k2, k3⟩ := vx_keep h0 e1 hS hA hf hL hF
    obtain ⟨t2, a1, b1⟩ := kk r u t T'.heap (locs ++ L) e1.symm (by rw [← e2]; exact X'.warmed.alike) hp hb k1 k2 k3 T' rfl X'
    exact ⟨t2, st t2 a1, b1⟩
  · obtain ⟨k1, k2, k3⟩ := vx_keep h0 e1 hS hAX hf hL hF
    obtain ⟨t2, a1, b1⟩ := kx E ce q u t T'.heap (locs ++ L) e1.symm (by rw [← e2]; exact X'.warmed.alike) hp hb k1 k2 k3 (by rw [e1]; exact hce) hcv hcl T' rfl X'
    exact ⟨t2, st.trans a1, b1⟩
theorem vx_calll {S SX : Type} {post : Int64 → S → Prop} {px : SX → Prop} {B : S → State → Prop} {BX : String → SX → State → Prop} {AX : Nat → Prop} (hr : vx_Run p l e R s m args below meth c H locs cells slots mc ms (F0 m pc ls st0) rest (va_Ql post B A1 a) (vx_X px BX AX) free) (hS : va_S A0 H0 H locs) (hA : ∀ q, q < H.size → A1 q → A0 q) (hf : ∀ q, free q → A0 q) (hAX : ∀ q, q < H.size → AX q → A0 q)
    (kx : ∀ (E : String) (ce : Cell) (q9 : Addr) (u : SX) (t : State) (H1 : Heap) (locs1 : List Loc), t.heap = H1 → s.vm.Alike t.vm → px u → BX E u t → H.size ≤ H1.size → (∀ q : Nat, q < H.size → ¬ AX q → H1[q]? = H[q]?) → va_S A0 H0 H1 locs1 → H1[q9]? = some ce → ce.vm = .none → s.vm.findClass E = some ce.cls → vx_W p l e R s m args below meth c H1 locs1 (cells + mc) (slots + ms) Q (F0 m pc ls rest) q9)
    (kk : ∀ (r : Int64) (u : S) (t : State) (H1 : Heap) (locs1 : List Loc), t.heap = H1 → s.vm.Alike t.vm → post r u → B u t → H.size ≤ H1.size → (∀ q : Nat, q < H.size → ¬ A1 q → H1[q]? = H[q]?) → va_S A0 H0 H1 locs1 → W p l e R s m args below meth c H1 locs1 (cells + mc) (slots + ms) Q (F0 m (pc + 3) ls (.long r :: rest))) : W p l e R s m args below meth c H locs cells slots Q (F0 m pc ls st0) := by
  intro T hT X
  rcases hr T hT X with ⟨v, st₀, t, T', L, h0, X', hL, e1, e2, ⟨⟨r, u, hv, hp, hb⟩, hF⟩, st⟩ | ⟨q, st₀, t, T', L, E, ce, h0, X', hL, e1, e2, ⟨u, hp, hb, hF⟩, hce, hcv, hcl, st⟩
  · cases hv
    obtain ⟨k1, k2, k3⟩ := vx_keep h0 e1 hS hA hf hL hF
    obtain ⟨t2, a1, b1⟩ := kk r u t T'.heap (locs ++ L) e1.symm (by rw [← e2]; exact X'.warmed.alike) hp hb k1 k2 k3 T' rfl X'
    exact ⟨t2, st t2 a1, b1⟩
  · obtain ⟨k1, k2, k3⟩ := vx_keep h0 e1 hS hAX hf hL hF
    obtain ⟨t2, a1, b1⟩ := kx E ce q u t T'.heap (locs ++ L) e1.symm (by rw [← e2]; exact X'.warmed.alike) hp hb k1 k2 k3 (by rw [e1]; exact hce) hcv hcl T' rfl X'
    exact ⟨t2, st.trans a1, b1⟩
theorem vx_callf {S SX : Type} {post : UInt32 → S → Prop} {px : SX → Prop} {B : S → State → Prop} {BX : String → SX → State → Prop} {AX : Nat → Prop} (hr : vx_Run p l e R s m args below meth c H locs cells slots mc ms (F0 m pc ls st0) rest (va_Qf post B A1 a) (vx_X px BX AX) free) (hS : va_S A0 H0 H locs) (hA : ∀ q, q < H.size → A1 q → A0 q) (hf : ∀ q, free q → A0 q) (hAX : ∀ q, q < H.size → AX q → A0 q)
    (kx : ∀ (E : String) (ce : Cell) (q9 : Addr) (u : SX) (t : State) (H1 : Heap) (locs1 : List Loc), t.heap = H1 → s.vm.Alike t.vm → px u → BX E u t → H.size ≤ H1.size → (∀ q : Nat, q < H.size → ¬ AX q → H1[q]? = H[q]?) → va_S A0 H0 H1 locs1 → H1[q9]? = some ce → ce.vm = .none → s.vm.findClass E = some ce.cls → vx_W p l e R s m args below meth c H1 locs1 (cells + mc) (slots + ms) Q (F0 m pc ls rest) q9)
    (kk : ∀ (r : UInt32) (u : S) (t : State) (H1 : Heap) (locs1 : List Loc), t.heap = H1 → s.vm.Alike t.vm → post r u → B u t → H.size ≤ H1.size → (∀ q : Nat, q < H.size → ¬ A1 q → H1[q]? = H[q]?) → va_S A0 H0 H1 locs1 → W p l e R s m args below meth c H1 locs1 (cells + mc) (slots + ms) Q (F0 m (pc + 3) ls (.float r :: rest))) : W p l e R s m args below meth c H locs cells slots Q (F0 m pc ls st0) := by
  intro T hT X
  rcases hr T hT X with ⟨v, st₀, t, T', L, h0, X', hL, e1, e2, ⟨⟨r, u, hv, hp, hb⟩, hF⟩, st⟩ | ⟨q, st₀, t, T', L, E, ce, h0, X', hL, e1, e2, ⟨u, hp, hb, hF⟩, hce, hcv, hcl, st⟩
  · cases hv
    obtain ⟨k1, k2, k3⟩ := vx_keep h0 e1 hS hA hf hL hF
    obtain ⟨t2, a1, b1⟩ := kk r u t T'.heap (locs ++ L) e1.symm (by rw [← e2]; exact X'.warmed.alike) hp hb k1 k2 k3 T' rfl X'
    exact ⟨t2, st t2 a1, b1⟩
  · obtain ⟨k1, k2, k3⟩ := vx_keep h0 e1 hS hAX hf hL hF
    obtain ⟨t2, a1, b1⟩ := kx E ce q u t T'.heap (locs ++ L) e1.symm (by rw [← e2]; exact X'.warmed.alike) hp hb k1 k2 k3 (by rw [e1]; exact hce) hcv hcl T' rfl X'
    exact ⟨t2, st.trans a1, b1⟩
theorem vx_calld {S SX : Type} {post : UInt64 → S → Prop} {px : SX → Prop} {B : S → State → Prop} {BX : String → SX → State → Prop} {AX : Nat → Prop} (hr : vx_Run p l e R s m args below meth c H locs cells slots mc ms (F0 m pc ls st0) rest (va_Qd post B A1 a) (vx_X px BX AX) free) (hS : va_S A0 H0 H locs) (hA : ∀ q, q < H.size → A1 q → A0 q) (hf : ∀ q, free q → A0 q) (hAX : ∀ q, q < H.size → AX q → A0 q)
    (kx : ∀ (E : String) (ce : Cell) (q9 : Addr) (u : SX) (t : State) (H1 : Heap) (locs1 : List Loc), t.heap = H1 → s.vm.Alike t.vm → px u → BX E u t → H.size ≤ H1.size → (∀ q : Nat, q < H.size → ¬ AX q → H1[q]? = H[q]?) → va_S A0 H0 H1 locs1 → H1[q9]? = some ce → ce.vm = .none → s.vm.findClass E = some ce.cls → vx_W p l e R s m args below meth c H1 locs1 (cells + mc) (slots + ms) Q (F0 m pc ls rest) q9)
    (kk : ∀ (r : UInt64) (u : S) (t : State) (H1 : Heap) (locs1 : List Loc), t.heap = H1 → s.vm.Alike t.vm → post r u → B u t → H.size ≤ H1.size → (∀ q : Nat, q < H.size → ¬ A1 q → H1[q]? = H[q]?) → va_S A0 H0 H1 locs1 → W p l e R s m args below meth c H1 locs1 (cells + mc) (slots + ms) Q (F0 m (pc + 3) ls (.double r :: rest))) : W p l e R s m args below meth c H locs cells slots Q (F0 m pc ls st0) := by
  intro T hT X
  rcases hr T hT X with ⟨v, st₀, t, T', L, h0, X', hL, e1, e2, ⟨⟨r, u, hv, hp, hb⟩, hF⟩, st⟩ | ⟨q, st₀, t, T', L, E, ce, h0, X', hL, e1, e2, ⟨u, hp, hb, hF⟩, hce, hcv, hcl, st⟩
  · cases hv
    obtain ⟨k1, k2, k3⟩ := vx_keep h0 e1 hS hA hf hL hF
    obtain ⟨t2, a1, b1⟩ := kk r u t T'.heap (locs ++ L) e1.symm (by rw [← e2]; exact X'.warmed.alike) hp hb k1 k2 k3 T' rfl X'
    exact ⟨t2, st t2 a1, b1⟩
  · obtain ⟨k1, k2, k3⟩ := vx_keep h0 e1 hS hAX hf hL hF
    obtain ⟨t2, a1, b1⟩ := kx E ce q u t T'.heap (locs ++ L) e1.symm (by rw [← e2]; exact X'.warmed.alike) hp hb k1 k2 k3 (by rw [e1]; exact hce) hcv hcl T' rfl X'
    exact ⟨t2, st.trans a1, b1⟩
theorem vx_callv {S SX : Type} {post : S → Prop} {px : SX → Prop} {B : S → State → Prop} {BX : String → SX → State → Prop} {AX : Nat → Prop} (hr : vx_Run p l e R s m args below meth c H locs cells slots mc ms (F0 m pc ls st0) rest (va_Qv post B A1 a) (vx_X px BX AX) free) (hS : va_S A0 H0 H locs) (hA : ∀ q, q < H.size → A1 q → A0 q) (hf : ∀ q, free q → A0 q) (hAX : ∀ q, q < H.size → AX q → A0 q)
    (kx : ∀ (E : String) (ce : Cell) (q9 : Addr) (u : SX) (t : State) (H1 : Heap) (locs1 : List Loc), t.heap = H1 → s.vm.Alike t.vm → px u → BX E u t → H.size ≤ H1.size → (∀ q : Nat, q < H.size → ¬ AX q → H1[q]? = H[q]?) → va_S A0 H0 H1 locs1 → H1[q9]? = some ce → ce.vm = .none → s.vm.findClass E = some ce.cls → vx_W p l e R s m args below meth c H1 locs1 (cells + mc) (slots + ms) Q (F0 m pc ls rest) q9)
    (kk : ∀ (u : S) (t : State) (H1 : Heap) (locs1 : List Loc), t.heap = H1 → s.vm.Alike t.vm → post u → B u t → H.size ≤ H1.size → (∀ q : Nat, q < H.size → ¬ A1 q → H1[q]? = H[q]?) → va_S A0 H0 H1 locs1 → W p l e R s m args below meth c H1 locs1 (cells + mc) (slots + ms) Q (F0 m (pc + 3) ls (rest))) : W p l e R s m args below meth c H locs cells slots Q (F0 m pc ls st0) := by
  intro T hT X
  rcases hr T hT X with ⟨v, st₀, t, T', L, h0, X', hL, e1, e2, ⟨⟨u, hv, hp, hb⟩, hF⟩, st⟩ | ⟨q, st₀, t, T', L, E, ce, h0, X', hL, e1, e2, ⟨u, hp, hb, hF⟩, hce, hcv, hcl, st⟩
  · cases hv
    obtain ⟨k1, k2, k3⟩ := vx_keep h0 e1 hS hA hf hL hF
    obtain ⟨t2, a1, b1⟩ := kk u t T'.heap (locs ++ L) e1.symm (by rw [← e2]; exact X'.warmed.alike) hp hb k1 k2 k3 T' rfl X'
    exact ⟨t2, st t2 a1, b1⟩
  · obtain ⟨k1, k2, k3⟩ := vx_keep h0 e1 hS hAX hf hL hF
    obtain ⟨t2, a1, b1⟩ := kx E ce q u t T'.heap (locs ++ L) e1.symm (by rw [← e2]; exact X'.warmed.alike) hp hb k1 k2 k3 (by rw [e1]; exact hce) hcv hcl T' rfl X'
    exact ⟨t2, st.trans a1, b1⟩
/-- caught by the row x of this method's table; the rows ahead don't take it -/
theorem vx_catch {own name : String} {E : String} {ce : Cell} {q : Addr} (hown : s.vm.findClass own = some m.cls) (pre : List ExceptionTableEntry) (x : ExceptionTableEntry) (suf : List ExceptionTableEntry) (hsplit : c.exceptionTable.toList = pre ++ x :: suf)
    (hpass : ∀ z ∈ pre, covers z pc = false ∨ (z.catchType ≠ 0 ∧ ∃ nm : String, (Cond.classLink own z.catchType nm).before args s = true ∧ va_Nc E nm s)) (hx : covers x pc = true) (h0 : x.catchType ≠ 0)
    (hlink : (Cond.classLink own x.catchType name).before args s = true) (hcast : (Cond.castable E name).before args s = true) (hcell : H[q]? = some ce) (hv : ce.vm = .none) (hcl : s.vm.findClass E = some ce.cls)
    (kk : W p l e R s m args below meth c H locs cells slots Q (F0 m x.handlerPc ls [.ref q])) : vx_W p l e R s m args below meth c H locs cells slots Q (F0 m pc ls rest) q := by
  intro T hT X
  have hpl : e.platform.magicAccessors = ({} : Platform).magicAccessors := by rw [X.admits.platform]
  obtain ⟨c3, c4, hc3, hc4, hasg⟩ := Cond.castable_spec hcast
  cases Option.some.inj (hc3.symm.trans hcl)
  obtain ⟨c5, hc5, hcl5⟩ := Cond.classLink_spec hown hlink e.platform hpl
  cases Option.some.inj (hc4.symm.trans hc5)
  obtain ⟨vm', X', st⟩ := X.thenCaughtThrough q (g := F0 m pc ls rest) rfl (Steps.refl _) (by rw [hT]; exact hcell) (by rw [hv]; rfl) (by obtain ⟨k9, h9, -⟩ := Vm.findClass_spec hcl; exact ⟨k9, h9⟩) pre x suf hsplit
    (fun z hz => by
      rcases hpass z hz with h | ⟨hz0, nm, hl1, hn1⟩
      · exact Or.inl h
      · obtain ⟨c6, hc6, hcl6⟩ := Cond.classLink_spec hown hl1 e.platform hpl
        obtain ⟨a8, b8, h1, h2, h3⟩ := hn1
        cases Option.some.inj (h1.symm.trans hcl)
        cases Option.some.inj (h2.symm.trans hc6)
        exact Or.inr ⟨hz0, _, hcl6, h3⟩) hx (Or.inr ⟨h0, c4, hcl5, hasg⟩)
  obtain ⟨t, a1, b1⟩ := kk (T.setVm vm') hT X'
  exact ⟨t, st.trans a1, b1⟩
end Rows
section Ends
variable {p : Program} {l : Launch} {e : Env} {R : Room} {s : State} {m : MethodId} {args : Array Value} {below : List Frame} {meth : Method} {c : Code} {H : Heap} {locs : List Loc} {cells slots : Nat} {Q : State → Prop}
variable {mc ms : Nat} {free : Addr → Prop} {A0 A1 : Nat → Prop} {H0 : Heap} {a : Array Value} {ls : Array Slot} {st0 rest : List Value}
variable {Qc : Array Value → State → Outcome → State → Prop} {XC : String → State → State → Prop}
/-- what a body that may throw owes at its end -/
def vx_MQ (below : List Frame) (Qc : Array Value → State → Outcome → State → Prop) (XC : String → State → State → Prop) (a : Array Value) (s : State) (mc ms : Nat) (free : Addr → Prop) : State → Prop := fun t =>
  ∃ o, t.status = .running ∧ Ended t below o ∧ vx_Q Qc XC mc ms free a s o t
theorem vx_ret {g : JFrame} {mc ms : Nat} (k : W p l e R s m args below meth c H locs cells slots (MQ below Qc args s mc ms free) g) : W p l e R s m args below meth c H locs cells slots (vx_MQ below Qc XC args s mc ms free) g := by
  intro T hT X
  obtain ⟨t, a1, o, b1, b2, b3, b4⟩ := k T hT X
  exact ⟨t, a1, o, b1, b2, Or.inl ⟨b3, b4⟩⟩
/-- not caught here: it goes on to the caller -/
theorem vx_widen {g : JFrame} {q : Addr} {k n : Nat} (h1 : cells ≤ k) (h2 : slots ≤ n) (kk : vx_W p l e R s m args below meth c H locs k n Q g q) : vx_W p l e R s m args below meth c H locs cells slots Q g q := fun T hT X => kk T hT (stand_widen X h1 h2)
theorem vx_out {pc : Nat} {E : String} {ce : Cell} {q : Addr} {mc ms : Nat} (hout : ∀ x ∈ c.exceptionTable.toList, covers x pc = false) (hlocks : meth.locks = false) (hcell : H[q]? = some ce) (hv : ce.vm = .none) (hcl : s.vm.findClass E = some ce.cls)
    (hx : ∀ t : State, t.heap = H → s.vm.Alike t.vm → XC E s t) (hf : ∀ z ∈ locs, free z.base) (hc : cells ≤ mc) (hs : slots ≤ ms) :
    vx_W p l e R s m args below meth c H locs cells slots (vx_MQ below Qc XC args s mc ms free) (F0 m pc ls rest) q := by
  intro T hT X
  obtain ⟨st1, hrun, hend, hW, hsm⟩ := X.leaveThrown q (g := F0 m pc ls rest) rfl rfl rfl hout hlocks
  have hcell9 : (T.setFrames (.throwing q :: below)).heap[q]? = some ce := by
    show T.heap[q]? = some ce
    rw [hT]; exact hcell
  exact ⟨_, st1, .threw q, hrun, hend, Or.inr ⟨q, rfl, E, ce, locs, hx _ hT hW.alike, hcell9, hv, hcl, hW, hsm.mono hc hs, hf⟩⟩
theorem vx_frame {U : State} {k n : Nat} (h : s.sameButNew ({ U with vm := s.vm } : State) locs k n) : s.heap.size ≤ U.heap.size ∧ ∀ q : Nat, q < s.heap.size → (∀ z ∈ locs, z.base ≠ q) → U.heap[q]? = s.heap[q]? := by
  obtain ⟨-, h2, -, -, -, h6⟩ := h
  refine ⟨h2, fun q hq hz => ?_⟩
  obtain ⟨c9, e1, e2, e3, e4⟩ := h6 q _ (Array.getElem?_eq_getElem hq)
  have hs : c9.slots = (s.heap[q]).slots := Array.ext_getElem? fun i => e4 i fun hm => hz _ hm rfl
  have h9 : c9 = s.heap[q] := by
    rw [hs] at e2
    exact e2
  have e5 : U.heap[q]? = some c9 := e1
  rw [e5, h9, Array.getElem?_eq_getElem hq]
/-- the words of a throw but the four that speak of the heap -/
def vx_no (w : Cond) : Bool := decide (w ≠ .isRef (.static Bundle.tN "UNASSIGNED_STACK" Bundle.steD)) && decide (w ≠ .isRef (.static Bundle.tN "SUPPRESSED_SENTINEL" Bundle.listD)) && decide (w ≠ .laysStatic Bundle.tN "UNASSIGNED_STACK" Bundle.steD) && decide (w ≠ .laysStatic Bundle.tN "SUPPRESSED_SENTINEL" Bundle.listD)
def vx_at0 (own : String) (ic : Nat) (X : String) (names : List String) : List Cond := (Bundle.ownAtoms0 own ic X names).filter vx_no
def vx_atS (own : String) (ic : Nat) (X : String) (names : List String) : List Cond := (Bundle.ownAtoms own ic X names).filter vx_no
/-- a word that the tables alone decide, or a good one -/
def vx_ot (w : Cond) : Bool := w.onTables || goodWord w
theorem vx_ot_at {args a' : Array Value} {s U : State} {w : Cond} (hW : s.WarmedH U.vm) (hvm : s.vm = U.vm) (hg : vx_ot w = true) (h : w.before args s = true) : w.before a' U = true := by
  simp only [vx_ot, Bool.or_eq_true] at hg
  rcases hg with hg | hg
  · exact va_tabs hg hvm h
  · exact word_at hW (good_of_word hg) h
/-- a list's words: the good ones out of the method's own list, the others by premises of their own -/
theorem vx_hat {args : Array Value} {s : State} {L B : List Cond} (h1 : ∀ w ∈ L.filter goodWord, w.before args s = true) (h2 : ∀ w ∈ L.filter (fun w => !goodWord w), w ∈ B) (h3 : ∀ w ∈ B, w.before args s = true) : ∀ w ∈ L, w.before args s = true := by
  intro w hw
  by_cases g : goodWord w = true
  · exact h1 w (List.mem_filter.mpr ⟨hw, g⟩)
  · refine h3 w (h2 w (List.mem_filter.mpr ⟨hw, ?_⟩))
    show (!goodWord w) = true
    cases hgw : goodWord w
    · rfl
    · exact absurd hgw g
theorem vx_c {args : Array Value} {s : State} {w : Cond} {B : List Cond} (h : w.before args s = true) (t : ∀ w ∈ B, w.before args s = true) : ∀ w' ∈ w :: B, w'.before args s = true := fun w' h' => (List.mem_cons.mp h').elim (fun e => by rw [e]; exact h) (t w')
theorem vx_n {args : Array Value} {s : State} : ∀ w ∈ ([] : List Cond), w.before args s = true := fun _ h => nomatch h
theorem vx_own {args : Array Value} {s : State} {L : List Cond} (h1 : ∀ w ∈ L.filter vx_no, w.before args s = true)
    (hU : (Cond.isRef (.static Bundle.tN "UNASSIGNED_STACK" Bundle.steD)).before args s = true) (hN : (Cond.isRef (.static Bundle.tN "SUPPRESSED_SENTINEL" Bundle.listD)).before args s = true)
    (lU : (Cond.laysStatic Bundle.tN "UNASSIGNED_STACK" Bundle.steD).before args s = true) (lN : (Cond.laysStatic Bundle.tN "SUPPRESSED_SENTINEL" Bundle.listD).before args s = true) : ∀ w ∈ L, w.before args s = true := by
  intro w hw
  by_cases e1 : w = .isRef (.static Bundle.tN "UNASSIGNED_STACK" Bundle.steD)
  · rw [e1]; exact hU
  · by_cases e2 : w = .isRef (.static Bundle.tN "SUPPRESSED_SENTINEL" Bundle.listD)
    · rw [e2]; exact hN
    · by_cases e3 : w = .laysStatic Bundle.tN "UNASSIGNED_STACK" Bundle.steD
      · rw [e3]; exact lU
      · by_cases e4 : w = .laysStatic Bundle.tN "SUPPRESSED_SENTINEL" Bundle.listD
        · rw [e4]; exact lN
        · exact h1 w (List.mem_filter.mpr ⟨hw, by unfold vx_no; rw [decide_eq_true e1, decide_eq_true e2, decide_eq_true e3, decide_eq_true e4]; rfl⟩)
/-- where a static field lies, its class's statics cell in H -/
def vx_L (C n d : String) (A : Nat → Prop) (U : State) (H : Heap) : Prop := ∃ (c : ClassId) (k : Class) (i : Nat) (f : Field) (a : Nat) (cell : Cell), U.vm.findClass C = some c ∧ U.fieldFound? C n d = some (c, k, i, f) ∧ f.isStatic = true ∧ k.statics = some a ∧ H[a]? = some cell ∧ cell.vm.isStatics = true ∧ cell.cls = c ∧ f.slot < cell.slots.size ∧ k.staticTypes[f.slot]? = some f.type ∧ ¬ A a
theorem vx_L.moved {C n d : String} {A : Nat → Prop} {u U : State} {H : Heap} (hvm : u.vm.Alike U.vm) (h : vx_L C n d A u H) : vx_L C n d A U H := by
  obtain ⟨c, k, i, f, a, cell, h1, h2, h3, h4, h5, h6, h7, h8, h9, h10⟩ := h
  obtain ⟨k', hi', he⟩ := State.fieldFound?_setVm hvm h2
  exact ⟨c, k', i, f, a, cell, by rw [hvm.findClass]; exact h1, hi', h3, by rw [he]; exact h4, h5, h6, h7, h8, by rw [he]; exact h9, h10⟩
theorem vx_L.kept {C n d : String} {A : Nat → Prop} {U : State} {H H1 : Heap} (h : vx_L C n d A U H) (hq : ∀ a : Nat, a < H.size → ¬ A a → H1[a]? = H[a]?) : vx_L C n d A U H1 := by
  obtain ⟨c, k, i, f, a, cell, h1, h2, h3, h4, h5, h6, h7, h8, h9, h10⟩ := h
  exact ⟨c, k, i, f, a, cell, h1, h2, h3, h4, by rw [hq a (Array.getElem?_eq_some_iff.mp h5).1 h10]; exact h5, h6, h7, h8, h9, h10⟩
theorem vx_L.narrow {C n d : String} {A B : Nat → Prop} {U : State} {H : Heap} (h : vx_L C n d A U H) (hAB : ∀ q, B q → A q) : vx_L C n d B U H := by
  obtain ⟨c, k, i, f, a, cell, h1, h2, h3, h4, h5, h6, h7, h8, h9, h10⟩ := h
  exact ⟨c, k, i, f, a, cell, h1, h2, h3, h4, h5, h6, h7, h8, h9, fun z => h10 (hAB _ z)⟩
theorem vx_L.word {C n d : String} {A : Nat → Prop} {s : State} {args : Array Value} (h : vx_L C n d A s s.heap) : (Cond.laysStatic C n d).before args s = true := by
  obtain ⟨c, k, i, f, a, cell, h1, h2, h3, h4, h5, h6, h7, h8, h9, -⟩ := h
  show (Cond.laysStatic C n d).holds args s none s [] = true
  exact Cond.laysStatic_of h1 h2 h3 h4 h5 h6 h7 h8 h9
/-- .. and what it holds: null or some reference -/
def vx_Zq (C n d : String) (A : Nat → Prop) (U : State) (H : Heap) : Prop := va_Zq C n d A U H ∧ vx_L C n d A U H
theorem vx_Zq.moved {C n d : String} {A : Nat → Prop} {u U : State} {H : Heap} (hvm : u.vm.Alike U.vm) (h : vx_Zq C n d A u H) : vx_Zq C n d A U H := ⟨va_Zq.moved hvm h.1, vx_L.moved hvm h.2⟩
theorem vx_Zq.kept {C n d : String} {A : Nat → Prop} {U : State} {H H1 : Heap} (h : vx_Zq C n d A U H) (hq : ∀ a : Nat, a < H.size → ¬ A a → H1[a]? = H[a]?) : vx_Zq C n d A U H1 := ⟨va_Zq.kept h.1 hq, vx_L.kept h.2 hq⟩
theorem vx_Zq.narrow {C n d : String} {A B : Nat → Prop} {U : State} {H : Heap} (h : vx_Zq C n d A U H) (hAB : ∀ q, B q → A q) : vx_Zq C n d B U H := ⟨va_Zq.narrow h.1 hAB, vx_L.narrow h.2 hAB⟩
theorem vx_Zqof {args : Array Value} {s : State} {C n d : String} {A : Nat → Prop} (hl : (Cond.laysStatic C n d).before args s = true) (hini : (Cond.initialized C).before args s = true) (h : (Cond.isRef (.static C n d)).before args s = true) (hA : ∀ a : Nat, a < s.heap.size → ¬ A a) : vx_Zq C n d A s s.heap := by
  refine ⟨va_Zqof hl hini h hA, ?_⟩
  obtain ⟨c, k, i, f, a, cell, h1, h2, h3, h4, h5, h6, h7, h8, h9⟩ := Cond.laysStatic_spec hl
  exact ⟨c, k, i, f, a, cell, h1, h2, h3, h4, h5, h6, h7, h8, h9, hA a (Array.getElem?_eq_some_iff.mp h5).1⟩
theorem vx_isRef {C n d : String} {v : Value} {A : Nat → Prop} {s : State} {args : Array Value} (h : va_Z C n d v A s s.heap) (hv : v.isRef = true) : (Cond.isRef (.static C n d)).before args s = true := by
  obtain ⟨cf, kf, fi, f, a, cell, h1, h2, h3, h4, h5, h6, h7, -⟩ := h
  have he : (Term.static C n d).eval args s none [] s = some v := by
    simp [Term.eval, State.fieldNamed?, h1, h2, h4, h5, h6, h7]
  simp only [Cond.before, Cond.holds, Cond.value, he]
  cases v <;> simp_all [Value.isRef]
theorem vx_isRefq {C n d : String} {A : Nat → Prop} {s : State} {args : Array Value} (h : va_Zq C n d A s s.heap) : (Cond.isRef (.static C n d)).before args s = true := by
  rcases h with h | ⟨t, h⟩
  · exact vx_isRef h rfl
  · exact vx_isRef h rfl
/-- the same frame, seen from here: as if the method were called anew in this heap -/
theorem vx_rebase {T : State} (X : Stand p l e R s m args below meth c T locs cells slots) {R' : Room} (hf : R'.frames ≤ R.frames) (hl : R'.locals ≤ R.locals) (hc : cells + R'.cells ≤ R.cells) (hs : slots + R'.slots ≤ R.slots) :
    Stand p l e R' ((T.setVm s.vm).setFrames (.invoking m args :: below)) m args below meth c T [] 0 0 := by
  have htop : (T.setVm s.vm).topJava?.isSome := X.here.top
  have hF : ((T.setVm s.vm).setFrames (.invoking m args :: below)).frames = .invoking m args :: below := State.frames_setFrames _ (State.cur_lt_of_top htop)
  obtain ⟨g₀, hg0⟩ := Option.isSome_iff_exists.mp htop
  obtain ⟨r, hr⟩ := State.topJava?_eq_some.mp hg0
  have hl9 : e.platform.stackLimits (T.setVm s.vm).me = e.platform.stackLimits s.me := X.limits
  have hb9 : (T.setVm s.vm).me.stackBytes = s.me.stackBytes := X.bytes
  refine ⟨X.admits, X.cas, X.clock, hF, ?_, X.hears, X.method, X.code, X.here, X.tail, X.warmed, ?_, ?_, ?_⟩
  · have h := X.room
    have hU : ((T.setVm s.vm).setFrames (.invoking m args :: below)).localsInUse = s.localsInUse := by
      rw [State.localsInUse_invoking hF (meth := meth) (c := c) X.method X.code, State.localsInUse_invoking X.frames X.method X.code]
    simp only [State.hasRoom, Bool.and_eq_true, decide_eq_true_eq] at h ⊢
    obtain ⟨⟨⟨⟨h1, h2, h3, h4, h5, h6⟩, h7⟩, h8⟩, h9⟩ := h
    rw [X.frames, List.length_cons] at h2 h3
    have q1 := X.heapSize
    have q2 := X.used
    simp only [hF, hU, List.length_cons, State.stackLimits_setFrames, State.stackBytes_setFrames, hl9, hb9]
    refine ⟨⟨⟨⟨by omega, by omega, by omega, by omega, by omega, h6⟩, ?_⟩, ?_⟩, X.book⟩
    · show T.heap.size + R'.cells ≤ e.platform.maxCells
      omega
    · show T.slotsUsed + R'.slots ≤ e.platform.maxSlots
      omega
  · rw [State.stackLimits_setFrames]; rfl
  · rw [State.stackBytes_setFrames]; rfl
  · refine ⟨?_, Nat.le_refl _, Nat.le_refl _, ?_, ?_, fun a c9 h9 => ⟨c9, h9, rfl, rfl, fun _ _ => rfl⟩⟩
    · obtain ⟨t, ht, -⟩ := State.frames_cons hr
      show T.setVm s.vm = { ((T.setVm s.vm).setFrames (.invoking m args :: below)).setFrames (T.setVm s.vm).frames with heap := T.heap, slotsUsed := T.slotsUsed }
      rw [State.setFrames_setFrames, State.setFrames_self ht]
      rfl
    · show T.slotsUsed = T.slotsUsed + ((T.heap.toList.drop T.heap.size).map (·.slots.size)).sum
      rw [List.drop_eq_nil_of_le (Nat.le_of_eq Array.length_toList)]
      rfl
    · show ((T.heap.toList.drop T.heap.size).map (·.slots.size)).sum ≤ 0
      rw [List.drop_eq_nil_of_le (Nat.le_of_eq Array.length_toList)]
      exact Nat.le_refl _
/-- 'throw new E()': new; dup; invokespecial; athrow -/
theorem vx_throw0 {cc : ByteArray} {pc : Nat} (hexec : p.tables.exec = Jvm.exec) (hb : c.code = cc) (hl : l.stackTraces = false) {own cls : String} {names : List String} {ik ic mc ms : Nat} {A : Nat → Prop}
    (hown : s.vm.findClass own = some m.cls) (hcls : Bundle.fit cls = true) (hnames : ∀ n ∈ names, Bundle.fit n = true)
    (hk : (Cond.classLink own ik cls).before args s = true) (hini : (Cond.initialized cls).before args s = true) (hat : ∀ w ∈ vx_at0 own ic cls names, w.before args s = true)
    (hgood : ∀ w ∈ Cond.classLink own ik cls :: Cond.initialized cls :: vx_at0 own ic cls names, vx_ot w = true)
    (hU : vx_Zq Bundle.tN "UNASSIGNED_STACK" Bundle.steD A s s.heap) (hN : vx_Zq Bundle.tN "SUPPRESSED_SENTINEL" Bundle.listD A s s.heap) (hS : va_S A s.heap H locs) (hsize : ls.size = c.maxLocals)
    (d0 : decode cc pc = .ok (.new ik, 3)) (d3 : decode cc (pc + 3) = .ok (.dup, 1)) (d4 : decode cc (pc + 4) = .ok (.invokespecial ic, 3)) (d7 : decode cc (pc + 7) = .ok (.athrow, 1))
    (hout : ∀ x ∈ c.exceptionTable.toList, covers x (pc + 7) = false)
    (hRframes : names.length + 3 < R.frames) (hRlocals : (rest.map fun v => v.category).sum + (13 * (names.length + 1) + 42) ≤ R.locals) (hRcells : cells + 1 ≤ R.cells) (hRslots : slots + 6 ≤ R.slots) (hlocks : meth.locks = false)
    (hx : ∀ t : State, s.vm.Alike t.vm → H.size ≤ t.heap.size → (∀ q : Nat, q < H.size → t.heap[q]? = H[q]?) → XC cls s t)
    (hf : ∀ z ∈ locs, free z.base) (hc : cells + 1 ≤ mc) (hs : slots + 6 ≤ ms) :
    W p l e R s m args below meth c H locs cells slots (vx_MQ below Qc XC args s mc ms free) (F0 m pc ls rest) := by
  intro T hT X
  have htr : e.platform.stackTraces = false := (show e.platform.stackTraces = l.stackTraces by rw [X.admits.platform]).trans hl
  have Y := vx_rebase X (R' := { frames := R.frames, locals := R.locals, cells := 1, slots := 6 }) (Nat.le_refl _) (Nat.le_refl _) hRcells hRslots
  obtain ⟨s', hA⟩ : ∃ z, z = (T.setVm s.vm).setFrames (.invoking m args :: below) := ⟨_, rfl⟩
  rw [← hA] at Y
  have hvm : s'.vm = s.vm := by rw [hA]; rfl
  have hhp : s'.heap = H := by rw [hA]; exact hT
  have hW0 : s.WarmedH s'.vm := by rw [hvm]; exact State.WarmedH.refl s
  have hat' : ∀ w ∈ vx_at0 own ic cls names, w.before args s' = true := fun w hw => vx_ot_at hW0 hvm.symm (hgood w (List.mem_cons_of_mem _ (List.mem_cons_of_mem _ hw))) (hat w hw)
  have hk' : (Cond.classLink own ik cls).before args s' = true := vx_ot_at hW0 hvm.symm (hgood _ List.mem_cons_self) hk
  have hini' : (Cond.initialized cls).before args s' = true := vx_ot_at hW0 hvm.symm (hgood _ (List.mem_cons_of_mem _ List.mem_cons_self)) hini
  have hU' : vx_Zq Bundle.tN "UNASSIGNED_STACK" Bundle.steD A s' s'.heap := by rw [hhp]; exact vx_Zq.moved hW0.alike (hU.kept hS.2.1)
  have hN' : vx_Zq Bundle.tN "SUPPRESSED_SENTINEL" Bundle.listD A s' s'.heap := by rw [hhp]; exact vx_Zq.moved hW0.alike (hN.kept hS.2.1)
  have h : ∀ w ∈ Bundle.ownAtoms0 own ic cls names, w.before args s' = true := vx_own hat' (vx_isRefq hU'.1) (vx_isRefq hN'.1) hU'.2.word hN'.2.word
  have hown' : s'.vm.findClass own = some m.cls := by rw [hvm]; exact hown
  have hins : (Cond.instantiable cls 6).before args s' = true := h _ (by simp [Bundle.ownAtoms0])
  obtain ⟨vm₁, cX, kX, hfX, hkX, -, -, X₁, st1⟩ := Y.newCold hexec (own := own) (C := cls) (index := ik) (n := 6) hown' hk' hins hini'
    (g := F0 m pc ls rest) rfl (by rw [hb]; exact d0) (Nat.le_refl _) (Nat.le_refl _)
  generalize hT1 : (T.setVm vm₁).pushCell { cls := cX, slots := kX.instanceTypes.map defaultValue, vm := .none } = T1 at X₁ st1
  have hcat : (Value.ref T.heap.size).category = 1 := rfl
  have hcellA : T1.heap[T.heap.size]? = some (freshCell cX kX) := by rw [← hT1]; exact State.heap_pushCell_size _ _
  have d3' : decode c.code (pc + 3) = .ok (.dup, 1) := by rw [hb]; exact d3
  obtain ⟨U, hsteps, hrun, hend, hW, hsame, ce, hce, hO⟩ := X₁.ctorThrow0 hexec htr (own := own) (cls := cls) (names := names) (ic := ic) hown' hcls hnames h (fun x hx => nomatch hx) hfX hkX hcellA (by rw [hhp, hT]; exact Nat.le_refl _)
    (g := { method := m, pc := pc + 4, locals := ls, stack := .ref T.heap.size :: .ref T.heap.size :: rest, locked := none }) rfl hsize rfl rfl (rest := rest) rfl
    (by rw [hb]; exact d4) (by rw [hb]; exact d7) hout hRframes (by simp only [List.map_cons, List.sum_cons, hcat]; omega) hlocks
  obtain ⟨f1, f2⟩ := vx_frame hsame
  rw [hhp] at f1 f2
  have hWs : s.WarmedH U.vm := State.WarmedH.trans hW0 hW
  have hcl : s.vm.findClass cls = some ce.cls := by
    have h9 := hO.cls
    rw [hvm] at h9
    exact h9
  have hall : s.sameButNew ({ U with vm := s.vm } : State) locs mc ms := by
    subst hA
    obtain ⟨e1, e2⟩ := hsame
    rw [State.setFrames_setFrames] at e1
    have h2 : (T.setVm s.vm).sameButNew ({ U with vm := s.vm } : State) [] (0 + 1) (0 + 6) := ⟨e1, e2⟩
    have h3 := X.same.trans h2
    rw [List.append_nil] at h3
    exact h3.mono hc hs
  refine ⟨U, ?_, .threw T.heap.size, hrun, hend, Or.inr ⟨T.heap.size, rfl, cls, ce, locs, hx U hWs.alike f1 (fun q hq => f2 q hq (fun z hz => nomatch hz)), hce, hO.vm, hcl, hWs, hall, hf⟩⟩
  refine st1 _ ?_
  show Steps p.tables e below (T1.setTop { method := m, pc := pc + 3, locals := ls, stack := .ref T.heap.size :: rest, locked := none }) _
  jvm_step X₁.here [X₁.here.top, hexec, d3', Value.category]
  exact hsteps
/-- 'throw new E("text")': new; dup; ldc; invokespecial; athrow -/
theorem vx_throwS {cc : ByteArray} {pc : Nat} (hexec : p.tables.exec = Jvm.exec) (hb : c.code = cc) (hl : l.stackTraces = false) {own cls text : String} {names : List String} {ik is ic mc ms sa : Nat} {A : Nat → Prop}
    (hown : s.vm.findClass own = some m.cls) (hcls : Bundle.fit cls = true) (hnames : ∀ n ∈ names, Bundle.fit n = true)
    (hk : (Cond.classLink own ik cls).before args s = true) (hini : (Cond.initialized cls).before args s = true) (hstr : vk_R own is text sa s) (hat : ∀ w ∈ vx_atS own ic cls names, w.before args s = true)
    (hgood : ∀ w ∈ Cond.classLink own ik cls :: Cond.initialized cls :: vx_atS own ic cls names, vx_ot w = true)
    (hU : vx_Zq Bundle.tN "UNASSIGNED_STACK" Bundle.steD A s s.heap) (hN : vx_Zq Bundle.tN "SUPPRESSED_SENTINEL" Bundle.listD A s s.heap) (hS : va_S A s.heap H locs) (hsize : ls.size = c.maxLocals)
    (d0 : decode cc pc = .ok (.new ik, 3)) (d3 : decode cc (pc + 3) = .ok (.dup, 1)) (d4 : decode cc (pc + 4) = .ok (.ldc is, 2)) (d6 : decode cc (pc + 6) = .ok (.invokespecial ic, 3)) (d9 : decode cc (pc + 9) = .ok (.athrow, 1))
    (hout : ∀ x ∈ c.exceptionTable.toList, covers x (pc + 9) = false)
    (hRframes : names.length + 3 < R.frames) (hRlocals : (rest.map fun v => v.category).sum + (13 * (names.length + 1) + 43) ≤ R.locals) (hRcells : cells + 1 ≤ R.cells) (hRslots : slots + 6 ≤ R.slots) (hlocks : meth.locks = false)
    (hx : ∀ t : State, s.vm.Alike t.vm → H.size ≤ t.heap.size → (∀ q : Nat, q < H.size → t.heap[q]? = H[q]?) → XC cls s t)
    (hf : ∀ z ∈ locs, free z.base) (hc : cells + 1 ≤ mc) (hs : slots + 6 ≤ ms) :
    W p l e R s m args below meth c H locs cells slots (vx_MQ below Qc XC args s mc ms free) (F0 m pc ls rest) := by
  intro T hT X
  have htr : e.platform.stackTraces = false := (show e.platform.stackTraces = l.stackTraces by rw [X.admits.platform]).trans hl
  have Y := vx_rebase X (R' := { frames := R.frames, locals := R.locals, cells := 1, slots := 6 }) (Nat.le_refl _) (Nat.le_refl _) hRcells hRslots
  obtain ⟨s', hA⟩ : ∃ z, z = (T.setVm s.vm).setFrames (.invoking m args :: below) := ⟨_, rfl⟩
  rw [← hA] at Y
  have hvm : s'.vm = s.vm := by rw [hA]; rfl
  have hhp : s'.heap = H := by rw [hA]; exact hT
  have hW0 : s.WarmedH s'.vm := by rw [hvm]; exact State.WarmedH.refl s
  have hat' : ∀ w ∈ vx_atS own ic cls names, w.before args s' = true := fun w hw => vx_ot_at hW0 hvm.symm (hgood w (List.mem_cons_of_mem _ (List.mem_cons_of_mem _ hw))) (hat w hw)
  have hk' : (Cond.classLink own ik cls).before args s' = true := vx_ot_at hW0 hvm.symm (hgood _ List.mem_cons_self) hk
  have hini' : (Cond.initialized cls).before args s' = true := vx_ot_at hW0 hvm.symm (hgood _ (List.mem_cons_of_mem _ List.mem_cons_self)) hini
  have hU' : vx_Zq Bundle.tN "UNASSIGNED_STACK" Bundle.steD A s' s'.heap := by rw [hhp]; exact vx_Zq.moved hW0.alike (hU.kept hS.2.1)
  have hN' : vx_Zq Bundle.tN "SUPPRESSED_SENTINEL" Bundle.listD A s' s'.heap := by rw [hhp]; exact vx_Zq.moved hW0.alike (hN.kept hS.2.1)
  have h : ∀ w ∈ Bundle.ownAtoms own ic cls names, w.before args s' = true := vx_own hat' (vx_isRefq hU'.1) (vx_isRefq hN'.1) hU'.2.word hN'.2.word
  have hown' : s'.vm.findClass own = some m.cls := by rw [hvm]; exact hown
  have hins : (Cond.instantiable cls 6).before args s' = true := h _ (by simp [Bundle.ownAtoms])
  obtain ⟨vm₁, cX, kX, hfX, hkX, -, -, X₁, st1⟩ := Y.newCold hexec (own := own) (C := cls) (index := ik) (n := 6) hown' hk' hins hini'
    (g := F0 m pc ls rest) rfl (by rw [hb]; exact d0) (Nat.le_refl _) (Nat.le_refl _)
  generalize hT1 : (T.setVm vm₁).pushCell { cls := cX, slots := kX.instanceTypes.map defaultValue, vm := .none } = T1 at X₁ st1
  have hcat : (Value.ref T.heap.size).category = 1 := rfl
  have hcellA : T1.heap[T.heap.size]? = some (freshCell cX kX) := by rw [← hT1]; exact State.heap_pushCell_size _ _
  have d3' : decode c.code (pc + 3) = .ok (.dup, 1) := by rw [hb]; exact d3
  have d4' : decode c.code (pc + 4) = .ok (.ldc is, 2) := by rw [hb]; exact d4
  have hstr' : vk_R own is text sa s' := vk_R.warm hW0 hstr
  obtain ⟨U, hsteps, hrun, hend, hW, hsame, ce, hce, hO⟩ := X₁.ctorThrowS hexec htr (own := own) (cls := cls) (names := names) (ic := ic) hown' hcls hnames h (fun x hx => nomatch hx) hfX hkX hcellA (by rw [hhp, hT]; exact Nat.le_refl _) (msg := .ref sa) rfl
    (g := { method := m, pc := pc + 6, locals := ls, stack := .ref sa :: .ref T.heap.size :: .ref T.heap.size :: rest, locked := none }) rfl hsize rfl rfl (rest := rest) rfl
    (by rw [hb]; exact d6) (by rw [hb]; exact d9) hout hRframes (by simp only [List.map_cons, List.sum_cons, hcat]; omega) hlocks
  obtain ⟨f1, f2⟩ := vx_frame hsame
  rw [hhp] at f1 f2
  have hWs : s.WarmedH U.vm := State.WarmedH.trans hW0 hW
  have hcl : s.vm.findClass cls = some ce.cls := by
    have h9 := hO.cls
    rw [hvm] at h9
    exact h9
  have hall : s.sameButNew ({ U with vm := s.vm } : State) locs mc ms := by
    subst hA
    obtain ⟨e1, e2⟩ := hsame
    rw [State.setFrames_setFrames] at e1
    have h2 : (T.setVm s.vm).sameButNew ({ U with vm := s.vm } : State) [] (0 + 1) (0 + 6) := ⟨e1, e2⟩
    have h3 := X.same.trans h2
    rw [List.append_nil] at h3
    exact h3.mono hc hs
  refine ⟨U, ?_, .threw T.heap.size, hrun, hend, Or.inr ⟨T.heap.size, rfl, cls, ce, locs, hx U hWs.alike f1 (fun q hq => f2 q hq (fun z hz => nomatch hz)), hce, hO.vm, hcl, hWs, hall, hf⟩⟩
  refine st1 _ ?_
  show Steps p.tables e below (T1.setTop { method := m, pc := pc + 3, locals := ls, stack := .ref T.heap.size :: rest, locked := none }) _
  jvm_step X₁.here [X₁.here.top, hexec, d3', Value.category]
  exact X₁.ldcString hexec (own := own) (text := text) (index := is) (a := sa) hown' hstr'.1 hstr'.2
    (g := { method := m, pc := pc + 4, locals := ls, stack := .ref T.heap.size :: .ref T.heap.size :: rest, locked := none }) rfl d4' _ hsteps
/-- 'throw new E("text")', the text by a wide index -/
theorem vx_throwSW {cc : ByteArray} {pc : Nat} (hexec : p.tables.exec = Jvm.exec) (hb : c.code = cc) (hl : l.stackTraces = false) {own cls text : String} {names : List String} {ik is ic mc ms sa : Nat} {A : Nat → Prop}
    (hown : s.vm.findClass own = some m.cls) (hcls : Bundle.fit cls = true) (hnames : ∀ n ∈ names, Bundle.fit n = true)
    (hk : (Cond.classLink own ik cls).before args s = true) (hini : (Cond.initialized cls).before args s = true) (hstr : vk_R own is text sa s) (hat : ∀ w ∈ vx_atS own ic cls names, w.before args s = true)
    (hgood : ∀ w ∈ Cond.classLink own ik cls :: Cond.initialized cls :: vx_atS own ic cls names, vx_ot w = true)
    (hU : vx_Zq Bundle.tN "UNASSIGNED_STACK" Bundle.steD A s s.heap) (hN : vx_Zq Bundle.tN "SUPPRESSED_SENTINEL" Bundle.listD A s s.heap) (hS : va_S A s.heap H locs) (hsize : ls.size = c.maxLocals)
    (d0 : decode cc pc = .ok (.new ik, 3)) (d3 : decode cc (pc + 3) = .ok (.dup, 1)) (d4 : decode cc (pc + 4) = .ok (.ldc_w is, 3)) (d7 : decode cc (pc + 7) = .ok (.invokespecial ic, 3)) (d10 : decode cc (pc + 10) = .ok (.athrow, 1))
    (hout : ∀ x ∈ c.exceptionTable.toList, covers x (pc + 10) = false)
    (hRframes : names.length + 3 < R.frames) (hRlocals : (rest.map fun v => v.category).sum + (13 * (names.length + 1) + 43) ≤ R.locals) (hRcells : cells + 1 ≤ R.cells) (hRslots : slots + 6 ≤ R.slots) (hlocks : meth.locks = false)
    (hx : ∀ t : State, s.vm.Alike t.vm → H.size ≤ t.heap.size → (∀ q : Nat, q < H.size → t.heap[q]? = H[q]?) → XC cls s t)
    (hf : ∀ z ∈ locs, free z.base) (hc : cells + 1 ≤ mc) (hs : slots + 6 ≤ ms) :
    W p l e R s m args below meth c H locs cells slots (vx_MQ below Qc XC args s mc ms free) (F0 m pc ls rest) := by
  intro T hT X
  have htr : e.platform.stackTraces = false := (show e.platform.stackTraces = l.stackTraces by rw [X.admits.platform]).trans hl
  have Y := vx_rebase X (R' := { frames := R.frames, locals := R.locals, cells := 1, slots := 6 }) (Nat.le_refl _) (Nat.le_refl _) hRcells hRslots
  obtain ⟨s', hA⟩ : ∃ z, z = (T.setVm s.vm).setFrames (.invoking m args :: below) := ⟨_, rfl⟩
  rw [← hA] at Y
  have hvm : s'.vm = s.vm := by rw [hA]; rfl
  have hhp : s'.heap = H := by rw [hA]; exact hT
  have hW0 : s.WarmedH s'.vm := by rw [hvm]; exact State.WarmedH.refl s
  have hat' : ∀ w ∈ vx_atS own ic cls names, w.before args s' = true := fun w hw => vx_ot_at hW0 hvm.symm (hgood w (List.mem_cons_of_mem _ (List.mem_cons_of_mem _ hw))) (hat w hw)
  have hk' : (Cond.classLink own ik cls).before args s' = true := vx_ot_at hW0 hvm.symm (hgood _ List.mem_cons_self) hk
  have hini' : (Cond.initialized cls).before args s' = true := vx_ot_at hW0 hvm.symm (hgood _ (List.mem_cons_of_mem _ List.mem_cons_self)) hini
  have hU' : vx_Zq Bundle.tN "UNASSIGNED_STACK" Bundle.steD A s' s'.heap := by rw [hhp]; exact vx_Zq.moved hW0.alike (hU.kept hS.2.1)
  have hN' : vx_Zq Bundle.tN "SUPPRESSED_SENTINEL" Bundle.listD A s' s'.heap := by rw [hhp]; exact vx_Zq.moved hW0.alike (hN.kept hS.2.1)
  have h : ∀ w ∈ Bundle.ownAtoms own ic cls names, w.before args s' = true := vx_own hat' (vx_isRefq hU'.1) (vx_isRefq hN'.1) hU'.2.word hN'.2.word
  have hown' : s'.vm.findClass own = some m.cls := by rw [hvm]; exact hown
  have hins : (Cond.instantiable cls 6).before args s' = true := h _ (by simp [Bundle.ownAtoms])
  obtain ⟨vm₁, cX, kX, hfX, hkX, -, -, X₁, st1⟩ := Y.newCold hexec (own := own) (C := cls) (index := ik) (n := 6) hown' hk' hins hini'
    (g := F0 m pc ls rest) rfl (by rw [hb]; exact d0) (Nat.le_refl _) (Nat.le_refl _)
  generalize hT1 : (T.setVm vm₁).pushCell { cls := cX, slots := kX.instanceTypes.map defaultValue, vm := .none } = T1 at X₁ st1
  have hcat : (Value.ref T.heap.size).category = 1 := rfl
  have hcellA : T1.heap[T.heap.size]? = some (freshCell cX kX) := by rw [← hT1]; exact State.heap_pushCell_size _ _
  have d3' : decode c.code (pc + 3) = .ok (.dup, 1) := by rw [hb]; exact d3
  have d4' : decode c.code (pc + 4) = .ok (.ldc_w is, 3) := by rw [hb]; exact d4
  have hstr' : vk_R own is text sa s' := vk_R.warm hW0 hstr
  obtain ⟨U, hsteps, hrun, hend, hW, hsame, ce, hce, hO⟩ := X₁.ctorThrowS hexec htr (own := own) (cls := cls) (names := names) (ic := ic) hown' hcls hnames h (fun x hx => nomatch hx) hfX hkX hcellA (by rw [hhp, hT]; exact Nat.le_refl _) (msg := .ref sa) rfl
    (g := { method := m, pc := pc + 7, locals := ls, stack := .ref sa :: .ref T.heap.size :: .ref T.heap.size :: rest, locked := none }) rfl hsize rfl rfl (rest := rest) rfl
    (by rw [hb]; exact d7) (by rw [hb]; exact d10) hout hRframes (by simp only [List.map_cons, List.sum_cons, hcat]; omega) hlocks
  obtain ⟨f1, f2⟩ := vx_frame hsame
  rw [hhp] at f1 f2
  have hWs : s.WarmedH U.vm := State.WarmedH.trans hW0 hW
  have hcl : s.vm.findClass cls = some ce.cls := by
    have h9 := hO.cls
    rw [hvm] at h9
    exact h9
  have hall : s.sameButNew ({ U with vm := s.vm } : State) locs mc ms := by
    subst hA
    obtain ⟨e1, e2⟩ := hsame
    rw [State.setFrames_setFrames] at e1
    have h2 : (T.setVm s.vm).sameButNew ({ U with vm := s.vm } : State) [] (0 + 1) (0 + 6) := ⟨e1, e2⟩
    have h3 := X.same.trans h2
    rw [List.append_nil] at h3
    exact h3.mono hc hs
  refine ⟨U, ?_, .threw T.heap.size, hrun, hend, Or.inr ⟨T.heap.size, rfl, cls, ce, locs, hx U hWs.alike f1 (fun q hq => f2 q hq (fun z hz => nomatch hz)), hce, hO.vm, hcl, hWs, hall, hf⟩⟩
  refine st1 _ ?_
  show Steps p.tables e below (T1.setTop { method := m, pc := pc + 3, locals := ls, stack := .ref T.heap.size :: rest, locked := none }) _
  jvm_step X₁.here [X₁.here.top, hexec, d3', Value.category]
  exact X₁.ldcStringW hexec (own := own) (text := text) (index := is) (a := sa) hown' hstr'.1 hstr'.2
    (g := { method := m, pc := pc + 4, locals := ls, stack := .ref T.heap.size :: .ref T.heap.size :: rest, locked := none }) rfl d4' _ hsteps
end Ends
section Bodies
variable {l : Launch}
theorem vx_ofW {y : MethodName} {ws ws' : List Cond} {rm : Room} {Pc : Array Value → State → Prop} {Qc : Array Value → State → Outcome → State → Prop} {XC : String → State → State → Prop} {mc ms : Nat} {free : Addr → Prop} {cc : ByteArray} {maxL : Nat} {ret : Option FieldType}
    (hy : plainName y.cls = true) (hw : ws = Cond.code y cc maxL ret :: ws')
    (body : ∀ p e s m args below meth c s₁, BodyLoose p l y (headSpec ws rm) cc maxL ret e s m args below meth c s₁ → c.maxLocals = maxL → (∀ x ∈ c.exceptionTable.toList, False) → Pc args s →
      W p l e (headSpec ws rm).room s m args below meth c s.heap [] 0 0 (vx_MQ below Qc XC args s mc ms free) (entryFrame m args maxL)) : vx_Met l y ws rm Pc Qc XC mc ms free := by
  refine MetFree.of_bodyS (code := cc) (maxLocals := maxL) (ret := ret) hy ?_ ?_
  · intro args s m h hn
    obtain ⟨meth, c, h1, h2, h3, h4, h5, h6, -, -⟩ := Cond.code_spec hn (atoms_spec (ws := ws) h _ (by rw [hw]; exact List.mem_cons_self))
    exact ⟨meth, c, h1, h2, h3, h4, h5, h6⟩
  · intro p e s m args below meth c s₁ B hml hP _
    have hh0 : s₁.heap = s.heap := by rw [B.state]; rfl
    have ht : ∀ x ∈ c.exceptionTable.toList, False := by
      obtain ⟨meth9, c9, h1, h2, -, -, -, -, h7, -⟩ := Cond.code_spec B.named (atoms_spec (ws := ws) B.pre _ (by rw [hw]; exact List.mem_cons_self))
      cases Option.some.inj (h1.symm.trans B.method)
      cases Option.some.inj (h2.symm.trans (Stand.of_body B).code)
      intro x hx
      rw [Array.isEmpty_iff.mp h7] at hx
      cases hx
    obtain ⟨t, a1, o, b1, b2, b3⟩ := body p e s m args below meth c s₁ B hml ht hP s₁ hh0 (Stand.of_body B)
    exact ⟨t, o, a1, b1, b2, b3⟩
/-- the table of a body with handlers -/
theorem vx_table {p : Program} {x y : MethodName} {S : Spec} {cc bytes : ByteArray} {maxL maxL' : Nat} {ret ret' : Option FieldType} {e : Env} {s s₁ : State} {m : MethodId} {args : Array Value} {below : List Frame} {meth : Method} {c : Code} {hh : List (Nat × Nat × Nat × Nat)}
    (B : BodyLoose p l y S cc maxL ret e s m args below meth c s₁) (h : (Cond.codeWith y bytes maxL' ret' hh).before args s = true) : c.exceptionTable.toList = tableOf hh := by
  obtain ⟨m9, meth9, c9, hn9, h1, h2, -, -, h6, -⟩ := Cond.codeWith_spec h
  cases Option.some.inj (hn9.symm.trans B.named)
  cases Option.some.inj (h1.symm.trans B.method)
  cases Option.some.inj (h2.symm.trans (Stand.of_body B).code)
  rw [← h6, table_eq]
end Bodies
end VXA
/-! ===== END ===== -/
/-! ===== BEGIN a static call of a method with an exception table ===== -/
section VXS
variable {p : Program} {l : Launch} {e : Env} {R : Room} {s : State} {m : MethodId} {args : Array Value} {below : List Frame} {meth : Method} {c : Code} {T : State} {H : Heap} {locs : List Loc} {cells slots : Nat}
abbrev vx_CSW (R : Room) (s : State) (args : Array Value) (own : String) (index : Nat) (y : MethodName) (bytes : ByteArray) (maxL : Nat) (ret : Option FieldType) (hh : List (Nat × Nat × Nat × Nat)) (ws : List Cond) (rm : Room) (mc ms n : Nat) : Prop :=
  (rm.cells = mc ∧ rm.slots = ms ∧ rm.frames + 1 ≤ R.frames ∧ 8 + (maxL + 11) + rm.locals ≤ R.locals ∧ (∀ w ∈ ws, ∀ (a' : Array Value) (U : State), s.WarmedH U.vm → w.before a' U = true) ∧ Cond.codeWith y bytes maxL ret hh ∈ ws) ∧
  (Cond.codeWith y bytes maxL ret hh).before args s = true ∧ (Cond.initialized y.cls).before args s = true ∧ (y.cls ≠ "java/lang/invoke/MethodHandle" ∧ y.cls ≠ "java/lang/invoke/VarHandle") ∧
  (∀ sig, parseMethodDescriptor y.desc = some sig → n = sig.parameters.length) ∧ (Cond.methodLink own index y).before args s = true ∧ (Cond.static y).before args s = true
theorem vx_cwSW {own : String} {index maxL mc ms : Nat} {y : MethodName} {bytes : ByteArray} {ret : Option FieldType} {hh : List (Nat × Nat × Nat × Nat)} {Ts ws ws' : List Cond} {rm : Room} (n : Nat) (ht : ∀ w ∈ Ts, w.before args s = true) (hT : GoodIn Ts (va_wsS own index y ws)) (hw : ws = Cond.codeWith y bytes maxL ret hh :: ws') (hrc : rm.cells = mc) (hrs : rm.slots = ms)
    (hd : y.cls ≠ "java/lang/invoke/MethodHandle" ∧ y.cls ≠ "java/lang/invoke/VarHandle" ∧ (parseMethodDescriptor y.desc).map (fun d => d.parameters.length) = some n) (hR : rm.frames + 1 ≤ R.frames ∧ 8 + (maxL + 11) + rm.locals ≤ R.locals) :
    vx_CSW R s args own index y bytes maxL ret hh ws rm mc ms n := by
  have ok : ∀ w ∈ va_wsS own index y ws, w.before args s = true := fun w h => ht w (hT w h).1
  have hG : GoodIn Ts ws := fun w h => hT w (by unfold va_wsS; exact List.mem_append_right _ h)
  have hc : Cond.codeWith y bytes maxL ret hh ∈ ws := by rw [hw]; exact List.mem_cons_self
  refine ⟨⟨hrc, hrs, hR.1, hR.2, pay_in ht hG, hc⟩, ht _ (hG _ hc).1, ok _ (by simp [va_wsS]), ⟨hd.1, hd.2.1⟩, fun sig h => ?_, ok _ (by simp [va_wsS]), ok _ (by simp [va_wsS])⟩
  have h2 := hd.2.2
  rw [h] at h2
  exact (Option.some.inj h2).symm
theorem vx_callSW (X : Stand p l e R s m args below meth c T locs cells slots) (hexec : p.tables.exec = Jvm.exec) {own : String} {index : Nat} {y : MethodName} {bytes : ByteArray} {maxL : Nat} {ret : Option FieldType} {hh : List (Nat × Nat × Nat × Nat)}
    (hown : s.vm.findClass own = some m.cls) (hlink : (Cond.methodLink own index y).before args s = true) (hstat : (Cond.static y).before args s = true) (hinit : (Cond.initialized y.cls).before args s = true)
    (hcode : (Cond.codeWith y bytes maxL ret hh).before args s = true) (hy : y.cls ≠ "java/lang/invoke/MethodHandle" ∧ y.cls ≠ "java/lang/invoke/VarHandle")
    {W9 : Nat} {Pre : Pt → Array Value → Prop} {Post : Pt → Array Value → Option Value → Pt → Prop} (hK : Back l R p e below s args y 3 W9 Pre Post)
    {g : JFrame} (hg : g.method = m) (hsize : g.locals.size = c.maxLocals) {argsL rest : List Value} (hlen : ∀ sig, parseMethodDescriptor y.desc = some sig → argsL.length = sig.parameters.length)
    (hstack : g.stack = argsL.reverse ++ rest) (hW : 2 * g.monitorRoom + (rest.map fun v => v.category).sum ≤ W9) (hdg : decode c.code g.pc = .ok (.invokestatic index, 3))
    (hpre : ∀ vm₁, s.WarmedH vm₁ → Pre ⟨T.setVm vm₁, locs, cells, slots⟩ argsL.toArray) :
    ∃ (v : Option Value) (vm₁ : Vm) (B : Pt), s.WarmedH vm₁ ∧ Stand p l e R s m args below meth c B.U B.locs B.cells B.slots ∧ Post ⟨T.setVm vm₁, locs, cells, slots⟩ argsL.toArray v B ∧
      ∀ target, Steps p.tables e below (B.U.setTop { g with pc := g.pc + 3, stack := v.toList ++ rest }) target → Steps p.tables e below (T.setTop g) target := by
  obtain ⟨mk, methM, cM, hnamed, hmethM, -, -, -, -, -, -, hsigM⟩ := Cond.codeWith_spec hcode
  have hstatic : methM.isStatic = true := Cond.static_spec hnamed hmethM hstat
  obtain ⟨kP, hkP, -⟩ := className_of_methodNamed hnamed
  have hinitP : kP.init = .initialized := Cond.initialized_spec (findClass_of_methodNamed hnamed) hkP hinit
  obtain ⟨vm₁, X₁, hstep₁⟩ := X.invokestatic hexec hown hlink hnamed hmethM hstatic hkP hinitP hy (g := g) hg (argsL := argsL) (rest := rest) (hlen _ hsigM) hstack hdg
  obtain ⟨v, B, X', hpost, hsteps⟩ := hK m meth c ⟨T.setVm vm₁, locs, cells, slots⟩ { g with stack := rest } (.invokestatic index) mk argsL.toArray X₁ hg hsize hdg hW (X₁.named hnamed) (hpre vm₁ X₁.warmed)
  exact ⟨v, vm₁, B, X₁.warmed, X', hpost, fun target h => hstep₁ _ fun acts => by rw [doInvoke_state]; exact hsteps.trans h⟩
theorem vx_runSW {y : MethodName} {bytes cc : ByteArray} {maxL nL mc ms n index : Nat} {ret : Option FieldType} {hh : List (Nat × Nat × Nat × Nat)} {ws : List Cond} {rm : Room} {Pc : Array Value → State → Prop} {Qc : Array Value → State → Outcome → State → Prop} {free : Addr → Prop} {Ts : List Cond} {own : String} {As rest : List Value} {g : JFrame}
    (S : CallFix p m c cc nL s args Ts own) (hM : Met l y ws rm Pc Qc mc ms free) (cw : vx_CSW R s args own index y bytes maxL ret hh ws rm mc ms n) (hp : PreS s H Pc As)
    (hg : g.method = m) (hn : As.length = n) (hsize : g.locals.size = nL) (hstack : g.stack = As.reverse ++ rest) (hW : 2 * g.monitorRoom + (rest.map fun v => v.category).sum ≤ 8) (hdg : decode cc g.pc = .ok (.invokestatic index, 3)) (hf : cells + mc ≤ R.cells ∧ slots + ms ≤ R.slots) :
    va_Run p l e R s m args below meth c H locs cells slots mc ms g rest (Qc As.toArray) (free) := by
  obtain ⟨⟨hrc, hrs, hfr, hlo, hws, hcw⟩, hcode, hini, hy, hlen, hl, hstt⟩ := cw
  have hK : Back l R p e below s args y 3 8 (PreOf R mc ms Pc) (PostOf Qc mc ms free) := va_backW (hh := hh) (bytes := bytes) (maxL := maxL) (ret := ret) hM hp.1 hrc hrs hfr hlo hws hcw (fun a' U hW => word_at hW (Or.inl (by first | rfl | simp [Cond.onTables, Cond.keeps, Cond.steady])) hini)
  obtain ⟨hx, hb, hml, ho, -⟩ := S
  intro T hT X
  obtain ⟨v, vm₁, ⟨U', l2, c2, s2⟩, hW₁, X', ⟨g', mk, t, L, e1, e2, hq, h1, hL, h2, h3⟩, st⟩ := vx_callSW X hx (hh := hh) (bytes := bytes) (maxL := maxL) (ret := ret) ho hl hstt hini hcode hy hK hg (hsize.trans hml.symm) (argsL := As) (rest := rest) (fun sig h => hn.trans (hlen sig h)) hstack hW (by rw [hb]; exact hdg)
    (fun vm₁ hW₁ => ⟨hf.1, hf.2, hp.2 (T.setVm vm₁) hT hW₁⟩)
  dsimp only [Pt.U, Pt.locs, Pt.cells, Pt.slots] at X' e1 e2 h1 h2 h3 st
  subst h1; subst h2; subst h3
  exact ⟨v, (T.setVm vm₁).calling g' mk As.toArray, t, U', L, hT, X', hL, e1, e2, hq, st⟩
/-- not caught here, past rows that name other classes: it goes on to the caller -/
theorem vx_outP {p : Program} {l : Launch} {e : Env} {R : Room} {s : State} {m : MethodId} {args : Array Value} {below : List Frame} {meth : Method} {c : Code} {H : Heap} {locs : List Loc} {cells slots : Nat} {free : Addr → Prop} {ls : Array Slot} {rest : List Value} {Qc : Array Value → State → Outcome → State → Prop} {XC : String → State → State → Prop}
    {pc : Nat} {own E : String} {ce : Cell} {q : Addr} {mc ms : Nat} (hown : s.vm.findClass own = some m.cls) (hlocks : meth.locks = false)
    (hpass : ∀ z ∈ c.exceptionTable.toList, covers z pc = false ∨ (z.catchType ≠ 0 ∧ ∃ nm : String, (Cond.classLink own z.catchType nm).before args s = true ∧ va_Nc E nm s)) (hcell : H[q]? = some ce) (hv : ce.vm = .none) (hcl : s.vm.findClass E = some ce.cls)
    (hx : ∀ t : State, t.heap = H → s.vm.Alike t.vm → XC E s t) (hf : ∀ z ∈ locs, free z.base) (hc : cells ≤ mc) (hs : slots ≤ ms) :
    vx_W p l e R s m args below meth c H locs cells slots (vx_MQ below Qc XC args s mc ms free) (F0 m pc ls rest) q := by
  intro T hT X
  have hpl : e.platform.magicAccessors = ({} : Platform).magicAccessors := by rw [X.admits.platform]
  obtain ⟨vm', hW', X', st⟩ := X.outThrough hlocks q (g := F0 m pc ls rest) rfl rfl rfl (cell := ce) (by rw [hT]; exact hcell) (by rw [hv]; rfl)
    (by obtain ⟨k9, h9, -⟩ := Vm.findClass_spec hcl; exact ⟨k9, h9⟩) (fun z hz => by
      rcases hpass z hz with h | ⟨hz0, nm, hl1, hn1⟩
      · exact Or.inl h
      · obtain ⟨c6, hc6, hcl6⟩ := Cond.classLink_spec hown hl1 e.platform hpl
        obtain ⟨a8, b8, h1, h2, h3⟩ := hn1
        cases Option.some.inj (h1.symm.trans hcl)
        cases Option.some.inj (h2.symm.trans hc6)
        exact Or.inr ⟨hz0, _, hcl6, h3⟩)
  obtain ⟨g₀, hfr⟩ := X'.frames_eq
  have hcell9 : ((T.setVm vm').setFrames (.throwing q :: below)).heap[q]? = some ce := by
    show T.heap[q]? = some ce
    rw [hT]; exact hcell
  have hend : Ended ((T.setVm vm').setFrames (.throwing q :: below)) below (.threw q) := State.frames_setFrames _ (State.cur_lt_of_frames hfr)
  refine ⟨(T.setVm vm').setFrames (.throwing q :: below), ?_, .threw q, X'.here.running, hend, Or.inr ⟨q, rfl, E, ce, locs, hx _ hT (X'.ends _).1.alike, hcell9, hv, hcl, (X'.ends _).1, (X'.ends _).2.mono hc hs, hf⟩⟩
  rw [X.pushThrowing_eq]
  exact st
/-- a thing of a world lies in the heap -/
theorem vx_lt {D : va_G} {cl : List vw_C} {ws : va_W} {H1 : Heap} (h : va_P D cl ws H1) {k : Nat} {q : Nat × va_E} (hk : ws[k]? = some q) : q.1 < H1.size := (h k q hk).lt
end VXS
/-! ===== END ===== -/
/-! ===== BEGIN methods with a table of their own: called by a name, returning or throwing ===== -/
section VXH
/-! vx_backW, vx_callVX, vx_callSX, vx_callVW, vx_runVW, vx_runVX, vx_runSX, vx_ofWH follow the same proofs as their sisters above (Free/Laws.lean, Shelf42/LK1.lean); vx_outP calls Shelf42/NT130.lean (outThrough). -/
section
variable {l : Launch} {R : Room} {p : Program} {e : Env} {below : List Frame} {s : State} {sargs : Array Value} {y : MethodName} {len W9 : Nat}
theorem vx_backW {ws : List Cond} {rm : Room} {Pc : Array Value → State → Prop} {Qc : Array Value → State → Outcome → State → Prop} {XC : String → State → State → Prop} {mc ms : Nat} {free : Addr → Prop} {bytes : ByteArray} {maxL : Nat} {ret : Option FieldType} {hh : List (Nat × Nat × Nat × Nat)}
    (hM : vx_Met l y ws rm Pc Qc XC mc ms free) (hblind : FrameBlind Pc) (hrc : rm.cells = mc) (hrs : rm.slots = ms)
    (hframes : rm.frames + 1 ≤ R.frames) (hlocals : W9 + (maxL + 11) + rm.locals ≤ R.locals)
    (hws : ∀ w ∈ ws, ∀ a' U, s.WarmedH U.vm → w.before a' U = true) (hcode : Cond.codeWith y bytes maxL ret hh ∈ ws) (hinit : ∀ a' U, s.WarmedH U.vm → (Cond.initialized y.cls).before a' U = true) :
    vx_Back l R p e below s sargs y len W9 (PreOf R mc ms Pc) (PostOf Qc mc ms free) (vx_Post XC mc ms free) := by
  intro m meth c A g ig mk a X hg hsize hdg hW hn hp
  have h1 : (headSpec ws rm).pre.before a A.U = true := atoms_intro fun w hw => hws w hw _ _ X.warmed
  have h2 : (Cond.codeWith y bytes maxL ret hh).before a A.U = true := hws _ hcode _ _ X.warmed
  have h3 : (Cond.initialized y.cls).before a A.U = true := hinit _ _ X.warmed
  have h4 : A.cells + (headSpec ws rm).room.cells ≤ R.cells := by rw [show (headSpec ws rm).room.cells = mc from hrc]; exact hp.1
  have h5 : A.slots + (headSpec ws rm).room.slots ≤ R.slots := by rw [show (headSpec ws rm).room.slots = ms from hrs]; exact hp.2.1
  have hPc : Pc a (A.U.calling g mk a) := hblind _ _ _ _ hp.2.2
  obtain ⟨U, Ls, c0, s0⟩ := A
  dsimp only [Pt.U, Pt.locs, Pt.cells, Pt.slots] at h1 h2 h3 h4 h5 X hn hPc ⊢
  obtain ⟨m9, methY, cY, hn9, hmY, hcY, -, hlY, -⟩ := Cond.codeWith_spec h2
  cases Option.some.inj (hn9.symm.trans hn)
  obtain ⟨kY, hkY, -⟩ := className_of_methodNamed hn
  have hinitY : kY.init = .initialized := Cond.initialized_spec (findClass_of_methodNamed hn) hkY h3
  have h : At U g.method c below := by rw [hg]; exact X.here
  have hlocals9 : W9 + (maxL + 11) + (headSpec ws rm).room.locals ≤ R.locals := hlocals
  have happ : (headSpec ws rm).appliesLoose y e.platform (U.calling g mk a) = true :=
    Spec.appliesLoose_calling (g := g) h hdg hn hkY hinitY
      (X.room_calling (g := g) (R' := (headSpec ws rm).room) hsize hmY hcY hframes (by rw [hlY]; omega) h4 h5) h1
  obtain ⟨mid, hmid⟩ := h.above
  have hfr : (U.setTop g).frames = (.java g :: mid) ++ below := by rw [State.frames_setTop' g h.top, hmid]; rfl
  obtain ⟨o, s₂, hsteps, -, hend, hq⟩ := Steps.callFree hM p X.admits X.cas X.clock (acts := []) hfr happ hPc trivial
  have hq' : vx_Q Qc XC mc ms free a (U.calling g mk a) o s₂ := hq
  rw [State.frames_setTop' g h.top] at hend
  obtain ⟨g₀, hg0⟩ := Option.isSome_iff_exists.mp h.top
  obtain ⟨r, hr⟩ := State.topJava?_eq_some.mp hg0
  have hr' : (({ U with heap := s₂.heap, slotsUsed := s₂.slotsUsed } : State).setVm s₂.vm).frames = .java g₀ :: r := hr
  rcases hq' with ⟨hqc, L, hfe, hL⟩ | ⟨q, rfl, E, ce, L, hx, hce, hcv, hcl, hW₂, hsm, hL⟩
  · obtain ⟨⟨v, rfl⟩, hW₂, e2, q2, q3, q4, q5, q6⟩ := id hfe
    have e3 : s₂ = ({ (U.calling g mk a).setFrames s₂.frames with heap := s₂.heap, slotsUsed := s₂.slotsUsed } : State).setVm s₂.vm := by
      have : s₂ = ({ s₂ with vm := (U.calling g mk a).vm } : State).setVm s₂.vm := rfl
      rw [e2] at this
      exact this
    obtain ⟨c₂, i₂, len₂, hc₂, hd₂, hf₂⟩ := hend
    have hW' : U.WarmedH s₂.vm := hW₂
    have hcc : c₂ = c := by
      have h1 : s₂.code? g.method = U.code? g.method := by
        rw [State.code?_eq, State.code?_eq, hW'.alike.method?]
      exact Option.some.inj (hc₂.symm.trans (h1.trans h.code))
    subst hcc
    have hlen : len₂ = len := by rw [hdg] at hd₂; cases hd₂; rfl
    subst hlen
    have hs₂ : s₂ = (({ U with heap := s₂.heap, slotsUsed := s₂.slotsUsed } : State).setVm s₂.vm).setTop { g with pc := g.pc + len₂, stack := v.toList ++ g.stack } := by
      refine e3.trans ?_
      rw [hf₂, State.calling_eq h.top, State.setFrames_setFrames, State.setTop_of_frames _ hr', hr]
      rfl
    have hsame : U.sameButNew ({ U with heap := s₂.heap, slotsUsed := s₂.slotsUsed } : State) L mc ms := by
      refine ⟨?_, q2, q3, q4, q5, q6⟩
      obtain ⟨t, ht, -⟩ := State.frames_cons hr
      show ({ U with heap := s₂.heap, slotsUsed := s₂.slotsUsed } : State) = { U.setFrames U.frames with heap := s₂.heap, slotsUsed := s₂.slotsUsed }
      rw [State.setFrames_self ht]
    subst hg
    refine Or.inl ⟨v, ⟨(({ U with heap := s₂.heap, slotsUsed := s₂.slotsUsed } : State).setVm s₂.vm), Ls ++ L, c0 + mc, s0 + ms⟩,
      ⟨X.admits, X.cas, X.clock, X.frames, X.room, X.hears, X.method, X.code, (X.here.setHeapUsed s₂.heap s₂.slotsUsed).setVm hW'.alike, X.tail, State.WarmedH.trans X.warmed hW', X.limits, X.bytes, X.same.trans (hsame.setVm s.vm)⟩,
      ⟨g, mk, s₂, L, rfl, rfl, hqc, rfl, hL, rfl, rfl⟩, ?_⟩
    show Steps p.tables e below _ ((({ U with heap := s₂.heap, slotsUsed := s₂.slotsUsed } : State).setVm s₂.vm).setTop { g with pc := g.pc + len₂, stack := v.toList ++ g.stack })
    rw [← hs₂]
    exact hsteps
  · obtain ⟨e2, q2, q3, q4, q5, q6⟩ := id hsm
    have e3 : s₂ = ({ (U.calling g mk a).setFrames s₂.frames with heap := s₂.heap, slotsUsed := s₂.slotsUsed } : State).setVm s₂.vm := by
      have : s₂ = ({ s₂ with vm := (U.calling g mk a).vm } : State).setVm s₂.vm := rfl
      rw [e2] at this
      exact this
    have hf₂ : s₂.frames = .throwing q :: .java g :: U.frames.tail := hend
    have hW' : U.WarmedH s₂.vm := hW₂
    have hs₂ : s₂ = ((({ U with heap := s₂.heap, slotsUsed := s₂.slotsUsed } : State).setVm s₂.vm).setTop g).pushFrame (.throwing q) := by
      refine e3.trans ?_
      rw [hf₂, State.calling_eq h.top, State.setFrames_setFrames, State.pushFrame, State.frames_setTop _ hr', State.setTop_of_frames _ hr', State.setFrames_setFrames, hr]
      rfl
    have hsame : U.sameButNew ({ U with heap := s₂.heap, slotsUsed := s₂.slotsUsed } : State) L mc ms := by
      refine ⟨?_, q2, q3, q4, q5, q6⟩
      obtain ⟨t, ht, -⟩ := State.frames_cons hr
      show ({ U with heap := s₂.heap, slotsUsed := s₂.slotsUsed } : State) = { U.setFrames U.frames with heap := s₂.heap, slotsUsed := s₂.slotsUsed }
      rw [State.setFrames_self ht]
    subst hg
    refine Or.inr ⟨q, ⟨(({ U with heap := s₂.heap, slotsUsed := s₂.slotsUsed } : State).setVm s₂.vm), Ls ++ L, c0 + mc, s0 + ms⟩,
      ⟨X.admits, X.cas, X.clock, X.frames, X.room, X.hears, X.method, X.code, (X.here.setHeapUsed s₂.heap s₂.slotsUsed).setVm hW'.alike, X.tail, State.WarmedH.trans X.warmed hW', X.limits, X.bytes, X.same.trans (hsame.setVm s.vm)⟩,
      ⟨g, mk, s₂, L, E, ce, rfl, rfl, hx, hce, hcv, hcl, rfl, hL, rfl, rfl⟩, ?_⟩
    show Steps p.tables e below _ (((({ U with heap := s₂.heap, slotsUsed := s₂.slotsUsed } : State).setVm s₂.vm).setTop g).pushFrame (.throwing q))
    rw [← hs₂]
    exact hsteps
end
variable {p : Program} {l : Launch} {e : Env} {R : Room} {s : State} {m : MethodId} {args : Array Value} {below : List Frame} {meth : Method} {c : Code} {T : State} {H : Heap} {locs : List Loc} {cells slots : Nat}
theorem vx_callVX (X : Stand p l e R s m args below meth c T locs cells slots) (hexec : p.tables.exec = Jvm.exec) {own C : String} {index : Nat} {y : MethodName} {bytes : ByteArray} {maxL : Nat} {ret : Option FieldType} {hh : List (Nat × Nat × Nat × Nat)}
    (hown : s.vm.findClass own = some m.cls) (hlink : (Cond.methodLink own index y).before args s = true) (hinst : (Cond.instanceMethod y).before args s = true) (hsel : (Cond.selects C y y).before args s = true)
    (hcode : (Cond.codeWith y bytes maxL ret hh).before args s = true) (hy : y.cls ≠ "java/lang/invoke/MethodHandle" ∧ y.cls ≠ "java/lang/invoke/VarHandle")
    {W9 : Nat} {Pre : Pt → Array Value → Prop} {Post : Pt → Array Value → Option Value → Pt → Prop} {PostX : Pt → Array Value → Addr → Pt → Prop} (hK : vx_Back l R p e below s args y 3 W9 Pre Post PostX)
    {b : Addr} {cellB : Cell} (hcell : T.heap[b]? = some cellB) (hobj : cellB.vm.isStatics = false) (hcls : s.vm.findClass C = some cellB.cls)
    {g : JFrame} (hg : g.method = m) (hsize : g.locals.size = c.maxLocals) {argsL rest : List Value} (hlen : ∀ sig, parseMethodDescriptor y.desc = some sig → argsL.length = sig.parameters.length)
    (hstack : g.stack = argsL.reverse ++ .ref b :: rest) (hW : 2 * g.monitorRoom + (rest.map fun v => v.category).sum ≤ W9) (hdg : decode c.code g.pc = .ok (.invokevirtual index, 3))
    (hpre : ∀ vm₁, s.WarmedH vm₁ → Pre ⟨T.setVm vm₁, locs, cells, slots⟩ (Value.ref b :: argsL).toArray) :
    (∃ (v : Option Value) (vm₁ : Vm) (B : Pt), s.WarmedH vm₁ ∧ Stand p l e R s m args below meth c B.U B.locs B.cells B.slots ∧ Post ⟨T.setVm vm₁, locs, cells, slots⟩ (Value.ref b :: argsL).toArray v B ∧
      ∀ target, Steps p.tables e below (B.U.setTop { g with pc := g.pc + 3, stack := v.toList ++ rest }) target → Steps p.tables e below (T.setTop g) target) ∨
    (∃ (q : Addr) (vm₁ : Vm) (B : Pt), s.WarmedH vm₁ ∧ Stand p l e R s m args below meth c B.U B.locs B.cells B.slots ∧ PostX ⟨T.setVm vm₁, locs, cells, slots⟩ (Value.ref b :: argsL).toArray q B ∧
      Steps p.tables e below (T.setTop g) ((B.U.setTop { g with stack := rest }).pushFrame (.throwing q))) := by
  obtain ⟨mk, methM, hnamed, hmethM, hstM, habM⟩ := Cond.instanceMethod_spec hinst
  obtain ⟨m8, methM', cM, hn8, hmethM', -, -, -, -, -, -, hsigM⟩ := Cond.codeWith_spec hcode
  cases Option.some.inj (hn8.symm.trans hnamed)
  cases hmethM.symm.trans hmethM'
  obtain ⟨c2, r2, m2, q1, q2, q3, q4, kP, hkP, hkPi⟩ := Cond.selects_spec hsel
  cases hcls.symm.trans q1
  cases (State.methodFound?_of_named hnamed hy).symm.trans q2
  cases hnamed.symm.trans q3
  have hselP : selectMethod e.platform s.vm cellB.cls mk = .method mk := by rw [Launch.admits_selectMethod X.admits]; exact q4
  obtain ⟨vm₁, X₁, hstep₁⟩ := X.invokevirtual hexec hown hlink hnamed hmethM hstM hkP hkPi hy (a := b) (cell := cellB) hcell
    (fun z h => by rw [h] at hobj; cases hobj) hselP hmethM habM hkP hkPi (g := g) hg (argsL := argsL) (rest := rest) (hlen _ hsigM) hstack hdg
  rcases hK m meth c ⟨T.setVm vm₁, locs, cells, slots⟩ { g with stack := rest } (.invokevirtual index) mk (Value.ref b :: argsL).toArray X₁ hg hsize hdg hW (X₁.named hnamed) (hpre vm₁ X₁.warmed) with ⟨v, B, X', hpost, hsteps⟩ | ⟨q, B, X', hpost, hsteps⟩
  · exact Or.inl ⟨v, vm₁, B, X₁.warmed, X', hpost, fun target h => hstep₁ _ fun acts => by rw [doInvoke_state]; exact hsteps.trans h⟩
  · exact Or.inr ⟨q, vm₁, B, X₁.warmed, X', hpost, hstep₁ _ fun acts => by rw [doInvoke_state]; exact hsteps⟩
theorem vx_callSX (X : Stand p l e R s m args below meth c T locs cells slots) (hexec : p.tables.exec = Jvm.exec) {own : String} {index : Nat} {y : MethodName} {bytes : ByteArray} {maxL : Nat} {ret : Option FieldType} {hh : List (Nat × Nat × Nat × Nat)}
    (hown : s.vm.findClass own = some m.cls) (hlink : (Cond.methodLink own index y).before args s = true) (hstat : (Cond.static y).before args s = true) (hinit : (Cond.initialized y.cls).before args s = true)
    (hcode : (Cond.codeWith y bytes maxL ret hh).before args s = true) (hy : y.cls ≠ "java/lang/invoke/MethodHandle" ∧ y.cls ≠ "java/lang/invoke/VarHandle")
    {W9 : Nat} {Pre : Pt → Array Value → Prop} {Post : Pt → Array Value → Option Value → Pt → Prop} {PostX : Pt → Array Value → Addr → Pt → Prop} (hK : vx_Back l R p e below s args y 3 W9 Pre Post PostX)
    {g : JFrame} (hg : g.method = m) (hsize : g.locals.size = c.maxLocals) {argsL rest : List Value} (hlen : ∀ sig, parseMethodDescriptor y.desc = some sig → argsL.length = sig.parameters.length)
    (hstack : g.stack = argsL.reverse ++ rest) (hW : 2 * g.monitorRoom + (rest.map fun v => v.category).sum ≤ W9) (hdg : decode c.code g.pc = .ok (.invokestatic index, 3))
    (hpre : ∀ vm₁, s.WarmedH vm₁ → Pre ⟨T.setVm vm₁, locs, cells, slots⟩ argsL.toArray) :
    (∃ (v : Option Value) (vm₁ : Vm) (B : Pt), s.WarmedH vm₁ ∧ Stand p l e R s m args below meth c B.U B.locs B.cells B.slots ∧ Post ⟨T.setVm vm₁, locs, cells, slots⟩ argsL.toArray v B ∧
      ∀ target, Steps p.tables e below (B.U.setTop { g with pc := g.pc + 3, stack := v.toList ++ rest }) target → Steps p.tables e below (T.setTop g) target) ∨
    (∃ (q : Addr) (vm₁ : Vm) (B : Pt), s.WarmedH vm₁ ∧ Stand p l e R s m args below meth c B.U B.locs B.cells B.slots ∧ PostX ⟨T.setVm vm₁, locs, cells, slots⟩ argsL.toArray q B ∧
      Steps p.tables e below (T.setTop g) ((B.U.setTop { g with stack := rest }).pushFrame (.throwing q))) := by
  obtain ⟨mk, methM, cM, hnamed, hmethM, -, -, -, -, -, -, hsigM⟩ := Cond.codeWith_spec hcode
  have hstatic : methM.isStatic = true := Cond.static_spec hnamed hmethM hstat
  obtain ⟨kP, hkP, -⟩ := className_of_methodNamed hnamed
  have hinitP : kP.init = .initialized := Cond.initialized_spec (findClass_of_methodNamed hnamed) hkP hinit
  obtain ⟨vm₁, X₁, hstep₁⟩ := X.invokestatic hexec hown hlink hnamed hmethM hstatic hkP hinitP hy (g := g) hg (argsL := argsL) (rest := rest) (hlen _ hsigM) hstack hdg
  rcases hK m meth c ⟨T.setVm vm₁, locs, cells, slots⟩ { g with stack := rest } (.invokestatic index) mk argsL.toArray X₁ hg hsize hdg hW (X₁.named hnamed) (hpre vm₁ X₁.warmed) with ⟨v, B, X', hpost, hsteps⟩ | ⟨q, B, X', hpost, hsteps⟩
  · exact Or.inl ⟨v, vm₁, B, X₁.warmed, X', hpost, fun target h => hstep₁ _ fun acts => by rw [doInvoke_state]; exact hsteps.trans h⟩
  · exact Or.inr ⟨q, vm₁, B, X₁.warmed, X', hpost, hstep₁ _ fun acts => by rw [doInvoke_state]; exact hsteps⟩
theorem vx_callVW (X : Stand p l e R s m args below meth c T locs cells slots) (hexec : p.tables.exec = Jvm.exec) {own C : String} {index : Nat} {y : MethodName} {bytes : ByteArray} {maxL : Nat} {ret : Option FieldType} {hh : List (Nat × Nat × Nat × Nat)}
    (hown : s.vm.findClass own = some m.cls) (hlink : (Cond.methodLink own index y).before args s = true) (hinst : (Cond.instanceMethod y).before args s = true) (hsel : (Cond.selects C y y).before args s = true)
    (hcode : (Cond.codeWith y bytes maxL ret hh).before args s = true) (hy : y.cls ≠ "java/lang/invoke/MethodHandle" ∧ y.cls ≠ "java/lang/invoke/VarHandle")
    {W9 : Nat} {Pre : Pt → Array Value → Prop} {Post : Pt → Array Value → Option Value → Pt → Prop} (hK : Back l R p e below s args y 3 W9 Pre Post)
    {b : Addr} {cellB : Cell} (hcell : T.heap[b]? = some cellB) (hobj : cellB.vm.isStatics = false) (hcls : s.vm.findClass C = some cellB.cls)
    {g : JFrame} (hg : g.method = m) (hsize : g.locals.size = c.maxLocals) {argsL rest : List Value} (hlen : ∀ sig, parseMethodDescriptor y.desc = some sig → argsL.length = sig.parameters.length)
    (hstack : g.stack = argsL.reverse ++ .ref b :: rest) (hW : 2 * g.monitorRoom + (rest.map fun v => v.category).sum ≤ W9) (hdg : decode c.code g.pc = .ok (.invokevirtual index, 3))
    (hpre : ∀ vm₁, s.WarmedH vm₁ → Pre ⟨T.setVm vm₁, locs, cells, slots⟩ (Value.ref b :: argsL).toArray) :
    ∃ (v : Option Value) (vm₁ : Vm) (B : Pt), s.WarmedH vm₁ ∧ Stand p l e R s m args below meth c B.U B.locs B.cells B.slots ∧ Post ⟨T.setVm vm₁, locs, cells, slots⟩ (Value.ref b :: argsL).toArray v B ∧
      ∀ target, Steps p.tables e below (B.U.setTop { g with pc := g.pc + 3, stack := v.toList ++ rest }) target → Steps p.tables e below (T.setTop g) target := by
  obtain ⟨mk, methM, hnamed, hmethM, hstM, habM⟩ := Cond.instanceMethod_spec hinst
  obtain ⟨m8, methM', cM, hn8, hmethM', -, -, -, -, -, -, hsigM⟩ := Cond.codeWith_spec hcode
  cases Option.some.inj (hn8.symm.trans hnamed)
  cases hmethM.symm.trans hmethM'
  obtain ⟨c2, r2, m2, q1, q2, q3, q4, kP, hkP, hkPi⟩ := Cond.selects_spec hsel
  cases hcls.symm.trans q1
  cases (State.methodFound?_of_named hnamed hy).symm.trans q2
  cases hnamed.symm.trans q3
  have hselP : selectMethod e.platform s.vm cellB.cls mk = .method mk := by rw [Launch.admits_selectMethod X.admits]; exact q4
  obtain ⟨vm₁, X₁, hstep₁⟩ := X.invokevirtual hexec hown hlink hnamed hmethM hstM hkP hkPi hy (a := b) (cell := cellB) hcell
    (fun z h => by rw [h] at hobj; cases hobj) hselP hmethM habM hkP hkPi (g := g) hg (argsL := argsL) (rest := rest) (hlen _ hsigM) hstack hdg
  obtain ⟨v, B, X', hpost, hsteps⟩ := hK m meth c ⟨T.setVm vm₁, locs, cells, slots⟩ { g with stack := rest } (.invokevirtual index) mk (Value.ref b :: argsL).toArray X₁ hg hsize hdg hW (X₁.named hnamed) (hpre vm₁ X₁.warmed)
  exact ⟨v, vm₁, B, X₁.warmed, X', hpost, fun target h => hstep₁ _ fun acts => by rw [doInvoke_state]; exact hsteps.trans h⟩
abbrev vx_CVW (R : Room) (s : State) (args : Array Value) (own C : String) (index : Nat) (y : MethodName) (bytes : ByteArray) (maxL : Nat) (ret : Option FieldType) (hh : List (Nat × Nat × Nat × Nat)) (ws : List Cond) (rm : Room) (mc ms n : Nat) : Prop :=
  (rm.cells = mc ∧ rm.slots = ms ∧ rm.frames + 1 ≤ R.frames ∧ 8 + (maxL + 11) + rm.locals ≤ R.locals ∧ (∀ w ∈ ws, ∀ (a' : Array Value) (U : State), s.WarmedH U.vm → w.before a' U = true) ∧ Cond.codeWith y bytes maxL ret hh ∈ ws) ∧
  (Cond.codeWith y bytes maxL ret hh).before args s = true ∧ (Cond.initialized y.cls).before args s = true ∧ (y.cls ≠ "java/lang/invoke/MethodHandle" ∧ y.cls ≠ "java/lang/invoke/VarHandle") ∧
  (∀ sig, parseMethodDescriptor y.desc = some sig → n = sig.parameters.length) ∧ (Cond.methodLink own index y).before args s = true ∧ (Cond.instanceMethod y).before args s = true ∧ (Cond.selects C y y).before args s = true
theorem vx_cwVW {own C : String} {index maxL mc ms : Nat} {y : MethodName} {bytes : ByteArray} {ret : Option FieldType} {hh : List (Nat × Nat × Nat × Nat)} {Ts ws ws' : List Cond} {rm : Room} (n : Nat) (ht : ∀ w ∈ Ts, w.before args s = true) (hT : GoodIn Ts (wsV own index C y ws)) (hw : ws = Cond.codeWith y bytes maxL ret hh :: ws') (hrc : rm.cells = mc) (hrs : rm.slots = ms)
    (hd : y.cls = C ∧ y.cls ≠ "java/lang/invoke/MethodHandle" ∧ y.cls ≠ "java/lang/invoke/VarHandle" ∧ (parseMethodDescriptor y.desc).map (fun d => d.parameters.length) = some n) (hR : rm.frames + 1 ≤ R.frames ∧ 8 + (maxL + 11) + rm.locals ≤ R.locals) :
    vx_CVW R s args own C index y bytes maxL ret hh ws rm mc ms n := by
  obtain ⟨hC, hd⟩ := hd
  subst hC
  have ok : ∀ w ∈ wsV own index y.cls y ws, w.before args s = true := fun w h => ht w (hT w h).1
  have hG : GoodIn Ts ws := fun w h => hT w (by unfold wsV; exact List.mem_append_right _ h)
  have hc : Cond.codeWith y bytes maxL ret hh ∈ ws := by rw [hw]; exact List.mem_cons_self
  refine ⟨⟨hrc, hrs, hR.1, hR.2, pay_in ht hG, hc⟩, ht _ (hG _ hc).1, ok _ (by simp [wsV]), ⟨hd.1, hd.2.1⟩, fun sig h => ?_, ok _ (by simp [wsV]), ok _ (by simp [wsV]), ok _ (by simp [wsV])⟩
  have h2 := hd.2.2
  rw [h] at h2
  exact (Option.some.inj h2).symm
theorem vx_runVW {y : MethodName} {bytes cc : ByteArray} {maxL nL mc ms n index : Nat} {ret : Option FieldType} {hh : List (Nat × Nat × Nat × Nat)} {ws : List Cond} {rm : Room} {Pc : Array Value → State → Prop} {Qc : Array Value → State → Outcome → State → Prop} {free : Addr → Prop} {Ts : List Cond} {own C : String} {b : Addr} {As rest : List Value} {g : JFrame}
    (S : CallFix p m c cc nL s args Ts own) (hM : Met l y ws rm Pc Qc mc ms free) (cw : vx_CVW R s args own C index y bytes maxL ret hh ws rm mc ms n) (hp : PreV s H C b Pc As)
    (hg : g.method = m) (hn : As.length = n) (hsize : g.locals.size = nL) (hstack : g.stack = As.reverse ++ .ref b :: rest) (hW : 2 * g.monitorRoom + (rest.map fun v => v.category).sum ≤ 8) (hdg : decode cc g.pc = .ok (.invokevirtual index, 3)) (hf : cells + mc ≤ R.cells ∧ slots + ms ≤ R.slots) :
    va_Run p l e R s m args below meth c H locs cells slots mc ms g rest (Qc (Value.ref b :: As).toArray) free := by
  obtain ⟨⟨hrc, hrs, hfr, hlo, hws, hcw⟩, hcode, hini, hy, hlen, hl, hin, hse⟩ := cw
  have hK : Back l R p e below s args y 3 8 (PreOf R mc ms Pc) (PostOf Qc mc ms free) := va_backW (hh := hh) (bytes := bytes) (maxL := maxL) (ret := ret) hM hp.1 hrc hrs hfr hlo hws hcw (fun a' U hW => word_at hW (Or.inl (by first | rfl | simp [Cond.onTables, Cond.keeps, Cond.steady])) hini)
  obtain ⟨hx, hb, hml, ho, -⟩ := S
  obtain ⟨-, ⟨cellB, hcB, hoB, hclB⟩, hPc⟩ := hp
  intro T hT X
  obtain ⟨v, vm₁, ⟨U', l2, c2, s2⟩, hW₁, X', ⟨g', mk, t, L, e1, e2, hq, h1, hL, h2, h3⟩, st⟩ := vx_callVW X hx (C := C) (hh := hh) (bytes := bytes) (maxL := maxL) (ret := ret) ho hl hin hse hcode hy hK (by rw [hT]; exact hcB) hoB hclB hg (hsize.trans hml.symm) (argsL := As) (rest := rest) (fun sig h => hn.trans (hlen sig h)) hstack hW (by rw [hb]; exact hdg)
    (fun vm₁ hW₁ => ⟨hf.1, hf.2, hPc (T.setVm vm₁) hT hW₁⟩)
  dsimp only [Pt.U, Pt.locs, Pt.cells, Pt.slots] at X' e1 e2 h1 h2 h3 st
  subst h1; subst h2; subst h3
  exact ⟨v, (T.setVm vm₁).calling g' mk (Value.ref b :: As).toArray, t, U', L, hT, X', hL, e1, e2, hq, st⟩
section
variable {y : MethodName} {bytes cc : ByteArray} {maxL nL mc ms n index : Nat} {ret : Option FieldType} {ws : List Cond} {rm : Room} {Pc : Array Value → State → Prop} {Qc : Array Value → State → Outcome → State → Prop} {XC : String → State → State → Prop} {free : Addr → Prop} {Ts : List Cond} {own C : String} {b : Addr} {As rest : List Value} {g : JFrame}
theorem vx_runVX {hh : List (Nat × Nat × Nat × Nat)} (S : CallFix p m c cc nL s args Ts own) (hM : vx_Met l y ws rm Pc Qc XC mc ms free) (cw : vx_CVW R s args own C index y bytes maxL ret hh ws rm mc ms n) (hp : PreV s H C b Pc As)
    (hg : g.method = m) (hn : As.length = n) (hsize : g.locals.size = nL) (hstack : g.stack = As.reverse ++ .ref b :: rest) (hW : 2 * g.monitorRoom + (rest.map fun v => v.category).sum ≤ 8) (hdg : decode cc g.pc = .ok (.invokevirtual index, 3)) (hf : cells + mc ≤ R.cells ∧ slots + ms ≤ R.slots) :
    vx_Run p l e R s m args below meth c H locs cells slots mc ms g rest (Qc (Value.ref b :: As).toArray) XC free := by
  obtain ⟨⟨hrc, hrs, hfr, hlo, hws, hcw⟩, hcode, hini, hy, hlen, hl, hin, hse⟩ := cw
  have hK : vx_Back l R p e below s args y 3 8 (PreOf R mc ms Pc) (PostOf Qc mc ms free) (vx_Post XC mc ms free) := vx_backW (hh := hh) (bytes := bytes) (maxL := maxL) (ret := ret) hM hp.1 hrc hrs hfr hlo hws hcw (fun a' U hW => word_at hW (Or.inl (by first | rfl | simp [Cond.onTables, Cond.keeps, Cond.steady])) hini)
  obtain ⟨hx, hb, hml, ho, -⟩ := S
  obtain ⟨-, ⟨cellB, hcB, hoB, hclB⟩, hPc⟩ := hp
  intro T hT X
  rcases vx_callVX X hx (C := C) (hh := hh) (bytes := bytes) (maxL := maxL) (ret := ret) ho hl hin hse hcode hy hK (by rw [hT]; exact hcB) hoB hclB hg (hsize.trans hml.symm) (argsL := As) (rest := rest) (fun sig h => hn.trans (hlen sig h)) hstack hW (by rw [hb]; exact hdg)
    (fun vm₁ hW₁ => ⟨hf.1, hf.2, hPc (T.setVm vm₁) hT hW₁⟩) with ⟨v, vm₁, ⟨U', l2, c2, s2⟩, hW₁, X', ⟨g', mk, t, L, e1, e2, hq, h1, hL, h2, h3⟩, st⟩ | ⟨q, vm₁, ⟨U', l2, c2, s2⟩, hW₁, X', ⟨g', mk, t, L, E, ce, e1, e2, hq, hce, hcv, hcl, h1, hL, h2, h3⟩, st⟩
  · dsimp only [Pt.U, Pt.locs, Pt.cells, Pt.slots] at X' e1 e2 h1 h2 h3 st
    subst h1; subst h2; subst h3
    exact Or.inl ⟨v, (T.setVm vm₁).calling g' mk (Value.ref b :: As).toArray, t, U', L, hT, X', hL, e1, e2, hq, st⟩
  · dsimp only [Pt.U, Pt.locs, Pt.cells, Pt.slots] at X' e1 e2 h1 h2 h3 st hcl
    subst h1; subst h2; subst h3
    exact Or.inr ⟨q, (T.setVm vm₁).calling g' mk (Value.ref b :: As).toArray, t, U', L, E, ce, hT, X', hL, e1, e2, hq, hce, hcv, vx_cls hW₁ hcl, st⟩
theorem vx_runSX {hh : List (Nat × Nat × Nat × Nat)} (S : CallFix p m c cc nL s args Ts own) (hM : vx_Met l y ws rm Pc Qc XC mc ms free) (cw : vx_CSW R s args own index y bytes maxL ret hh ws rm mc ms n) (hp : PreS s H Pc As)
    (hg : g.method = m) (hn : As.length = n) (hsize : g.locals.size = nL) (hstack : g.stack = As.reverse ++ rest) (hW : 2 * g.monitorRoom + (rest.map fun v => v.category).sum ≤ 8) (hdg : decode cc g.pc = .ok (.invokestatic index, 3)) (hf : cells + mc ≤ R.cells ∧ slots + ms ≤ R.slots) :
    vx_Run p l e R s m args below meth c H locs cells slots mc ms g rest (Qc As.toArray) XC free := by
  obtain ⟨⟨hrc, hrs, hfr, hlo, hws, hcw⟩, hcode, hini, hy, hlen, hl, hstt⟩ := cw
  have hK : vx_Back l R p e below s args y 3 8 (PreOf R mc ms Pc) (PostOf Qc mc ms free) (vx_Post XC mc ms free) := vx_backW (hh := hh) (bytes := bytes) (maxL := maxL) (ret := ret) hM hp.1 hrc hrs hfr hlo hws hcw (fun a' U hW => word_at hW (Or.inl (by first | rfl | simp [Cond.onTables, Cond.keeps, Cond.steady])) hini)
  obtain ⟨hx, hb, hml, ho, -⟩ := S
  intro T hT X
  rcases vx_callSX X hx (hh := hh) (bytes := bytes) (maxL := maxL) (ret := ret) ho hl hstt hini hcode hy hK hg (hsize.trans hml.symm) (argsL := As) (rest := rest) (fun sig h => hn.trans (hlen sig h)) hstack hW (by rw [hb]; exact hdg)
    (fun vm₁ hW₁ => ⟨hf.1, hf.2, hp.2 (T.setVm vm₁) hT hW₁⟩) with ⟨v, vm₁, ⟨U', l2, c2, s2⟩, hW₁, X', ⟨g', mk, t, L, e1, e2, hq, h1, hL, h2, h3⟩, st⟩ | ⟨q, vm₁, ⟨U', l2, c2, s2⟩, hW₁, X', ⟨g', mk, t, L, E, ce, e1, e2, hq, hce, hcv, hcl, h1, hL, h2, h3⟩, st⟩
  · dsimp only [Pt.U, Pt.locs, Pt.cells, Pt.slots] at X' e1 e2 h1 h2 h3 st
    subst h1; subst h2; subst h3
    exact Or.inl ⟨v, (T.setVm vm₁).calling g' mk As.toArray, t, U', L, hT, X', hL, e1, e2, hq, st⟩
  · dsimp only [Pt.U, Pt.locs, Pt.cells, Pt.slots] at X' e1 e2 h1 h2 h3 st hcl
    subst h1; subst h2; subst h3
    exact Or.inr ⟨q, (T.setVm vm₁).calling g' mk As.toArray, t, U', L, E, ce, hT, X', hL, e1, e2, hq, hce, hcv, vx_cls hW₁ hcl, st⟩
end
end VXH
theorem vx_ofWH {l : Launch} {y : MethodName} {ws ws' : List Cond} {rm : Room} {Pc : Array Value → State → Prop} {Qc : Array Value → State → Outcome → State → Prop} {XC : String → State → State → Prop} {mc ms : Nat} {free : Addr → Prop} {cc : ByteArray} {maxL : Nat} {ret : Option FieldType} {hh : List (Nat × Nat × Nat × Nat)}
    (hy : plainName y.cls = true) (hw : ws = Cond.codeWith y cc maxL ret hh :: ws')
    (body : ∀ p e s m args below meth c s₁, BodyLoose p l y (headSpec ws rm) cc maxL ret e s m args below meth c s₁ → c.maxLocals = maxL → Pc args s →
      W p l e (headSpec ws rm).room s m args below meth c s.heap [] 0 0 (vx_MQ below Qc XC args s mc ms free) (entryFrame m args maxL)) : vx_Met l y ws rm Pc Qc XC mc ms free := by
  refine MetFree.of_bodyS (code := cc) (maxLocals := maxL) (ret := ret) hy ?_ ?_
  · intro args s m h hn
    obtain ⟨m9, meth, c, hn9, h1, h2, h3, h4, -, h5, h6, -⟩ := Cond.codeWith_spec (atoms_spec (ws := ws) h _ (by rw [hw]; exact List.mem_cons_self))
    cases hn.symm.trans hn9
    exact ⟨meth, c, h1, h2, h3, h4, h5, h6⟩
  · intro p e s m args below meth c s₁ B hml hP _
    have hh0 : s₁.heap = s.heap := by rw [B.state]; rfl
    obtain ⟨t, a1, o, b1, b2, b3⟩ := body p e s m args below meth c s₁ B hml hP s₁ hh0 (Stand.of_body B)
    exact ⟨t, o, a1, b1, b2, b3⟩
/-! ===== END ===== -/
end
section
/-! ===== BEGIN printed: names, fields, word lists, decode rows ===== -/
def RX0 : String := "SleepBorder$Border"
def TX0 : u_T := fun k => match k with
  | 0 => ("SleepBorder$Border", "clock", "I", false)
  | 1 => ("SleepBorder$Border", "expiredCount", "I", false)
  | 2 => ("SleepBorder$Border", "till", "I", false)
  | 3 => ("SleepBorder$Border", "travellerCount", "I", false)
  | 4 => ("SleepBorder$Border", "dreams", "[I", true)
  | 5 => ("SleepBorder$Border", "declared", "[I", true)
  | 6 => ("SleepBorder$Border", "snore", "[I", true)
  | 7 => ("SleepBorder$Border", "lullaby", "[I", true)
  | 8 => ("SleepBorder$Border", "state", "[I", true)
  | 9 => ("SleepBorder$Border", "transitLeft", "[I", true)
  | 10 => ("SleepBorder$Border", "asleepSince", "[I", true)
  | 11 => ("SleepBorder$Border", "guardCount", "I", false)
  | 12 => ("SleepBorder$Border", "alertness", "[I", true)
  | 13 => ("SleepBorder$Border", "searched", "[I", true)
  | _ => ("SleepBorder$Border", "searchLeft", "[I", true)
def tyX0 : Nat → FieldType := fun k => match k with
  | 0 => .int
  | 1 => .int
  | 2 => .int
  | 3 => .int
  | 4 => .array .int
  | 5 => .array .int
  | 6 => .array .int
  | 7 => .array .int
  | 8 => .array .int
  | 9 => .array .int
  | 10 => .array .int
  | 11 => .int
  | 12 => .array .int
  | 13 => .array .int
  | _ => .array .int
abbrev wsX00 : List Cond := u_ws RX0 TX0 15
theorem nmX0 : ∀ a, a < 15 → ∀ b, b < 15 → a ≠ b → (TX0 a).2.1 ≠ (TX0 b).2.1 := by decide +kernel
theorem tyX0_ok : ∀ k, k < 15 → parseFieldDescriptor (TX0 k).2.2.1 = some (tyX0 k) := by decide +kernel
abbrev cX0_init : ByteArray := prog_2_method_1_code
def yX0_init : MethodName := ⟨RX0, "<init>", "()V"⟩
abbrev cX0_become : ByteArray := prog_2_method_2_code
def yX0_become : MethodName := ⟨RX0, "become", "(LSleepBorder$Border;)V"⟩
abbrev cX0_admitGuard : ByteArray := prog_2_method_3_code
def yX0_admitGuard : MethodName := ⟨RX0, "admitGuard", "()V"⟩
abbrev cX0_admitTraveller : ByteArray := prog_2_method_4_code
def yX0_admitTraveller : MethodName := ⟨RX0, "admitTraveller", "(IIII)V"⟩
abbrev cX0_isTraveller : ByteArray := prog_2_method_5_code
def yX0_isTraveller : MethodName := ⟨RX0, "isTraveller", "(I)Z"⟩
abbrev cX0_isGuard : ByteArray := prog_2_method_6_code
def yX0_isGuard : MethodName := ⟨RX0, "isGuard", "(I)Z"⟩
abbrev cX0_countIn : ByteArray := prog_2_method_7_code
def yX0_countIn : MethodName := ⟨RX0, "countIn", "(I)I"⟩
abbrev cX0_waitingAhead : ByteArray := prog_2_method_8_code
def yX0_waitingAhead : MethodName := ⟨RX0, "waitingAhead", "(I)I"⟩
abbrev cX0_firstWaiting : ByteArray := prog_2_method_9_code
def yX0_firstWaiting : MethodName := ⟨RX0, "firstWaiting", "()I"⟩
abbrev cX0_addedSnores : ByteArray := prog_2_method_10_code
def yX0_addedSnores : MethodName := ⟨RX0, "addedSnores", "()I"⟩
abbrev cX0_hiddenDreams : ByteArray := prog_2_method_11_code
def yX0_hiddenDreams : MethodName := ⟨RX0, "hiddenDreams", "(I)I"⟩
abbrev cX0_searchMinutes : ByteArray := prog_2_method_12_code
def yX0_searchMinutes : MethodName := ⟨RX0, "searchMinutes", "(I)I"⟩
abbrev cX0_finds : ByteArray := prog_2_method_13_code
def yX0_finds : MethodName := ⟨RX0, "finds", "(II)Z"⟩
abbrev cX0_goOn : ByteArray := prog_2_method_14_code
def yX0_goOn : MethodName := ⟨RX0, "goOn", "(I)V"⟩
abbrev cX0_isSettled : ByteArray := prog_2_method_15_code
def yX0_isSettled : MethodName := ⟨RX0, "isSettled", "()Z"⟩
abbrev cX0_goOneMinute : ByteArray := prog_2_method_16_code
def yX0_goOneMinute : MethodName := ⟨RX0, "goOneMinute", "()V"⟩
abbrev cX0_advanceTransits : ByteArray := prog_2_method_17_code
def yX0_advanceTransits : MethodName := ⟨RX0, "advanceTransits", "()V"⟩
abbrev cX0_shortenLullabies : ByteArray := prog_2_method_18_code
def yX0_shortenLullabies : MethodName := ⟨RX0, "shortenLullabies", "()V"⟩
abbrev cX0_work : ByteArray := prog_2_method_19_code
def yX0_work : MethodName := ⟨RX0, "work", "(I)V"⟩
abbrev cX0_beginSearch : ByteArray := prog_2_method_20_code
def yX0_beginSearch : MethodName := ⟨RX0, "beginSearch", "(II)V"⟩
abbrev cX0_searchOn : ByteArray := prog_2_method_21_code
def yX0_searchOn : MethodName := ⟨RX0, "searchOn", "(II)V"⟩
def RX1 : String := "SleepBorder"
def TX1 : u_T := fun k => match k with
  | 0 => ("SleepBorder", "now", "LSleepBorder$Border;", true)
  | _ => ("SleepBorder", "trial", "LSleepBorder$Border;", true)
def tyX1 : Nat → FieldType := fun k => match k with
  | 0 => .object "SleepBorder$Border"
  | _ => .object "SleepBorder$Border"
abbrev wsX10 : List Cond := u_ws RX1 TX1 2
theorem nmX1 : ∀ a, a < 2 → ∀ b, b < 2 → a ≠ b → (TX1 a).2.1 ≠ (TX1 b).2.1 := by decide +kernel
theorem tyX1_ok : ∀ k, k < 2 → parseFieldDescriptor (TX1 k).2.2.1 = some (tyX1 k) := by decide +kernel
abbrev cX1_init : ByteArray := prog_1_method_1_code
def yX1_init : MethodName := ⟨RX1, "<init>", "()V"⟩
abbrev cX1_addGuard : ByteArray := prog_1_method_2_code
def yX1_addGuard : MethodName := ⟨RX1, "addGuard", "()I"⟩
abbrev cX1_arrive : ByteArray := prog_1_method_3_code
def yX1_arrive : MethodName := ⟨RX1, "arrive", "(IIII)I"⟩
abbrev cX1_declare : ByteArray := prog_1_method_4_code
def yX1_declare : MethodName := ⟨RX1, "declare", "(II)I"⟩
abbrev cX1_sing : ByteArray := prog_1_method_5_code
def yX1_sing : MethodName := ⟨RX1, "sing", "(II)I"⟩
abbrev cX1_wake : ByteArray := prog_1_method_6_code
def yX1_wake : MethodName := ⟨RX1, "wake", "(I)I"⟩
abbrev cX1_pass : ByteArray := prog_1_method_7_code
def yX1_pass : MethodName := ⟨RX1, "pass", "(I)I"⟩
abbrev cX1_minute : ByteArray := prog_1_method_8_code
def yX1_minute : MethodName := ⟨RX1, "minute", "()I"⟩
abbrev cX1_travellers : ByteArray := prog_1_method_9_code
def yX1_travellers : MethodName := ⟨RX1, "travellers", "()I"⟩
abbrev cX1_waiting : ByteArray := prog_1_method_10_code
def yX1_waiting : MethodName := ⟨RX1, "waiting", "()I"⟩
abbrev cX1_asleep : ByteArray := prog_1_method_11_code
def yX1_asleep : MethodName := ⟨RX1, "asleep", "()I"⟩
abbrev cX1_sentBack : ByteArray := prog_1_method_12_code
def yX1_sentBack : MethodName := ⟨RX1, "sentBack", "()I"⟩
abbrev cX1_expired : ByteArray := prog_1_method_13_code
def yX1_expired : MethodName := ⟨RX1, "expired", "()I"⟩
abbrev cX1_paid : ByteArray := prog_1_method_14_code
def yX1_paid : MethodName := ⟨RX1, "paid", "()I"⟩
abbrev cX1_noise : ByteArray := prog_1_method_15_code
def yX1_noise : MethodName := ⟨RX1, "noise", "()I"⟩
abbrev cX1_nextInLine : ByteArray := prog_1_method_16_code
def yX1_nextInLine : MethodName := ⟨RX1, "nextInLine", "()I"⟩
abbrev cX1_stateOf : ByteArray := prog_1_method_17_code
def yX1_stateOf : MethodName := ⟨RX1, "stateOf", "(I)I"⟩
abbrev cX1_hiddenOf : ByteArray := prog_1_method_18_code
def yX1_hiddenOf : MethodName := ⟨RX1, "hiddenOf", "(I)I"⟩
abbrev cX1_lullabyOf : ByteArray := prog_1_method_19_code
def yX1_lullabyOf : MethodName := ⟨RX1, "lullabyOf", "(I)I"⟩
abbrev cX1_placeInLine : ByteArray := prog_1_method_20_code
def yX1_placeInLine : MethodName := ⟨RX1, "placeInLine", "(I)I"⟩
abbrev cX1_searchTime : ByteArray := prog_1_method_21_code
def yX1_searchTime : MethodName := ⟨RX1, "searchTime", "(I)I"⟩
abbrev cX1_guards : ByteArray := prog_1_method_22_code
def yX1_guards : MethodName := ⟨RX1, "guards", "()I"⟩
abbrev cX1_alertnessOf : ByteArray := prog_1_method_23_code
def yX1_alertnessOf : MethodName := ⟨RX1, "alertnessOf", "(I)I"⟩
abbrev cX1_searches : ByteArray := prog_1_method_24_code
def yX1_searches : MethodName := ⟨RX1, "searches", "(I)I"⟩
abbrev cX1_minutesToGo : ByteArray := prog_1_method_25_code
def yX1_minutesToGo : MethodName := ⟨RX1, "minutesToGo", "(I)I"⟩
abbrev cX1_wouldFind : ByteArray := prog_1_method_26_code
def yX1_wouldFind : MethodName := ⟨RX1, "wouldFind", "(II)Z"⟩
abbrev cX1_mostAlert : ByteArray := prog_1_method_27_code
def yX1_mostAlert : MethodName := ⟨RX1, "mostAlert", "()I"⟩
abbrev cX1_minutesUntilAsleep : ByteArray := prog_1_method_28_code
def yX1_minutesUntilAsleep : MethodName := ⟨RX1, "minutesUntilAsleep", "(I)I"⟩
abbrev cX1_asleepIn : ByteArray := prog_1_method_29_code
def yX1_asleepIn : MethodName := ⟨RX1, "asleepIn", "(I)I"⟩
abbrev cX1_bestToDeclare : ByteArray := prog_1_method_30_code
def yX1_bestToDeclare : MethodName := ⟨RX1, "bestToDeclare", "(I)I"⟩
abbrev cX1_guardsWanted : ByteArray := prog_1_method_31_code
def yX1_guardsWanted : MethodName := ⟨RX1, "guardsWanted", "()I"⟩
abbrev cX1_meanAlertness : ByteArray := prog_1_method_32_code
def yX1_meanAlertness : MethodName := ⟨RX1, "meanAlertness", "()D"⟩
abbrev cX1_digest : ByteArray := prog_1_method_33_code
def yX1_digest : MethodName := ⟨RX1, "digest", "()J"⟩
abbrev cX1_mixTravellers : ByteArray := prog_1_method_34_code
def yX1_mixTravellers : MethodName := ⟨RX1, "mixTravellers", "(J)J"⟩
abbrev cX1_mixGuards : ByteArray := prog_1_method_35_code
def yX1_mixGuards : MethodName := ⟨RX1, "mixGuards", "(J)J"⟩
abbrev cX1_mix : ByteArray := prog_1_method_36_code
def yX1_mix : MethodName := ⟨RX1, "mix", "(JI)J"⟩
abbrev cX1_foreseenSleep : ByteArray := prog_1_method_37_code
def yX1_foreseenSleep : MethodName := ⟨RX1, "foreseenSleep", "(I)I"⟩
abbrev cX1_requireTraveller : ByteArray := prog_1_method_38_code
def yX1_requireTraveller : MethodName := ⟨RX1, "requireTraveller", "(I)V"⟩
abbrev cX1_requireGuard : ByteArray := prog_1_method_39_code
def yX1_requireGuard : MethodName := ⟨RX1, "requireGuard", "(I)V"⟩
abbrev cX1_requireDigit : ByteArray := prog_1_method_40_code
def yX1_requireDigit : MethodName := ⟨RX1, "requireDigit", "(I)V"⟩
abbrev cX1_requireMinutes : ByteArray := prog_1_method_41_code
def yX1_requireMinutes : MethodName := ⟨RX1, "requireMinutes", "(I)V"⟩
abbrev cX1_requireWaiting : ByteArray := prog_1_method_42_code
def yX1_requireWaiting : MethodName := ⟨RX1, "requireWaiting", "(I)V"⟩
def RX2 : String := "SleepBorderModel"
def TX2 : u_T := fun k => match k with
  | 0 => ("SleepBorderModel", "thrown", "I", false)
  | 1 => ("SleepBorderModel", "travellers", "I", false)
  | 2 => ("SleepBorderModel", "dreams", "[I", true)
  | 3 => ("SleepBorderModel", "snore", "[I", true)
  | 4 => ("SleepBorderModel", "now", "[I", true)
  | 5 => ("SleepBorderModel", "kept", "[I", true)
  | _ => ("SleepBorderModel", "free", "[Z", true)
def tyX2 : Nat → FieldType := fun k => match k with
  | 0 => .int
  | 1 => .int
  | 2 => .array .int
  | 3 => .array .int
  | 4 => .array .int
  | 5 => .array .int
  | _ => .array .boolean
abbrev wsX20 : List Cond := u_ws RX2 TX2 7
theorem nmX2 : ∀ a, a < 7 → ∀ b, b < 7 → a ≠ b → (TX2 a).2.1 ≠ (TX2 b).2.1 := by decide +kernel
theorem tyX2_ok : ∀ k, k < 7 → parseFieldDescriptor (TX2 k).2.2.1 = some (tyX2 k) := by decide +kernel
abbrev cX2_init : ByteArray := prog_4_method_1_code
def yX2_init : MethodName := ⟨RX2, "<init>", "()V"⟩
abbrev cX2_thrown : ByteArray := prog_4_method_2_code
def yX2_thrown : MethodName := ⟨RX2, "thrown", "()I"⟩
abbrev cX2_fail : ByteArray := prog_4_method_3_code
def yX2_fail : MethodName := ⟨RX2, "fail", "(I)I"⟩
abbrev cX2_told : ByteArray := prog_4_method_4_code
def yX2_told : MethodName := ⟨RX2, "told", "(I)I"⟩
abbrev cX2_isIn : ByteArray := prog_4_method_5_code
def yX2_isIn : MethodName := ⟨RX2, "isIn", "(III)Z"⟩
abbrev cX2_isTraveller : ByteArray := prog_4_method_6_code
def yX2_isTraveller : MethodName := ⟨RX2, "isTraveller", "(I)Z"⟩
abbrev cX2_isGuard : ByteArray := prog_4_method_7_code
def yX2_isGuard : MethodName := ⟨RX2, "isGuard", "(I)Z"⟩
abbrev cX2_tr : ByteArray := prog_4_method_8_code
def yX2_tr : MethodName := ⟨RX2, "tr", "(II)I"⟩
abbrev cX2_let : ByteArray := prog_4_method_9_code
def yX2_let : MethodName := ⟨RX2, "let", "(III)V"⟩
abbrev cX2_gu : ByteArray := prog_4_method_10_code
def yX2_gu : MethodName := ⟨RX2, "gu", "(II)I"⟩
abbrev cX2_post : ByteArray := prog_4_method_11_code
def yX2_post : MethodName := ⟨RX2, "post", "(III)V"⟩
abbrev cX2_keep : ByteArray := prog_4_method_12_code
def yX2_keep : MethodName := ⟨RX2, "keep", "()V"⟩
abbrev cX2_bringBack : ByteArray := prog_4_method_13_code
def yX2_bringBack : MethodName := ⟨RX2, "bringBack", "()V"⟩
abbrev cX2_count : ByteArray := prog_4_method_14_code
def yX2_count : MethodName := ⟨RX2, "count", "(I)I"⟩
abbrev cX2_loud : ByteArray := prog_4_method_15_code
def yX2_loud : MethodName := ⟨RX2, "loud", "()I"⟩
abbrev cX2_hidden : ByteArray := prog_4_method_16_code
def yX2_hidden : MethodName := ⟨RX2, "hidden", "(I)I"⟩
abbrev cX2_finds : ByteArray := prog_4_method_17_code
def yX2_finds : MethodName := ⟨RX2, "finds", "(II)Z"⟩
abbrev cX2_takes : ByteArray := prog_4_method_18_code
def yX2_takes : MethodName := ⟨RX2, "takes", "(I)I"⟩
abbrev cX2_first : ByteArray := prog_4_method_19_code
def yX2_first : MethodName := ⟨RX2, "first", "()I"⟩
abbrev cX2_travel : ByteArray := prog_4_method_20_code
def yX2_travel : MethodName := ⟨RX2, "travel", "(I)V"⟩
abbrev cX2_listen : ByteArray := prog_4_method_21_code
def yX2_listen : MethodName := ⟨RX2, "listen", "(I)V"⟩
abbrev cX2_searchOn : ByteArray := prog_4_method_22_code
def yX2_searchOn : MethodName := ⟨RX2, "searchOn", "(I)V"⟩
abbrev cX2_begin : ByteArray := prog_4_method_23_code
def yX2_begin : MethodName := ⟨RX2, "begin", "(I)V"⟩
abbrev cX2_minuteOn : ByteArray := prog_4_method_24_code
def yX2_minuteOn : MethodName := ⟨RX2, "minuteOn", "()V"⟩
abbrev cX2_minutesOn : ByteArray := prog_4_method_25_code
def yX2_minutesOn : MethodName := ⟨RX2, "minutesOn", "(I)V"⟩
abbrev cX2_hire : ByteArray := prog_4_method_26_code
def yX2_hire : MethodName := ⟨RX2, "hire", "()V"⟩
abbrev cX2_addGuard : ByteArray := prog_4_method_27_code
def yX2_addGuard : MethodName := ⟨RX2, "addGuard", "()I"⟩
abbrev cX2_arrive : ByteArray := prog_4_method_28_code
def yX2_arrive : MethodName := ⟨RX2, "arrive", "(IIII)I"⟩
abbrev cX2_write : ByteArray := prog_4_method_29_code
def yX2_write : MethodName := ⟨RX2, "write", "(IIIII)I"⟩
abbrev cX2_declare : ByteArray := prog_4_method_30_code
def yX2_declare : MethodName := ⟨RX2, "declare", "(II)I"⟩
abbrev cX2_sing : ByteArray := prog_4_method_31_code
def yX2_sing : MethodName := ⟨RX2, "sing", "(II)I"⟩
abbrev cX2_wake : ByteArray := prog_4_method_32_code
def yX2_wake : MethodName := ⟨RX2, "wake", "(I)I"⟩
abbrev cX2_pass : ByteArray := prog_4_method_33_code
def yX2_pass : MethodName := ⟨RX2, "pass", "(I)I"⟩
abbrev cX2_minute : ByteArray := prog_4_method_34_code
def yX2_minute : MethodName := ⟨RX2, "minute", "()I"⟩
abbrev cX2_travellers : ByteArray := prog_4_method_35_code
def yX2_travellers : MethodName := ⟨RX2, "travellers", "()I"⟩
abbrev cX2_waiting : ByteArray := prog_4_method_36_code
def yX2_waiting : MethodName := ⟨RX2, "waiting", "()I"⟩
abbrev cX2_asleep : ByteArray := prog_4_method_37_code
def yX2_asleep : MethodName := ⟨RX2, "asleep", "()I"⟩
abbrev cX2_sentBack : ByteArray := prog_4_method_38_code
def yX2_sentBack : MethodName := ⟨RX2, "sentBack", "()I"⟩
abbrev cX2_expired : ByteArray := prog_4_method_39_code
def yX2_expired : MethodName := ⟨RX2, "expired", "()I"⟩
abbrev cX2_paid : ByteArray := prog_4_method_40_code
def yX2_paid : MethodName := ⟨RX2, "paid", "()I"⟩
abbrev cX2_noise : ByteArray := prog_4_method_41_code
def yX2_noise : MethodName := ⟨RX2, "noise", "()I"⟩
abbrev cX2_nextInLine : ByteArray := prog_4_method_42_code
def yX2_nextInLine : MethodName := ⟨RX2, "nextInLine", "()I"⟩
abbrev cX2_stateOf : ByteArray := prog_4_method_43_code
def yX2_stateOf : MethodName := ⟨RX2, "stateOf", "(I)I"⟩
abbrev cX2_hiddenOf : ByteArray := prog_4_method_44_code
def yX2_hiddenOf : MethodName := ⟨RX2, "hiddenOf", "(I)I"⟩
abbrev cX2_lullabyOf : ByteArray := prog_4_method_45_code
def yX2_lullabyOf : MethodName := ⟨RX2, "lullabyOf", "(I)I"⟩
abbrev cX2_place : ByteArray := prog_4_method_46_code
def yX2_place : MethodName := ⟨RX2, "place", "(I)I"⟩
abbrev cX2_placeInLine : ByteArray := prog_4_method_47_code
def yX2_placeInLine : MethodName := ⟨RX2, "placeInLine", "(I)I"⟩
abbrev cX2_searchTime : ByteArray := prog_4_method_48_code
def yX2_searchTime : MethodName := ⟨RX2, "searchTime", "(I)I"⟩
abbrev cX2_guards : ByteArray := prog_4_method_49_code
def yX2_guards : MethodName := ⟨RX2, "guards", "()I"⟩
abbrev cX2_guard : ByteArray := prog_4_method_50_code
def yX2_guard : MethodName := ⟨RX2, "guard", "(II)I"⟩
abbrev cX2_alertnessOf : ByteArray := prog_4_method_51_code
def yX2_alertnessOf : MethodName := ⟨RX2, "alertnessOf", "(I)I"⟩
abbrev cX2_searches : ByteArray := prog_4_method_52_code
def yX2_searches : MethodName := ⟨RX2, "searches", "(I)I"⟩
abbrev cX2_minutesToGo : ByteArray := prog_4_method_53_code
def yX2_minutesToGo : MethodName := ⟨RX2, "minutesToGo", "(I)I"⟩
abbrev cX2_wouldFind : ByteArray := prog_4_method_54_code
def yX2_wouldFind : MethodName := ⟨RX2, "wouldFind", "(II)Z"⟩
abbrev cX2_alertest : ByteArray := prog_4_method_55_code
def yX2_alertest : MethodName := ⟨RX2, "alertest", "()I"⟩
abbrev cX2_mostAlert : ByteArray := prog_4_method_56_code
def yX2_mostAlert : MethodName := ⟨RX2, "mostAlert", "()I"⟩
abbrev cX2_run : ByteArray := prog_4_method_57_code
def yX2_run : MethodName := ⟨RX2, "run", "(I)I"⟩
abbrev cX2_until : ByteArray := prog_4_method_58_code
def yX2_until : MethodName := ⟨RX2, "until", "(I)I"⟩
abbrev cX2_minutesUntilAsleep : ByteArray := prog_4_method_59_code
def yX2_minutesUntilAsleep : MethodName := ⟨RX2, "minutesUntilAsleep", "(I)I"⟩
abbrev cX2_sleepers : ByteArray := prog_4_method_60_code
def yX2_sleepers : MethodName := ⟨RX2, "sleepers", "(I)I"⟩
abbrev cX2_asleepIn : ByteArray := prog_4_method_61_code
def yX2_asleepIn : MethodName := ⟨RX2, "asleepIn", "(I)I"⟩
abbrev cX2_bestToDeclare : ByteArray := prog_4_method_62_code
def yX2_bestToDeclare : MethodName := ⟨RX2, "bestToDeclare", "(I)I"⟩
abbrev cX2_wanted : ByteArray := prog_4_method_63_code
def yX2_wanted : MethodName := ⟨RX2, "wanted", "()I"⟩
abbrev cX2_guardsWanted : ByteArray := prog_4_method_64_code
def yX2_guardsWanted : MethodName := ⟨RX2, "guardsWanted", "()I"⟩
abbrev cX2_meanAlertness : ByteArray := prog_4_method_65_code
def yX2_meanAlertness : MethodName := ⟨RX2, "meanAlertness", "()D"⟩
abbrev cX2_digest : ByteArray := prog_4_method_66_code
def yX2_digest : MethodName := ⟨RX2, "digest", "()J"⟩
def RJ9 : String := "java/lang/Math"
def TJ9 : u_T := fun k => match k with
  | _ => ("", "", "", false)
def tyJ9 : Nat → FieldType := fun k => match k with
  | _ => .int
abbrev wsJ90 : List Cond := u_ws RJ9 TJ9 0
theorem nmJ9 : ∀ a, a < 0 → ∀ b, b < 0 → a ≠ b → (TJ9 a).2.1 ≠ (TJ9 b).2.1 := by decide +kernel
theorem tyJ9_ok : ∀ k, k < 0 → parseFieldDescriptor (TJ9 k).2.2.1 = some (tyJ9 k) := by decide +kernel
abbrev cJ9_max_7cf53 : ByteArray := prog_9_method_65_code
def yJ9_max_7cf53 : MethodName := ⟨RJ9, "max", "(II)I"⟩
abbrev cJ9_min_7cf53 : ByteArray := prog_9_method_69_code
def yJ9_min_7cf53 : MethodName := ⟨RJ9, "min", "(II)I"⟩
def RJ0 : String := "java/lang/String"
def TJ0 : u_T := fun k => match k with
  | _ => ("", "", "", false)
def tyJ0 : Nat → FieldType := fun k => match k with
  | _ => .int
abbrev wsJ00 : List Cond := u_ws RJ0 TJ0 0
theorem nmJ0 : ∀ a, a < 0 → ∀ b, b < 0 → a ≠ b → (TJ0 a).2.1 ≠ (TJ0 b).2.1 := by decide +kernel
theorem tyJ0_ok : ∀ k, k < 0 → parseFieldDescriptor (TJ0 k).2.2.1 = some (tyJ0 k) := by decide +kernel
def RJ10 : String := "java/lang/System"
def TJ10 : u_T := fun k => match k with
  | _ => ("", "", "", false)
def tyJ10 : Nat → FieldType := fun k => match k with
  | _ => .int
abbrev wsJ100 : List Cond := u_ws RJ10 TJ10 0
theorem nmJ10 : ∀ a, a < 0 → ∀ b, b < 0 → a ≠ b → (TJ10 a).2.1 ≠ (TJ10 b).2.1 := by decide +kernel
theorem tyJ10_ok : ∀ k, k < 0 → parseFieldDescriptor (TJ10 k).2.2.1 = some (tyJ10 k) := by decide +kernel
def RL : String := "SleepBorderLaw"
abbrev cL_addGuard : ByteArray := method_3_code
def yL_addGuard : MethodName := ⟨RL, "addGuard", "(LSleepBorder;[J)I"⟩
abbrev cL_arrive : ByteArray := method_4_code
def yL_arrive : MethodName := ⟨RL, "arrive", "(LSleepBorder;IIII[J)I"⟩
abbrev cL_declare : ByteArray := method_5_code
def yL_declare : MethodName := ⟨RL, "declare", "(LSleepBorder;II[J)I"⟩
abbrev cL_sing : ByteArray := method_6_code
def yL_sing : MethodName := ⟨RL, "sing", "(LSleepBorder;II[J)I"⟩
abbrev cL_wake : ByteArray := method_7_code
def yL_wake : MethodName := ⟨RL, "wake", "(LSleepBorder;I[J)I"⟩
abbrev cL_pass : ByteArray := method_8_code
def yL_pass : MethodName := ⟨RL, "pass", "(LSleepBorder;I[J)I"⟩
abbrev cL_stateOf : ByteArray := method_9_code
def yL_stateOf : MethodName := ⟨RL, "stateOf", "(LSleepBorder;I[J)I"⟩
abbrev cL_hiddenOf : ByteArray := method_10_code
def yL_hiddenOf : MethodName := ⟨RL, "hiddenOf", "(LSleepBorder;I[J)I"⟩
abbrev cL_lullabyOf : ByteArray := method_11_code
def yL_lullabyOf : MethodName := ⟨RL, "lullabyOf", "(LSleepBorder;I[J)I"⟩
abbrev cL_placeInLine : ByteArray := method_12_code
def yL_placeInLine : MethodName := ⟨RL, "placeInLine", "(LSleepBorder;I[J)I"⟩
abbrev cL_searchTime : ByteArray := method_13_code
def yL_searchTime : MethodName := ⟨RL, "searchTime", "(LSleepBorder;I[J)I"⟩
abbrev cL_alertnessOf : ByteArray := method_14_code
def yL_alertnessOf : MethodName := ⟨RL, "alertnessOf", "(LSleepBorder;I[J)I"⟩
abbrev cL_searches : ByteArray := method_15_code
def yL_searches : MethodName := ⟨RL, "searches", "(LSleepBorder;I[J)I"⟩
abbrev cL_minutesToGo : ByteArray := method_16_code
def yL_minutesToGo : MethodName := ⟨RL, "minutesToGo", "(LSleepBorder;I[J)I"⟩
abbrev cL_wouldFind : ByteArray := method_17_code
def yL_wouldFind : MethodName := ⟨RL, "wouldFind", "(LSleepBorder;II[J)I"⟩
abbrev cL_minutesUntilAsleep : ByteArray := method_18_code
def yL_minutesUntilAsleep : MethodName := ⟨RL, "minutesUntilAsleep", "(LSleepBorder;I[J)I"⟩
abbrev cL_asleepIn : ByteArray := method_19_code
def yL_asleepIn : MethodName := ⟨RL, "asleepIn", "(LSleepBorder;I[J)I"⟩
abbrev cL_bestToDeclare : ByteArray := method_20_code
def yL_bestToDeclare : MethodName := ⟨RL, "bestToDeclare", "(LSleepBorder;I[J)I"⟩
abbrev cL_law : ByteArray := code
def yL_law : MethodName := ⟨RL, "law", "([I)Z"⟩
def wsX0_init : List Cond := .code yX0_init cX0_init 1 none :: ([.methodLink RX0 3 objectInit, .instanceMethod objectInit, .code objectInit ⟨#[0xb1]⟩ 1 none, .fieldLink RX0 9 "SleepBorder$Border" "clock" "I", .fieldLink RX0 15 "SleepBorder$Border" "expiredCount" "I", .fieldLink RX0 18 "SleepBorder$Border" "till" "I", .fieldLink RX0 21 "SleepBorder$Border" "travellerCount" "I", .arrayClass .int, .fieldLink RX0 24 "SleepBorder$Border" "dreams" "[I", .fieldLink RX0 28 "SleepBorder$Border" "declared" "[I", .fieldLink RX0 31 "SleepBorder$Border" "snore" "[I", .fieldLink RX0 34 "SleepBorder$Border" "lullaby" "[I", .fieldLink RX0 37 "SleepBorder$Border" "state" "[I", .fieldLink RX0 40 "SleepBorder$Border" "transitLeft" "[I", .fieldLink RX0 43 "SleepBorder$Border" "asleepSince" "[I", .fieldLink RX0 46 "SleepBorder$Border" "guardCount" "I", .fieldLink RX0 49 "SleepBorder$Border" "alertness" "[I", .fieldLink RX0 52 "SleepBorder$Border" "searched" "[I", .fieldLink RX0 55 "SleepBorder$Border" "searchLeft" "[I"] ++ wsX00)
def wsX0_become : List Cond := .code yX0_become cX0_become 3 none :: ([.fieldLink RX0 9 "SleepBorder$Border" "clock" "I", .fieldLink RX0 15 "SleepBorder$Border" "expiredCount" "I", .fieldLink RX0 18 "SleepBorder$Border" "till" "I", .fieldLink RX0 21 "SleepBorder$Border" "travellerCount" "I", .fieldLink RX0 24 "SleepBorder$Border" "dreams" "[I", .fieldLink RX0 28 "SleepBorder$Border" "declared" "[I", .fieldLink RX0 31 "SleepBorder$Border" "snore" "[I", .fieldLink RX0 34 "SleepBorder$Border" "lullaby" "[I", .fieldLink RX0 37 "SleepBorder$Border" "state" "[I", .fieldLink RX0 40 "SleepBorder$Border" "transitLeft" "[I", .fieldLink RX0 43 "SleepBorder$Border" "asleepSince" "[I", .fieldLink RX0 46 "SleepBorder$Border" "guardCount" "I", .fieldLink RX0 49 "SleepBorder$Border" "alertness" "[I", .fieldLink RX0 52 "SleepBorder$Border" "searched" "[I", .fieldLink RX0 55 "SleepBorder$Border" "searchLeft" "[I"] ++ wsX00)
def wsX0_admitGuard : List Cond := .code yX0_admitGuard cX0_admitGuard 1 none :: ([.fieldLink RX0 46 "SleepBorder$Border" "guardCount" "I", .fieldLink RX0 49 "SleepBorder$Border" "alertness" "[I", .fieldLink RX0 52 "SleepBorder$Border" "searched" "[I", .fieldLink RX0 55 "SleepBorder$Border" "searchLeft" "[I"] ++ wsX00)
def wsX0_admitTraveller : List Cond := .code yX0_admitTraveller cX0_admitTraveller 5 none :: ([.fieldLink RX0 21 "SleepBorder$Border" "travellerCount" "I", .fieldLink RX0 24 "SleepBorder$Border" "dreams" "[I", .fieldLink RX0 28 "SleepBorder$Border" "declared" "[I", .fieldLink RX0 31 "SleepBorder$Border" "snore" "[I", .fieldLink RX0 34 "SleepBorder$Border" "lullaby" "[I", .fieldLink RX0 37 "SleepBorder$Border" "state" "[I"] ++ wsX00)
def wsX0_isTraveller : List Cond := .code yX0_isTraveller cX0_isTraveller 2 (some .boolean) :: ([.fieldLink RX0 21 "SleepBorder$Border" "travellerCount" "I"] ++ wsX00)
def wsX0_isGuard : List Cond := .code yX0_isGuard cX0_isGuard 2 (some .boolean) :: ([.fieldLink RX0 46 "SleepBorder$Border" "guardCount" "I"] ++ wsX00)
def wsX0_countIn : List Cond := .code yX0_countIn cX0_countIn 4 (some .int) :: ([.fieldLink RX0 21 "SleepBorder$Border" "travellerCount" "I", .fieldLink RX0 37 "SleepBorder$Border" "state" "[I"] ++ wsX00)
def wsX0_waitingAhead : List Cond := .code yX0_waitingAhead cX0_waitingAhead 4 (some .int) :: ([.fieldLink RX0 21 "SleepBorder$Border" "travellerCount" "I", .fieldLink RX0 37 "SleepBorder$Border" "state" "[I"] ++ wsX00)
def wsX0_firstWaiting : List Cond := .code yX0_firstWaiting cX0_firstWaiting 2 (some .int) :: ([.fieldLink RX0 21 "SleepBorder$Border" "travellerCount" "I", .fieldLink RX0 37 "SleepBorder$Border" "state" "[I"] ++ wsX00)
def wsX0_addedSnores : List Cond := .code yX0_addedSnores cX0_addedSnores 3 (some .int) :: ([.fieldLink RX0 21 "SleepBorder$Border" "travellerCount" "I", .fieldLink RX0 37 "SleepBorder$Border" "state" "[I", .fieldLink RX0 31 "SleepBorder$Border" "snore" "[I"] ++ wsX00)
def wsX0_hiddenDreams : List Cond := .code yX0_hiddenDreams cX0_hiddenDreams 2 (some .int) :: ([.fieldLink RX0 24 "SleepBorder$Border" "dreams" "[I", .fieldLink RX0 28 "SleepBorder$Border" "declared" "[I", .methodLink RX0 58 Lib.Math.max.name, .static Lib.Math.max.name, .initialized "java/lang/Math", .code Lib.Math.max.name Lib.Math.max.code 2 (some .int)] ++ wsX00)
def wsX0_searchMinutes : List Cond := .code yX0_searchMinutes cX0_searchMinutes 2 (some .int) :: ([.fieldLink RX0 28 "SleepBorder$Border" "declared" "[I", .methodLink RX0 64 yX0_addedSnores, .instanceMethod yX0_addedSnores, .selects RX0 yX0_addedSnores yX0_addedSnores, .initialized RX0, .code yX0_addedSnores cX0_addedSnores 3 (some .int), .fieldLink RX0 21 "SleepBorder$Border" "travellerCount" "I", .fieldLink RX0 37 "SleepBorder$Border" "state" "[I", .fieldLink RX0 31 "SleepBorder$Border" "snore" "[I"] ++ wsX00)
def wsX0_finds : List Cond := .code yX0_finds cX0_finds 4 (some .boolean) :: ([.fieldLink RX0 49 "SleepBorder$Border" "alertness" "[I", .methodLink RX0 68 yX0_hiddenDreams, .instanceMethod yX0_hiddenDreams, .selects RX0 yX0_hiddenDreams yX0_hiddenDreams, .initialized RX0, .code yX0_hiddenDreams cX0_hiddenDreams 2 (some .int), .fieldLink RX0 24 "SleepBorder$Border" "dreams" "[I", .fieldLink RX0 28 "SleepBorder$Border" "declared" "[I", .methodLink RX0 58 Lib.Math.max.name, .static Lib.Math.max.name, .initialized "java/lang/Math", .code Lib.Math.max.name Lib.Math.max.code 2 (some .int)] ++ wsX00)
def wsX0_isSettled : List Cond := .code yX0_isSettled cX0_isSettled 2 (some .boolean) :: ([.fieldLink RX0 21 "SleepBorder$Border" "travellerCount" "I", .fieldLink RX0 37 "SleepBorder$Border" "state" "[I"] ++ wsX00)
def wsX0_advanceTransits : List Cond := .code yX0_advanceTransits cX0_advanceTransits 2 none :: ([.fieldLink RX0 21 "SleepBorder$Border" "travellerCount" "I", .fieldLink RX0 37 "SleepBorder$Border" "state" "[I", .fieldLink RX0 40 "SleepBorder$Border" "transitLeft" "[I", .fieldLink RX0 43 "SleepBorder$Border" "asleepSince" "[I", .fieldLink RX0 9 "SleepBorder$Border" "clock" "I"] ++ wsX00)
def wsX0_shortenLullabies : List Cond := .code yX0_shortenLullabies cX0_shortenLullabies 2 none :: ([.fieldLink RX0 21 "SleepBorder$Border" "travellerCount" "I", .fieldLink RX0 37 "SleepBorder$Border" "state" "[I", .fieldLink RX0 34 "SleepBorder$Border" "lullaby" "[I", .fieldLink RX0 15 "SleepBorder$Border" "expiredCount" "I"] ++ wsX00)
def wsX0_searchOn : List Cond := .code yX0_searchOn cX0_searchOn 3 none :: ([.fieldLink RX0 55 "SleepBorder$Border" "searchLeft" "[I", .fieldLink RX0 18 "SleepBorder$Border" "till" "I", .fieldLink RX0 37 "SleepBorder$Border" "state" "[I", .fieldLink RX0 40 "SleepBorder$Border" "transitLeft" "[I", .fieldLink RX0 52 "SleepBorder$Border" "searched" "[I", .fieldLink RX0 49 "SleepBorder$Border" "alertness" "[I", .methodLink RX0 58 Lib.Math.max.name, .static Lib.Math.max.name, .initialized "java/lang/Math", .code Lib.Math.max.name Lib.Math.max.code 2 (some .int), .methodLink RX0 109 yX0_finds, .instanceMethod yX0_finds, .selects RX0 yX0_finds yX0_finds, .initialized RX0, .code yX0_finds cX0_finds 4 (some .boolean), .methodLink RX0 68 yX0_hiddenDreams, .instanceMethod yX0_hiddenDreams, .selects RX0 yX0_hiddenDreams yX0_hiddenDreams, .code yX0_hiddenDreams cX0_hiddenDreams 2 (some .int), .fieldLink RX0 24 "SleepBorder$Border" "dreams" "[I", .fieldLink RX0 28 "SleepBorder$Border" "declared" "[I"] ++ wsX00)
def wsX0_beginSearch : List Cond := .code yX0_beginSearch cX0_beginSearch 3 none :: ([.fieldLink RX0 52 "SleepBorder$Border" "searched" "[I", .fieldLink RX0 55 "SleepBorder$Border" "searchLeft" "[I", .fieldLink RX0 37 "SleepBorder$Border" "state" "[I", .methodLink RX0 106 yX0_searchMinutes, .instanceMethod yX0_searchMinutes, .selects RX0 yX0_searchMinutes yX0_searchMinutes, .initialized RX0, .code yX0_searchMinutes cX0_searchMinutes 2 (some .int), .fieldLink RX0 28 "SleepBorder$Border" "declared" "[I", .methodLink RX0 64 yX0_addedSnores, .instanceMethod yX0_addedSnores, .selects RX0 yX0_addedSnores yX0_addedSnores, .code yX0_addedSnores cX0_addedSnores 3 (some .int), .fieldLink RX0 21 "SleepBorder$Border" "travellerCount" "I", .fieldLink RX0 31 "SleepBorder$Border" "snore" "[I"] ++ wsX00)
def wsX0_work_r1 : List Cond := [Cond.fieldLink RX0 52 "SleepBorder$Border" "searched" "[I", Cond.fieldLink RX0 49 "SleepBorder$Border" "alertness" "[I", Cond.methodLink RX0 103 Lib.Math.min.name, Cond.static Lib.Math.min.name, Cond.initialized "java/lang/Math", Cond.code Lib.Math.min.name Lib.Math.min.code 2 (some .int), Cond.methodLink RX0 89 yX0_isTraveller, Cond.instanceMethod yX0_isTraveller, Cond.selects RX0 yX0_isTraveller yX0_isTraveller, Cond.initialized RX0, Cond.code yX0_isTraveller cX0_isTraveller 2 (some .boolean), Cond.fieldLink RX0 21 "SleepBorder$Border" "travellerCount" "I", Cond.methodLink RX0 93 yX0_searchOn, Cond.instanceMethod yX0_searchOn, Cond.selects RX0 yX0_searchOn yX0_searchOn, Cond.code yX0_searchOn cX0_searchOn 3 none, Cond.fieldLink RX0 55 "SleepBorder$Border" "searchLeft" "[I", Cond.fieldLink RX0 18 "SleepBorder$Border" "till" "I", Cond.fieldLink RX0 37 "SleepBorder$Border" "state" "[I", Cond.fieldLink RX0 40 "SleepBorder$Border" "transitLeft" "[I", Cond.methodLink RX0 58 Lib.Math.max.name, Cond.static Lib.Math.max.name, Cond.code Lib.Math.max.name Lib.Math.max.code 2 (some .int), Cond.methodLink RX0 109 yX0_finds]
def wsX0_work_r2 : List Cond := [Cond.instanceMethod yX0_finds, Cond.selects RX0 yX0_finds yX0_finds, Cond.code yX0_finds cX0_finds 4 (some .boolean), Cond.methodLink RX0 68 yX0_hiddenDreams, Cond.instanceMethod yX0_hiddenDreams, Cond.selects RX0 yX0_hiddenDreams yX0_hiddenDreams, Cond.code yX0_hiddenDreams cX0_hiddenDreams 2 (some .int), Cond.fieldLink RX0 24 "SleepBorder$Border" "dreams" "[I", Cond.fieldLink RX0 28 "SleepBorder$Border" "declared" "[I", Cond.methodLink RX0 97 yX0_firstWaiting, Cond.instanceMethod yX0_firstWaiting, Cond.selects RX0 yX0_firstWaiting yX0_firstWaiting, Cond.code yX0_firstWaiting cX0_firstWaiting 2 (some .int), Cond.methodLink RX0 100 yX0_beginSearch, Cond.instanceMethod yX0_beginSearch, Cond.selects RX0 yX0_beginSearch yX0_beginSearch, Cond.code yX0_beginSearch cX0_beginSearch 3 none, Cond.methodLink RX0 106 yX0_searchMinutes, Cond.instanceMethod yX0_searchMinutes, Cond.selects RX0 yX0_searchMinutes yX0_searchMinutes, Cond.code yX0_searchMinutes cX0_searchMinutes 2 (some .int), Cond.methodLink RX0 64 yX0_addedSnores, Cond.instanceMethod yX0_addedSnores, Cond.selects RX0 yX0_addedSnores yX0_addedSnores]
def wsX0_work_r3 : List Cond := [Cond.code yX0_addedSnores cX0_addedSnores 3 (some .int), Cond.fieldLink RX0 31 "SleepBorder$Border" "snore" "[I"]
def wsX0_work : List Cond := .code yX0_work cX0_work 4 none :: ((wsX0_work_r1 ++ (wsX0_work_r2 ++ wsX0_work_r3)) ++ wsX00)
def wsX0_goOneMinute_r1 : List Cond := [Cond.fieldLink RX0 46 "SleepBorder$Border" "guardCount" "I", Cond.fieldLink RX0 9 "SleepBorder$Border" "clock" "I", Cond.methodLink RX0 79 yX0_advanceTransits, Cond.instanceMethod yX0_advanceTransits, Cond.selects RX0 yX0_advanceTransits yX0_advanceTransits, Cond.initialized RX0, Cond.code yX0_advanceTransits cX0_advanceTransits 2 none, Cond.fieldLink RX0 21 "SleepBorder$Border" "travellerCount" "I", Cond.fieldLink RX0 37 "SleepBorder$Border" "state" "[I", Cond.fieldLink RX0 40 "SleepBorder$Border" "transitLeft" "[I", Cond.fieldLink RX0 43 "SleepBorder$Border" "asleepSince" "[I", Cond.methodLink RX0 82 yX0_shortenLullabies, Cond.instanceMethod yX0_shortenLullabies, Cond.selects RX0 yX0_shortenLullabies yX0_shortenLullabies, Cond.code yX0_shortenLullabies cX0_shortenLullabies 2 none, Cond.fieldLink RX0 34 "SleepBorder$Border" "lullaby" "[I", Cond.fieldLink RX0 15 "SleepBorder$Border" "expiredCount" "I", Cond.methodLink RX0 85 yX0_work, Cond.instanceMethod yX0_work, Cond.selects RX0 yX0_work yX0_work, Cond.code yX0_work cX0_work 4 none, Cond.fieldLink RX0 52 "SleepBorder$Border" "searched" "[I", Cond.fieldLink RX0 49 "SleepBorder$Border" "alertness" "[I", Cond.methodLink RX0 103 Lib.Math.min.name]
def wsX0_goOneMinute_r2 : List Cond := [Cond.static Lib.Math.min.name, Cond.initialized "java/lang/Math", Cond.code Lib.Math.min.name Lib.Math.min.code 2 (some .int), Cond.methodLink RX0 89 yX0_isTraveller, Cond.instanceMethod yX0_isTraveller, Cond.selects RX0 yX0_isTraveller yX0_isTraveller, Cond.code yX0_isTraveller cX0_isTraveller 2 (some .boolean), Cond.methodLink RX0 93 yX0_searchOn, Cond.instanceMethod yX0_searchOn, Cond.selects RX0 yX0_searchOn yX0_searchOn, Cond.code yX0_searchOn cX0_searchOn 3 none, Cond.fieldLink RX0 55 "SleepBorder$Border" "searchLeft" "[I", Cond.fieldLink RX0 18 "SleepBorder$Border" "till" "I", Cond.methodLink RX0 58 Lib.Math.max.name, Cond.static Lib.Math.max.name, Cond.code Lib.Math.max.name Lib.Math.max.code 2 (some .int), Cond.methodLink RX0 109 yX0_finds, Cond.instanceMethod yX0_finds, Cond.selects RX0 yX0_finds yX0_finds, Cond.code yX0_finds cX0_finds 4 (some .boolean), Cond.methodLink RX0 68 yX0_hiddenDreams, Cond.instanceMethod yX0_hiddenDreams, Cond.selects RX0 yX0_hiddenDreams yX0_hiddenDreams, Cond.code yX0_hiddenDreams cX0_hiddenDreams 2 (some .int)]
def wsX0_goOneMinute_r3 : List Cond := [Cond.fieldLink RX0 24 "SleepBorder$Border" "dreams" "[I", Cond.fieldLink RX0 28 "SleepBorder$Border" "declared" "[I", Cond.methodLink RX0 97 yX0_firstWaiting, Cond.instanceMethod yX0_firstWaiting, Cond.selects RX0 yX0_firstWaiting yX0_firstWaiting, Cond.code yX0_firstWaiting cX0_firstWaiting 2 (some .int), Cond.methodLink RX0 100 yX0_beginSearch, Cond.instanceMethod yX0_beginSearch, Cond.selects RX0 yX0_beginSearch yX0_beginSearch, Cond.code yX0_beginSearch cX0_beginSearch 3 none, Cond.methodLink RX0 106 yX0_searchMinutes, Cond.instanceMethod yX0_searchMinutes, Cond.selects RX0 yX0_searchMinutes yX0_searchMinutes, Cond.code yX0_searchMinutes cX0_searchMinutes 2 (some .int), Cond.methodLink RX0 64 yX0_addedSnores, Cond.instanceMethod yX0_addedSnores, Cond.selects RX0 yX0_addedSnores yX0_addedSnores, Cond.code yX0_addedSnores cX0_addedSnores 3 (some .int), Cond.fieldLink RX0 31 "SleepBorder$Border" "snore" "[I"]
def wsX0_goOneMinute : List Cond := .code yX0_goOneMinute cX0_goOneMinute 2 none :: ((wsX0_goOneMinute_r1 ++ (wsX0_goOneMinute_r2 ++ wsX0_goOneMinute_r3)) ++ wsX00)
def wsX0_goOn_r1 : List Cond := [Cond.methodLink RX0 72 yX0_isSettled, Cond.instanceMethod yX0_isSettled, Cond.selects RX0 yX0_isSettled yX0_isSettled, Cond.initialized RX0, Cond.code yX0_isSettled cX0_isSettled 2 (some .boolean), Cond.fieldLink RX0 21 "SleepBorder$Border" "travellerCount" "I", Cond.fieldLink RX0 37 "SleepBorder$Border" "state" "[I", Cond.methodLink RX0 76 yX0_goOneMinute, Cond.instanceMethod yX0_goOneMinute, Cond.selects RX0 yX0_goOneMinute yX0_goOneMinute, Cond.code yX0_goOneMinute cX0_goOneMinute 2 none, Cond.fieldLink RX0 46 "SleepBorder$Border" "guardCount" "I", Cond.fieldLink RX0 9 "SleepBorder$Border" "clock" "I", Cond.methodLink RX0 79 yX0_advanceTransits, Cond.instanceMethod yX0_advanceTransits, Cond.selects RX0 yX0_advanceTransits yX0_advanceTransits, Cond.code yX0_advanceTransits cX0_advanceTransits 2 none, Cond.fieldLink RX0 40 "SleepBorder$Border" "transitLeft" "[I", Cond.fieldLink RX0 43 "SleepBorder$Border" "asleepSince" "[I", Cond.methodLink RX0 82 yX0_shortenLullabies, Cond.instanceMethod yX0_shortenLullabies, Cond.selects RX0 yX0_shortenLullabies yX0_shortenLullabies, Cond.code yX0_shortenLullabies cX0_shortenLullabies 2 none, Cond.fieldLink RX0 34 "SleepBorder$Border" "lullaby" "[I"]
def wsX0_goOn_r2 : List Cond := [Cond.fieldLink RX0 15 "SleepBorder$Border" "expiredCount" "I", Cond.methodLink RX0 85 yX0_work, Cond.instanceMethod yX0_work, Cond.selects RX0 yX0_work yX0_work, Cond.code yX0_work cX0_work 4 none, Cond.fieldLink RX0 52 "SleepBorder$Border" "searched" "[I", Cond.fieldLink RX0 49 "SleepBorder$Border" "alertness" "[I", Cond.methodLink RX0 103 Lib.Math.min.name, Cond.static Lib.Math.min.name, Cond.initialized "java/lang/Math", Cond.code Lib.Math.min.name Lib.Math.min.code 2 (some .int), Cond.methodLink RX0 89 yX0_isTraveller, Cond.instanceMethod yX0_isTraveller, Cond.selects RX0 yX0_isTraveller yX0_isTraveller, Cond.code yX0_isTraveller cX0_isTraveller 2 (some .boolean), Cond.methodLink RX0 93 yX0_searchOn, Cond.instanceMethod yX0_searchOn, Cond.selects RX0 yX0_searchOn yX0_searchOn, Cond.code yX0_searchOn cX0_searchOn 3 none, Cond.fieldLink RX0 55 "SleepBorder$Border" "searchLeft" "[I", Cond.fieldLink RX0 18 "SleepBorder$Border" "till" "I", Cond.methodLink RX0 58 Lib.Math.max.name, Cond.static Lib.Math.max.name, Cond.code Lib.Math.max.name Lib.Math.max.code 2 (some .int)]
def wsX0_goOn_r3 : List Cond := [Cond.methodLink RX0 109 yX0_finds, Cond.instanceMethod yX0_finds, Cond.selects RX0 yX0_finds yX0_finds, Cond.code yX0_finds cX0_finds 4 (some .boolean), Cond.methodLink RX0 68 yX0_hiddenDreams, Cond.instanceMethod yX0_hiddenDreams, Cond.selects RX0 yX0_hiddenDreams yX0_hiddenDreams, Cond.code yX0_hiddenDreams cX0_hiddenDreams 2 (some .int), Cond.fieldLink RX0 24 "SleepBorder$Border" "dreams" "[I", Cond.fieldLink RX0 28 "SleepBorder$Border" "declared" "[I", Cond.methodLink RX0 97 yX0_firstWaiting, Cond.instanceMethod yX0_firstWaiting, Cond.selects RX0 yX0_firstWaiting yX0_firstWaiting, Cond.code yX0_firstWaiting cX0_firstWaiting 2 (some .int), Cond.methodLink RX0 100 yX0_beginSearch, Cond.instanceMethod yX0_beginSearch, Cond.selects RX0 yX0_beginSearch yX0_beginSearch, Cond.code yX0_beginSearch cX0_beginSearch 3 none, Cond.methodLink RX0 106 yX0_searchMinutes, Cond.instanceMethod yX0_searchMinutes, Cond.selects RX0 yX0_searchMinutes yX0_searchMinutes, Cond.code yX0_searchMinutes cX0_searchMinutes 2 (some .int), Cond.methodLink RX0 64 yX0_addedSnores, Cond.instanceMethod yX0_addedSnores]
def wsX0_goOn_r4 : List Cond := [Cond.selects RX0 yX0_addedSnores yX0_addedSnores, Cond.code yX0_addedSnores cX0_addedSnores 3 (some .int), Cond.fieldLink RX0 31 "SleepBorder$Border" "snore" "[I"]
def wsX0_goOn : List Cond := .code yX0_goOn cX0_goOn 3 none :: ((wsX0_goOn_r1 ++ (wsX0_goOn_r2 ++ (wsX0_goOn_r3 ++ wsX0_goOn_r4))) ++ wsX00)
def wsX1_init_r1 : List Cond := [Cond.methodLink RX1 1 objectInit, Cond.instanceMethod objectInit, Cond.code objectInit ⟨#[0xb1]⟩ 1 none, Cond.classLink RX1 7 RX0, Cond.instantiable RX0 15, Cond.initialized RX0, Cond.fieldLink RX1 10 "SleepBorder" "now" "LSleepBorder$Border;", Cond.fieldLink RX1 16 "SleepBorder" "trial" "LSleepBorder$Border;", Cond.instanceMethod yX0_init, Cond.code yX0_init cX0_init 1 none, Cond.methodLink RX0 3 objectInit, Cond.fieldLink RX0 9 "SleepBorder$Border" "clock" "I", Cond.fieldLink RX0 15 "SleepBorder$Border" "expiredCount" "I", Cond.fieldLink RX0 18 "SleepBorder$Border" "till" "I", Cond.fieldLink RX0 21 "SleepBorder$Border" "travellerCount" "I", Cond.arrayClass .int, Cond.fieldLink RX0 24 "SleepBorder$Border" "dreams" "[I", Cond.fieldLink RX0 28 "SleepBorder$Border" "declared" "[I", Cond.fieldLink RX0 31 "SleepBorder$Border" "snore" "[I", Cond.fieldLink RX0 34 "SleepBorder$Border" "lullaby" "[I", Cond.fieldLink RX0 37 "SleepBorder$Border" "state" "[I", Cond.fieldLink RX0 40 "SleepBorder$Border" "transitLeft" "[I", Cond.fieldLink RX0 43 "SleepBorder$Border" "asleepSince" "[I", Cond.fieldLink RX0 46 "SleepBorder$Border" "guardCount" "I"]
def wsX1_init_r2 : List Cond := [Cond.fieldLink RX0 49 "SleepBorder$Border" "alertness" "[I", Cond.fieldLink RX0 52 "SleepBorder$Border" "searched" "[I", Cond.fieldLink RX0 55 "SleepBorder$Border" "searchLeft" "[I"]
def wsX1_init : List Cond := .code yX1_init cX1_init 1 none :: ((wsX1_init_r1 ++ wsX1_init_r2) ++ wsX00 ++ wsX10)
def wsX1_addGuard : List Cond := .code yX1_addGuard cX1_addGuard 1 (some .int) :: ([.classLink RX1 23 "java/lang/IllegalStateException", .initialized "java/lang/IllegalStateException", .fieldLink RX1 10 "SleepBorder" "now" "LSleepBorder$Border;", .fieldLink RX1 19 "SleepBorder$Border" "guardCount" "I", .methodLink RX1 30 yX0_admitGuard, .instanceMethod yX0_admitGuard, .selects RX0 yX0_admitGuard yX0_admitGuard, .initialized RX0, .code yX0_admitGuard cX0_admitGuard 1 none, .fieldLink RX0 46 "SleepBorder$Border" "guardCount" "I", .fieldLink RX0 49 "SleepBorder$Border" "alertness" "[I", .fieldLink RX0 52 "SleepBorder$Border" "searched" "[I", .fieldLink RX0 55 "SleepBorder$Border" "searchLeft" "[I"] ++ wsX10 ++ wsX00 ++ (vx_atS RX1 27 "java/lang/IllegalStateException" ["java/lang/RuntimeException", "java/lang/Exception"]).filter goodWord)
def wsX1_requireDigit : List Cond := .code yX1_requireDigit cX1_requireDigit 1 none :: ([.classLink RX1 218 "java/lang/IllegalArgumentException", .initialized "java/lang/IllegalArgumentException"] ++ (vx_atS RX1 222 "java/lang/IllegalArgumentException" ["java/lang/RuntimeException", "java/lang/Exception"]).filter goodWord)
def wsX1_requireMinutes : List Cond := .code yX1_requireMinutes cX1_requireMinutes 1 none :: ([.classLink RX1 218 "java/lang/IllegalArgumentException", .initialized "java/lang/IllegalArgumentException"] ++ (vx_atS RX1 222 "java/lang/IllegalArgumentException" ["java/lang/RuntimeException", "java/lang/Exception"]).filter goodWord)
def wsX1_arrive : List Cond := .code yX1_arrive cX1_arrive 5 (some .int) :: ([.classLink RX1 23 "java/lang/IllegalStateException", .initialized "java/lang/IllegalStateException", .fieldLink RX1 10 "SleepBorder" "now" "LSleepBorder$Border;", .fieldLink RX1 40 "SleepBorder$Border" "travellerCount" "I", .methodLink RX1 33 yX1_requireDigit, .static yX1_requireDigit, .initialized RX1, .code yX1_requireDigit cX1_requireDigit 1 none, .classLink RX1 218 "java/lang/IllegalArgumentException", .initialized "java/lang/IllegalArgumentException", .methodLink RX1 37 yX1_requireMinutes, .static yX1_requireMinutes, .code yX1_requireMinutes cX1_requireMinutes 1 none, .methodLink RX1 45 yX0_admitTraveller, .instanceMethod yX0_admitTraveller, .selects RX0 yX0_admitTraveller yX0_admitTraveller, .initialized RX0, .code yX0_admitTraveller cX0_admitTraveller 5 none, .fieldLink RX0 21 "SleepBorder$Border" "travellerCount" "I", .fieldLink RX0 24 "SleepBorder$Border" "dreams" "[I", .fieldLink RX0 28 "SleepBorder$Border" "declared" "[I", .fieldLink RX0 31 "SleepBorder$Border" "snore" "[I", .fieldLink RX0 34 "SleepBorder$Border" "lullaby" "[I", .fieldLink RX0 37 "SleepBorder$Border" "state" "[I"] ++ wsX10 ++ wsX00 ++ (vx_atS RX1 27 "java/lang/IllegalStateException" ["java/lang/RuntimeException", "java/lang/Exception"]).filter goodWord ++ (vx_atS RX1 222 "java/lang/IllegalArgumentException" ["java/lang/RuntimeException", "java/lang/Exception"]).filter goodWord)
def wsX1_requireTraveller : List Cond := .code yX1_requireTraveller cX1_requireTraveller 2 none :: ([.classLink RX1 208 "java/lang/IndexOutOfBoundsException", .initialized "java/lang/IndexOutOfBoundsException", .fieldLink RX1 10 "SleepBorder" "now" "LSleepBorder$Border;", .methodLink RX1 204 yX0_isTraveller, .instanceMethod yX0_isTraveller, .selects RX0 yX0_isTraveller yX0_isTraveller, .initialized RX0, .code yX0_isTraveller cX0_isTraveller 2 (some .boolean), .fieldLink RX0 21 "SleepBorder$Border" "travellerCount" "I"] ++ wsX10 ++ wsX00 ++ (vx_atS RX1 212 "java/lang/IndexOutOfBoundsException" ["java/lang/RuntimeException", "java/lang/Exception"]).filter goodWord)
def wsX1_requireWaiting : List Cond := .code yX1_requireWaiting cX1_requireWaiting 2 none :: ([.classLink RX1 23 "java/lang/IllegalStateException", .initialized "java/lang/IllegalStateException", .fieldLink RX1 10 "SleepBorder" "now" "LSleepBorder$Border;", .fieldLink RX1 91 "SleepBorder$Border" "state" "[I"] ++ wsX10 ++ wsX00 ++ (vx_atS RX1 27 "java/lang/IllegalStateException" ["java/lang/RuntimeException", "java/lang/Exception"]).filter goodWord)
def wsX1_declare_r1 : List Cond := [Cond.fieldLink RX1 10 "SleepBorder" "now" "LSleepBorder$Border;", Cond.fieldLink RX1 55 "SleepBorder$Border" "declared" "[I", Cond.methodLink RX1 49 yX1_requireTraveller, Cond.instanceMethod yX1_requireTraveller, Cond.selects RX1 yX1_requireTraveller yX1_requireTraveller, Cond.initialized RX1, Cond.code yX1_requireTraveller cX1_requireTraveller 2 none, Cond.classLink RX1 208 "java/lang/IndexOutOfBoundsException", Cond.initialized "java/lang/IndexOutOfBoundsException", Cond.methodLink RX1 204 yX0_isTraveller, Cond.instanceMethod yX0_isTraveller, Cond.selects RX0 yX0_isTraveller yX0_isTraveller, Cond.initialized RX0, Cond.code yX0_isTraveller cX0_isTraveller 2 (some .boolean), Cond.fieldLink RX0 21 "SleepBorder$Border" "travellerCount" "I", Cond.methodLink RX1 33 yX1_requireDigit, Cond.static yX1_requireDigit, Cond.code yX1_requireDigit cX1_requireDigit 1 none, Cond.classLink RX1 218 "java/lang/IllegalArgumentException", Cond.initialized "java/lang/IllegalArgumentException", Cond.methodLink RX1 52 yX1_requireWaiting, Cond.instanceMethod yX1_requireWaiting, Cond.selects RX1 yX1_requireWaiting yX1_requireWaiting, Cond.code yX1_requireWaiting cX1_requireWaiting 2 none]
def wsX1_declare_r2 : List Cond := [Cond.classLink RX1 23 "java/lang/IllegalStateException", Cond.initialized "java/lang/IllegalStateException", Cond.fieldLink RX1 91 "SleepBorder$Border" "state" "[I"]
def wsX1_declare : List Cond := .code yX1_declare cX1_declare 4 (some .int) :: ((wsX1_declare_r1 ++ wsX1_declare_r2) ++ wsX10 ++ wsX00 ++ (vx_atS RX1 212 "java/lang/IndexOutOfBoundsException" ["java/lang/RuntimeException", "java/lang/Exception"]).filter goodWord ++ (vx_atS RX1 222 "java/lang/IllegalArgumentException" ["java/lang/RuntimeException", "java/lang/Exception"]).filter goodWord ++ (vx_atS RX1 27 "java/lang/IllegalStateException" ["java/lang/RuntimeException", "java/lang/Exception"]).filter goodWord)
def wsX1_sing_r1 : List Cond := [Cond.fieldLink RX1 10 "SleepBorder" "now" "LSleepBorder$Border;", Cond.fieldLink RX1 59 "SleepBorder$Border" "lullaby" "[I", Cond.methodLink RX1 49 yX1_requireTraveller, Cond.instanceMethod yX1_requireTraveller, Cond.selects RX1 yX1_requireTraveller yX1_requireTraveller, Cond.initialized RX1, Cond.code yX1_requireTraveller cX1_requireTraveller 2 none, Cond.classLink RX1 208 "java/lang/IndexOutOfBoundsException", Cond.initialized "java/lang/IndexOutOfBoundsException", Cond.methodLink RX1 204 yX0_isTraveller, Cond.instanceMethod yX0_isTraveller, Cond.selects RX0 yX0_isTraveller yX0_isTraveller, Cond.initialized RX0, Cond.code yX0_isTraveller cX0_isTraveller 2 (some .boolean), Cond.fieldLink RX0 21 "SleepBorder$Border" "travellerCount" "I", Cond.methodLink RX1 37 yX1_requireMinutes, Cond.static yX1_requireMinutes, Cond.code yX1_requireMinutes cX1_requireMinutes 1 none, Cond.classLink RX1 218 "java/lang/IllegalArgumentException", Cond.initialized "java/lang/IllegalArgumentException", Cond.methodLink RX1 52 yX1_requireWaiting, Cond.instanceMethod yX1_requireWaiting, Cond.selects RX1 yX1_requireWaiting yX1_requireWaiting, Cond.code yX1_requireWaiting cX1_requireWaiting 2 none]
def wsX1_sing_r2 : List Cond := [Cond.classLink RX1 23 "java/lang/IllegalStateException", Cond.initialized "java/lang/IllegalStateException", Cond.fieldLink RX1 91 "SleepBorder$Border" "state" "[I"]
def wsX1_sing : List Cond := .code yX1_sing cX1_sing 4 (some .int) :: ((wsX1_sing_r1 ++ wsX1_sing_r2) ++ wsX10 ++ wsX00 ++ (vx_atS RX1 212 "java/lang/IndexOutOfBoundsException" ["java/lang/RuntimeException", "java/lang/Exception"]).filter goodWord ++ (vx_atS RX1 222 "java/lang/IllegalArgumentException" ["java/lang/RuntimeException", "java/lang/Exception"]).filter goodWord ++ (vx_atS RX1 27 "java/lang/IllegalStateException" ["java/lang/RuntimeException", "java/lang/Exception"]).filter goodWord)
def wsX1_requireGuard : List Cond := .code yX1_requireGuard cX1_requireGuard 2 none :: ([.classLink RX1 208 "java/lang/IndexOutOfBoundsException", .initialized "java/lang/IndexOutOfBoundsException", .fieldLink RX1 10 "SleepBorder" "now" "LSleepBorder$Border;", .methodLink RX1 213 yX0_isGuard, .instanceMethod yX0_isGuard, .selects RX0 yX0_isGuard yX0_isGuard, .initialized RX0, .code yX0_isGuard cX0_isGuard 2 (some .boolean), .fieldLink RX0 46 "SleepBorder$Border" "guardCount" "I"] ++ wsX10 ++ wsX00 ++ (vx_atS RX1 212 "java/lang/IndexOutOfBoundsException" ["java/lang/RuntimeException", "java/lang/Exception"]).filter goodWord)
def wsX1_wake : List Cond := .code yX1_wake cX1_wake 3 (some .int) :: ([.fieldLink RX1 10 "SleepBorder" "now" "LSleepBorder$Border;", .fieldLink RX1 65 "SleepBorder$Border" "alertness" "[I", .methodLink RX1 62 yX1_requireGuard, .instanceMethod yX1_requireGuard, .selects RX1 yX1_requireGuard yX1_requireGuard, .initialized RX1, .code yX1_requireGuard cX1_requireGuard 2 none, .classLink RX1 208 "java/lang/IndexOutOfBoundsException", .initialized "java/lang/IndexOutOfBoundsException", .methodLink RX1 213 yX0_isGuard, .instanceMethod yX0_isGuard, .selects RX0 yX0_isGuard yX0_isGuard, .initialized RX0, .code yX0_isGuard cX0_isGuard 2 (some .boolean), .fieldLink RX0 46 "SleepBorder$Border" "guardCount" "I"] ++ wsX10 ++ wsX00 ++ (vx_atS RX1 212 "java/lang/IndexOutOfBoundsException" ["java/lang/RuntimeException", "java/lang/Exception"]).filter goodWord)
def wsX1_pass_r1 : List Cond := [Cond.fieldLink RX1 10 "SleepBorder" "now" "LSleepBorder$Border;", Cond.methodLink RX1 37 yX1_requireMinutes, Cond.static yX1_requireMinutes, Cond.initialized RX1, Cond.code yX1_requireMinutes cX1_requireMinutes 1 none, Cond.classLink RX1 218 "java/lang/IllegalArgumentException", Cond.initialized "java/lang/IllegalArgumentException", Cond.methodLink RX1 68 yX0_countIn, Cond.instanceMethod yX0_countIn, Cond.selects RX0 yX0_countIn yX0_countIn, Cond.initialized RX0, Cond.code yX0_countIn cX0_countIn 4 (some .int), Cond.fieldLink RX0 21 "SleepBorder$Border" "travellerCount" "I", Cond.fieldLink RX0 37 "SleepBorder$Border" "state" "[I", Cond.methodLink RX1 72 yX0_goOneMinute, Cond.instanceMethod yX0_goOneMinute, Cond.selects RX0 yX0_goOneMinute yX0_goOneMinute, Cond.code yX0_goOneMinute cX0_goOneMinute 2 none, Cond.fieldLink RX0 46 "SleepBorder$Border" "guardCount" "I", Cond.fieldLink RX0 9 "SleepBorder$Border" "clock" "I", Cond.methodLink RX0 79 yX0_advanceTransits, Cond.instanceMethod yX0_advanceTransits, Cond.selects RX0 yX0_advanceTransits yX0_advanceTransits, Cond.code yX0_advanceTransits cX0_advanceTransits 2 none]
def wsX1_pass_r2 : List Cond := [Cond.fieldLink RX0 40 "SleepBorder$Border" "transitLeft" "[I", Cond.fieldLink RX0 43 "SleepBorder$Border" "asleepSince" "[I", Cond.methodLink RX0 82 yX0_shortenLullabies, Cond.instanceMethod yX0_shortenLullabies, Cond.selects RX0 yX0_shortenLullabies yX0_shortenLullabies, Cond.code yX0_shortenLullabies cX0_shortenLullabies 2 none, Cond.fieldLink RX0 34 "SleepBorder$Border" "lullaby" "[I", Cond.fieldLink RX0 15 "SleepBorder$Border" "expiredCount" "I", Cond.methodLink RX0 85 yX0_work, Cond.instanceMethod yX0_work, Cond.selects RX0 yX0_work yX0_work, Cond.code yX0_work cX0_work 4 none, Cond.fieldLink RX0 52 "SleepBorder$Border" "searched" "[I", Cond.fieldLink RX0 49 "SleepBorder$Border" "alertness" "[I", Cond.methodLink RX0 103 Lib.Math.min.name, Cond.static Lib.Math.min.name, Cond.initialized "java/lang/Math", Cond.code Lib.Math.min.name Lib.Math.min.code 2 (some .int), Cond.methodLink RX0 89 yX0_isTraveller, Cond.instanceMethod yX0_isTraveller, Cond.selects RX0 yX0_isTraveller yX0_isTraveller, Cond.code yX0_isTraveller cX0_isTraveller 2 (some .boolean), Cond.methodLink RX0 93 yX0_searchOn, Cond.instanceMethod yX0_searchOn]
def wsX1_pass_r3 : List Cond := [Cond.selects RX0 yX0_searchOn yX0_searchOn, Cond.code yX0_searchOn cX0_searchOn 3 none, Cond.fieldLink RX0 55 "SleepBorder$Border" "searchLeft" "[I", Cond.fieldLink RX0 18 "SleepBorder$Border" "till" "I", Cond.methodLink RX0 58 Lib.Math.max.name, Cond.static Lib.Math.max.name, Cond.code Lib.Math.max.name Lib.Math.max.code 2 (some .int), Cond.methodLink RX0 109 yX0_finds, Cond.instanceMethod yX0_finds, Cond.selects RX0 yX0_finds yX0_finds, Cond.code yX0_finds cX0_finds 4 (some .boolean), Cond.methodLink RX0 68 yX0_hiddenDreams, Cond.instanceMethod yX0_hiddenDreams, Cond.selects RX0 yX0_hiddenDreams yX0_hiddenDreams, Cond.code yX0_hiddenDreams cX0_hiddenDreams 2 (some .int), Cond.fieldLink RX0 24 "SleepBorder$Border" "dreams" "[I", Cond.fieldLink RX0 28 "SleepBorder$Border" "declared" "[I", Cond.methodLink RX0 97 yX0_firstWaiting, Cond.instanceMethod yX0_firstWaiting, Cond.selects RX0 yX0_firstWaiting yX0_firstWaiting, Cond.code yX0_firstWaiting cX0_firstWaiting 2 (some .int), Cond.methodLink RX0 100 yX0_beginSearch, Cond.instanceMethod yX0_beginSearch, Cond.selects RX0 yX0_beginSearch yX0_beginSearch]
def wsX1_pass_r4 : List Cond := [Cond.code yX0_beginSearch cX0_beginSearch 3 none, Cond.methodLink RX0 106 yX0_searchMinutes, Cond.instanceMethod yX0_searchMinutes, Cond.selects RX0 yX0_searchMinutes yX0_searchMinutes, Cond.code yX0_searchMinutes cX0_searchMinutes 2 (some .int), Cond.methodLink RX0 64 yX0_addedSnores, Cond.instanceMethod yX0_addedSnores, Cond.selects RX0 yX0_addedSnores yX0_addedSnores, Cond.code yX0_addedSnores cX0_addedSnores 3 (some .int), Cond.fieldLink RX0 31 "SleepBorder$Border" "snore" "[I"]
def wsX1_pass : List Cond := .code yX1_pass cX1_pass 4 (some .int) :: ((wsX1_pass_r1 ++ (wsX1_pass_r2 ++ (wsX1_pass_r3 ++ wsX1_pass_r4))) ++ wsX10 ++ wsX00 ++ (vx_atS RX1 222 "java/lang/IllegalArgumentException" ["java/lang/RuntimeException", "java/lang/Exception"]).filter goodWord)
def wsX1_minute : List Cond := .code yX1_minute cX1_minute 1 (some .int) :: ([.fieldLink RX1 10 "SleepBorder" "now" "LSleepBorder$Border;", .fieldLink RX1 75 "SleepBorder$Border" "clock" "I"] ++ wsX10 ++ wsX00)
def wsX1_travellers : List Cond := .code yX1_travellers cX1_travellers 1 (some .int) :: ([.fieldLink RX1 10 "SleepBorder" "now" "LSleepBorder$Border;", .fieldLink RX1 40 "SleepBorder$Border" "travellerCount" "I"] ++ wsX10 ++ wsX00)
def wsX1_waiting : List Cond := .code yX1_waiting cX1_waiting 1 (some .int) :: ([.fieldLink RX1 10 "SleepBorder" "now" "LSleepBorder$Border;", .methodLink RX1 68 yX0_countIn, .instanceMethod yX0_countIn, .selects RX0 yX0_countIn yX0_countIn, .initialized RX0, .code yX0_countIn cX0_countIn 4 (some .int), .fieldLink RX0 21 "SleepBorder$Border" "travellerCount" "I", .fieldLink RX0 37 "SleepBorder$Border" "state" "[I"] ++ wsX10 ++ wsX00)
def wsX1_asleep : List Cond := .code yX1_asleep cX1_asleep 1 (some .int) :: ([.fieldLink RX1 10 "SleepBorder" "now" "LSleepBorder$Border;", .methodLink RX1 68 yX0_countIn, .instanceMethod yX0_countIn, .selects RX0 yX0_countIn yX0_countIn, .initialized RX0, .code yX0_countIn cX0_countIn 4 (some .int), .fieldLink RX0 21 "SleepBorder$Border" "travellerCount" "I", .fieldLink RX0 37 "SleepBorder$Border" "state" "[I"] ++ wsX10 ++ wsX00)
def wsX1_sentBack : List Cond := .code yX1_sentBack cX1_sentBack 1 (some .int) :: ([.fieldLink RX1 10 "SleepBorder" "now" "LSleepBorder$Border;", .methodLink RX1 68 yX0_countIn, .instanceMethod yX0_countIn, .selects RX0 yX0_countIn yX0_countIn, .initialized RX0, .code yX0_countIn cX0_countIn 4 (some .int), .fieldLink RX0 21 "SleepBorder$Border" "travellerCount" "I", .fieldLink RX0 37 "SleepBorder$Border" "state" "[I"] ++ wsX10 ++ wsX00)
def wsX1_expired : List Cond := .code yX1_expired cX1_expired 1 (some .int) :: ([.fieldLink RX1 10 "SleepBorder" "now" "LSleepBorder$Border;", .fieldLink RX1 78 "SleepBorder$Border" "expiredCount" "I"] ++ wsX10 ++ wsX00)
def wsX1_paid : List Cond := .code yX1_paid cX1_paid 1 (some .int) :: ([.fieldLink RX1 10 "SleepBorder" "now" "LSleepBorder$Border;", .fieldLink RX1 81 "SleepBorder$Border" "till" "I"] ++ wsX10 ++ wsX00)
def wsX1_noise : List Cond := .code yX1_noise cX1_noise 1 (some .int) :: ([.fieldLink RX1 10 "SleepBorder" "now" "LSleepBorder$Border;", .methodLink RX1 84 yX0_addedSnores, .instanceMethod yX0_addedSnores, .selects RX0 yX0_addedSnores yX0_addedSnores, .initialized RX0, .code yX0_addedSnores cX0_addedSnores 3 (some .int), .fieldLink RX0 21 "SleepBorder$Border" "travellerCount" "I", .fieldLink RX0 37 "SleepBorder$Border" "state" "[I", .fieldLink RX0 31 "SleepBorder$Border" "snore" "[I"] ++ wsX10 ++ wsX00)
def wsX1_nextInLine : List Cond := .code yX1_nextInLine cX1_nextInLine 1 (some .int) :: ([.fieldLink RX1 10 "SleepBorder" "now" "LSleepBorder$Border;", .methodLink RX1 88 yX0_firstWaiting, .instanceMethod yX0_firstWaiting, .selects RX0 yX0_firstWaiting yX0_firstWaiting, .initialized RX0, .code yX0_firstWaiting cX0_firstWaiting 2 (some .int), .fieldLink RX0 21 "SleepBorder$Border" "travellerCount" "I", .fieldLink RX0 37 "SleepBorder$Border" "state" "[I"] ++ wsX10 ++ wsX00)
def wsX1_stateOf : List Cond := .code yX1_stateOf cX1_stateOf 2 (some .int) :: ([.fieldLink RX1 10 "SleepBorder" "now" "LSleepBorder$Border;", .fieldLink RX1 91 "SleepBorder$Border" "state" "[I", .methodLink RX1 49 yX1_requireTraveller, .instanceMethod yX1_requireTraveller, .selects RX1 yX1_requireTraveller yX1_requireTraveller, .initialized RX1, .code yX1_requireTraveller cX1_requireTraveller 2 none, .classLink RX1 208 "java/lang/IndexOutOfBoundsException", .initialized "java/lang/IndexOutOfBoundsException", .methodLink RX1 204 yX0_isTraveller, .instanceMethod yX0_isTraveller, .selects RX0 yX0_isTraveller yX0_isTraveller, .initialized RX0, .code yX0_isTraveller cX0_isTraveller 2 (some .boolean), .fieldLink RX0 21 "SleepBorder$Border" "travellerCount" "I"] ++ wsX10 ++ wsX00 ++ (vx_atS RX1 212 "java/lang/IndexOutOfBoundsException" ["java/lang/RuntimeException", "java/lang/Exception"]).filter goodWord)
def wsX1_hiddenOf : List Cond := .code yX1_hiddenOf cX1_hiddenOf 2 (some .int) :: ([.fieldLink RX1 10 "SleepBorder" "now" "LSleepBorder$Border;", .methodLink RX1 49 yX1_requireTraveller, .instanceMethod yX1_requireTraveller, .selects RX1 yX1_requireTraveller yX1_requireTraveller, .initialized RX1, .code yX1_requireTraveller cX1_requireTraveller 2 none, .classLink RX1 208 "java/lang/IndexOutOfBoundsException", .initialized "java/lang/IndexOutOfBoundsException", .methodLink RX1 204 yX0_isTraveller, .instanceMethod yX0_isTraveller, .selects RX0 yX0_isTraveller yX0_isTraveller, .initialized RX0, .code yX0_isTraveller cX0_isTraveller 2 (some .boolean), .fieldLink RX0 21 "SleepBorder$Border" "travellerCount" "I", .methodLink RX1 94 yX0_hiddenDreams, .instanceMethod yX0_hiddenDreams, .selects RX0 yX0_hiddenDreams yX0_hiddenDreams, .code yX0_hiddenDreams cX0_hiddenDreams 2 (some .int), .fieldLink RX0 24 "SleepBorder$Border" "dreams" "[I", .fieldLink RX0 28 "SleepBorder$Border" "declared" "[I", .methodLink RX0 58 Lib.Math.max.name, .static Lib.Math.max.name, .initialized "java/lang/Math", .code Lib.Math.max.name Lib.Math.max.code 2 (some .int)] ++ wsX10 ++ wsX00 ++ (vx_atS RX1 212 "java/lang/IndexOutOfBoundsException" ["java/lang/RuntimeException", "java/lang/Exception"]).filter goodWord)
def wsX1_lullabyOf : List Cond := .code yX1_lullabyOf cX1_lullabyOf 2 (some .int) :: ([.fieldLink RX1 10 "SleepBorder" "now" "LSleepBorder$Border;", .fieldLink RX1 59 "SleepBorder$Border" "lullaby" "[I", .methodLink RX1 49 yX1_requireTraveller, .instanceMethod yX1_requireTraveller, .selects RX1 yX1_requireTraveller yX1_requireTraveller, .initialized RX1, .code yX1_requireTraveller cX1_requireTraveller 2 none, .classLink RX1 208 "java/lang/IndexOutOfBoundsException", .initialized "java/lang/IndexOutOfBoundsException", .methodLink RX1 204 yX0_isTraveller, .instanceMethod yX0_isTraveller, .selects RX0 yX0_isTraveller yX0_isTraveller, .initialized RX0, .code yX0_isTraveller cX0_isTraveller 2 (some .boolean), .fieldLink RX0 21 "SleepBorder$Border" "travellerCount" "I"] ++ wsX10 ++ wsX00 ++ (vx_atS RX1 212 "java/lang/IndexOutOfBoundsException" ["java/lang/RuntimeException", "java/lang/Exception"]).filter goodWord)
def wsX1_placeInLine : List Cond := .code yX1_placeInLine cX1_placeInLine 2 (some .int) :: ([.fieldLink RX1 10 "SleepBorder" "now" "LSleepBorder$Border;", .fieldLink RX1 91 "SleepBorder$Border" "state" "[I", .methodLink RX1 49 yX1_requireTraveller, .instanceMethod yX1_requireTraveller, .selects RX1 yX1_requireTraveller yX1_requireTraveller, .initialized RX1, .code yX1_requireTraveller cX1_requireTraveller 2 none, .classLink RX1 208 "java/lang/IndexOutOfBoundsException", .initialized "java/lang/IndexOutOfBoundsException", .methodLink RX1 204 yX0_isTraveller, .instanceMethod yX0_isTraveller, .selects RX0 yX0_isTraveller yX0_isTraveller, .initialized RX0, .code yX0_isTraveller cX0_isTraveller 2 (some .boolean), .fieldLink RX0 21 "SleepBorder$Border" "travellerCount" "I", .methodLink RX1 97 yX0_waitingAhead, .instanceMethod yX0_waitingAhead, .selects RX0 yX0_waitingAhead yX0_waitingAhead, .code yX0_waitingAhead cX0_waitingAhead 4 (some .int), .fieldLink RX0 37 "SleepBorder$Border" "state" "[I"] ++ wsX10 ++ wsX00 ++ (vx_atS RX1 212 "java/lang/IndexOutOfBoundsException" ["java/lang/RuntimeException", "java/lang/Exception"]).filter goodWord)
def wsX1_searchTime_r1 : List Cond := [Cond.fieldLink RX1 10 "SleepBorder" "now" "LSleepBorder$Border;", Cond.methodLink RX1 49 yX1_requireTraveller, Cond.instanceMethod yX1_requireTraveller, Cond.selects RX1 yX1_requireTraveller yX1_requireTraveller, Cond.initialized RX1, Cond.code yX1_requireTraveller cX1_requireTraveller 2 none, Cond.classLink RX1 208 "java/lang/IndexOutOfBoundsException", Cond.initialized "java/lang/IndexOutOfBoundsException", Cond.methodLink RX1 204 yX0_isTraveller, Cond.instanceMethod yX0_isTraveller, Cond.selects RX0 yX0_isTraveller yX0_isTraveller, Cond.initialized RX0, Cond.code yX0_isTraveller cX0_isTraveller 2 (some .boolean), Cond.fieldLink RX0 21 "SleepBorder$Border" "travellerCount" "I", Cond.methodLink RX1 100 yX0_searchMinutes, Cond.instanceMethod yX0_searchMinutes, Cond.selects RX0 yX0_searchMinutes yX0_searchMinutes, Cond.code yX0_searchMinutes cX0_searchMinutes 2 (some .int), Cond.fieldLink RX0 28 "SleepBorder$Border" "declared" "[I", Cond.methodLink RX0 64 yX0_addedSnores, Cond.instanceMethod yX0_addedSnores, Cond.selects RX0 yX0_addedSnores yX0_addedSnores, Cond.code yX0_addedSnores cX0_addedSnores 3 (some .int), Cond.fieldLink RX0 37 "SleepBorder$Border" "state" "[I"]
def wsX1_searchTime_r2 : List Cond := [Cond.fieldLink RX0 31 "SleepBorder$Border" "snore" "[I"]
def wsX1_searchTime : List Cond := .code yX1_searchTime cX1_searchTime 2 (some .int) :: ((wsX1_searchTime_r1 ++ wsX1_searchTime_r2) ++ wsX10 ++ wsX00 ++ (vx_atS RX1 212 "java/lang/IndexOutOfBoundsException" ["java/lang/RuntimeException", "java/lang/Exception"]).filter goodWord)
def wsX1_guards : List Cond := .code yX1_guards cX1_guards 1 (some .int) :: ([.fieldLink RX1 10 "SleepBorder" "now" "LSleepBorder$Border;", .fieldLink RX1 19 "SleepBorder$Border" "guardCount" "I"] ++ wsX10 ++ wsX00)
def wsX1_alertnessOf : List Cond := .code yX1_alertnessOf cX1_alertnessOf 2 (some .int) :: ([.fieldLink RX1 10 "SleepBorder" "now" "LSleepBorder$Border;", .fieldLink RX1 65 "SleepBorder$Border" "alertness" "[I", .methodLink RX1 62 yX1_requireGuard, .instanceMethod yX1_requireGuard, .selects RX1 yX1_requireGuard yX1_requireGuard, .initialized RX1, .code yX1_requireGuard cX1_requireGuard 2 none, .classLink RX1 208 "java/lang/IndexOutOfBoundsException", .initialized "java/lang/IndexOutOfBoundsException", .methodLink RX1 213 yX0_isGuard, .instanceMethod yX0_isGuard, .selects RX0 yX0_isGuard yX0_isGuard, .initialized RX0, .code yX0_isGuard cX0_isGuard 2 (some .boolean), .fieldLink RX0 46 "SleepBorder$Border" "guardCount" "I"] ++ wsX10 ++ wsX00 ++ (vx_atS RX1 212 "java/lang/IndexOutOfBoundsException" ["java/lang/RuntimeException", "java/lang/Exception"]).filter goodWord)
def wsX1_searches : List Cond := .code yX1_searches cX1_searches 2 (some .int) :: ([.fieldLink RX1 10 "SleepBorder" "now" "LSleepBorder$Border;", .fieldLink RX1 103 "SleepBorder$Border" "searched" "[I", .methodLink RX1 62 yX1_requireGuard, .instanceMethod yX1_requireGuard, .selects RX1 yX1_requireGuard yX1_requireGuard, .initialized RX1, .code yX1_requireGuard cX1_requireGuard 2 none, .classLink RX1 208 "java/lang/IndexOutOfBoundsException", .initialized "java/lang/IndexOutOfBoundsException", .methodLink RX1 213 yX0_isGuard, .instanceMethod yX0_isGuard, .selects RX0 yX0_isGuard yX0_isGuard, .initialized RX0, .code yX0_isGuard cX0_isGuard 2 (some .boolean), .fieldLink RX0 46 "SleepBorder$Border" "guardCount" "I"] ++ wsX10 ++ wsX00 ++ (vx_atS RX1 212 "java/lang/IndexOutOfBoundsException" ["java/lang/RuntimeException", "java/lang/Exception"]).filter goodWord)
def wsX1_minutesToGo : List Cond := .code yX1_minutesToGo cX1_minutesToGo 2 (some .int) :: ([.fieldLink RX1 10 "SleepBorder" "now" "LSleepBorder$Border;", .fieldLink RX1 106 "SleepBorder$Border" "searchLeft" "[I", .methodLink RX1 62 yX1_requireGuard, .instanceMethod yX1_requireGuard, .selects RX1 yX1_requireGuard yX1_requireGuard, .initialized RX1, .code yX1_requireGuard cX1_requireGuard 2 none, .classLink RX1 208 "java/lang/IndexOutOfBoundsException", .initialized "java/lang/IndexOutOfBoundsException", .methodLink RX1 213 yX0_isGuard, .instanceMethod yX0_isGuard, .selects RX0 yX0_isGuard yX0_isGuard, .initialized RX0, .code yX0_isGuard cX0_isGuard 2 (some .boolean), .fieldLink RX0 46 "SleepBorder$Border" "guardCount" "I"] ++ wsX10 ++ wsX00 ++ (vx_atS RX1 212 "java/lang/IndexOutOfBoundsException" ["java/lang/RuntimeException", "java/lang/Exception"]).filter goodWord)
def wsX1_wouldFind_r1 : List Cond := [Cond.fieldLink RX1 10 "SleepBorder" "now" "LSleepBorder$Border;", Cond.methodLink RX1 62 yX1_requireGuard, Cond.instanceMethod yX1_requireGuard, Cond.selects RX1 yX1_requireGuard yX1_requireGuard, Cond.initialized RX1, Cond.code yX1_requireGuard cX1_requireGuard 2 none, Cond.classLink RX1 208 "java/lang/IndexOutOfBoundsException", Cond.initialized "java/lang/IndexOutOfBoundsException", Cond.methodLink RX1 213 yX0_isGuard, Cond.instanceMethod yX0_isGuard, Cond.selects RX0 yX0_isGuard yX0_isGuard, Cond.initialized RX0, Cond.code yX0_isGuard cX0_isGuard 2 (some .boolean), Cond.fieldLink RX0 46 "SleepBorder$Border" "guardCount" "I", Cond.methodLink RX1 49 yX1_requireTraveller, Cond.instanceMethod yX1_requireTraveller, Cond.selects RX1 yX1_requireTraveller yX1_requireTraveller, Cond.code yX1_requireTraveller cX1_requireTraveller 2 none, Cond.methodLink RX1 204 yX0_isTraveller, Cond.instanceMethod yX0_isTraveller, Cond.selects RX0 yX0_isTraveller yX0_isTraveller, Cond.code yX0_isTraveller cX0_isTraveller 2 (some .boolean), Cond.fieldLink RX0 21 "SleepBorder$Border" "travellerCount" "I", Cond.methodLink RX1 109 yX0_finds]
def wsX1_wouldFind_r2 : List Cond := [Cond.instanceMethod yX0_finds, Cond.selects RX0 yX0_finds yX0_finds, Cond.code yX0_finds cX0_finds 4 (some .boolean), Cond.fieldLink RX0 49 "SleepBorder$Border" "alertness" "[I", Cond.methodLink RX0 68 yX0_hiddenDreams, Cond.instanceMethod yX0_hiddenDreams, Cond.selects RX0 yX0_hiddenDreams yX0_hiddenDreams, Cond.code yX0_hiddenDreams cX0_hiddenDreams 2 (some .int), Cond.fieldLink RX0 24 "SleepBorder$Border" "dreams" "[I", Cond.fieldLink RX0 28 "SleepBorder$Border" "declared" "[I", Cond.methodLink RX0 58 Lib.Math.max.name, Cond.static Lib.Math.max.name, Cond.initialized "java/lang/Math", Cond.code Lib.Math.max.name Lib.Math.max.code 2 (some .int)]
def wsX1_wouldFind : List Cond := .code yX1_wouldFind cX1_wouldFind 3 (some .boolean) :: ((wsX1_wouldFind_r1 ++ wsX1_wouldFind_r2) ++ wsX10 ++ wsX00 ++ (vx_atS RX1 212 "java/lang/IndexOutOfBoundsException" ["java/lang/RuntimeException", "java/lang/Exception"]).filter goodWord)
def wsX1_mostAlert : List Cond := .code yX1_mostAlert cX1_mostAlert 4 (some .int) :: ([.fieldLink RX1 10 "SleepBorder" "now" "LSleepBorder$Border;", .fieldLink RX1 19 "SleepBorder$Border" "guardCount" "I", .fieldLink RX1 65 "SleepBorder$Border" "alertness" "[I"] ++ wsX10 ++ wsX00)
def wsX1_foreseenSleep : List Cond := .code yX1_foreseenSleep cX1_foreseenSleep 2 (some .int) :: ([.fieldLink RX1 10 "SleepBorder" "now" "LSleepBorder$Border;", .fieldLink RX1 91 "SleepBorder$Border" "state" "[I", .fieldLink RX1 16 "SleepBorder" "trial" "LSleepBorder$Border;", .fieldLink RX1 201 "SleepBorder$Border" "asleepSince" "[I", .fieldLink RX1 75 "SleepBorder$Border" "clock" "I"] ++ wsX10 ++ wsX00)
def wsX1_minutesUntilAsleep_r1 : List Cond := [Cond.fieldLink RX1 16 "SleepBorder" "trial" "LSleepBorder$Border;", Cond.fieldLink RX1 10 "SleepBorder" "now" "LSleepBorder$Border;", Cond.methodLink RX1 49 yX1_requireTraveller, Cond.instanceMethod yX1_requireTraveller, Cond.selects RX1 yX1_requireTraveller yX1_requireTraveller, Cond.initialized RX1, Cond.code yX1_requireTraveller cX1_requireTraveller 2 none, Cond.classLink RX1 208 "java/lang/IndexOutOfBoundsException", Cond.initialized "java/lang/IndexOutOfBoundsException", Cond.methodLink RX1 204 yX0_isTraveller, Cond.instanceMethod yX0_isTraveller, Cond.selects RX0 yX0_isTraveller yX0_isTraveller, Cond.initialized RX0, Cond.code yX0_isTraveller cX0_isTraveller 2 (some .boolean), Cond.fieldLink RX0 21 "SleepBorder$Border" "travellerCount" "I", Cond.methodLink RX1 113 yX0_become, Cond.instanceMethod yX0_become, Cond.selects RX0 yX0_become yX0_become, Cond.code yX0_become cX0_become 3 none, Cond.fieldLink RX0 9 "SleepBorder$Border" "clock" "I", Cond.fieldLink RX0 15 "SleepBorder$Border" "expiredCount" "I", Cond.fieldLink RX0 18 "SleepBorder$Border" "till" "I", Cond.fieldLink RX0 24 "SleepBorder$Border" "dreams" "[I", Cond.fieldLink RX0 28 "SleepBorder$Border" "declared" "[I"]
def wsX1_minutesUntilAsleep_r2 : List Cond := [Cond.fieldLink RX0 31 "SleepBorder$Border" "snore" "[I", Cond.fieldLink RX0 34 "SleepBorder$Border" "lullaby" "[I", Cond.fieldLink RX0 37 "SleepBorder$Border" "state" "[I", Cond.fieldLink RX0 40 "SleepBorder$Border" "transitLeft" "[I", Cond.fieldLink RX0 43 "SleepBorder$Border" "asleepSince" "[I", Cond.fieldLink RX0 46 "SleepBorder$Border" "guardCount" "I", Cond.fieldLink RX0 49 "SleepBorder$Border" "alertness" "[I", Cond.fieldLink RX0 52 "SleepBorder$Border" "searched" "[I", Cond.fieldLink RX0 55 "SleepBorder$Border" "searchLeft" "[I", Cond.methodLink RX1 117 yX0_goOn, Cond.instanceMethod yX0_goOn, Cond.selects RX0 yX0_goOn yX0_goOn, Cond.code yX0_goOn cX0_goOn 3 none, Cond.methodLink RX0 72 yX0_isSettled, Cond.instanceMethod yX0_isSettled, Cond.selects RX0 yX0_isSettled yX0_isSettled, Cond.code yX0_isSettled cX0_isSettled 2 (some .boolean), Cond.methodLink RX0 76 yX0_goOneMinute, Cond.instanceMethod yX0_goOneMinute, Cond.selects RX0 yX0_goOneMinute yX0_goOneMinute, Cond.code yX0_goOneMinute cX0_goOneMinute 2 none, Cond.methodLink RX0 79 yX0_advanceTransits, Cond.instanceMethod yX0_advanceTransits, Cond.selects RX0 yX0_advanceTransits yX0_advanceTransits]
def wsX1_minutesUntilAsleep_r3 : List Cond := [Cond.code yX0_advanceTransits cX0_advanceTransits 2 none, Cond.methodLink RX0 82 yX0_shortenLullabies, Cond.instanceMethod yX0_shortenLullabies, Cond.selects RX0 yX0_shortenLullabies yX0_shortenLullabies, Cond.code yX0_shortenLullabies cX0_shortenLullabies 2 none, Cond.methodLink RX0 85 yX0_work, Cond.instanceMethod yX0_work, Cond.selects RX0 yX0_work yX0_work, Cond.code yX0_work cX0_work 4 none, Cond.methodLink RX0 103 Lib.Math.min.name, Cond.static Lib.Math.min.name, Cond.initialized "java/lang/Math", Cond.code Lib.Math.min.name Lib.Math.min.code 2 (some .int), Cond.methodLink RX0 89 yX0_isTraveller, Cond.methodLink RX0 93 yX0_searchOn, Cond.instanceMethod yX0_searchOn, Cond.selects RX0 yX0_searchOn yX0_searchOn, Cond.code yX0_searchOn cX0_searchOn 3 none, Cond.methodLink RX0 58 Lib.Math.max.name, Cond.static Lib.Math.max.name, Cond.code Lib.Math.max.name Lib.Math.max.code 2 (some .int), Cond.methodLink RX0 109 yX0_finds, Cond.instanceMethod yX0_finds, Cond.selects RX0 yX0_finds yX0_finds]
def wsX1_minutesUntilAsleep_r4 : List Cond := [Cond.code yX0_finds cX0_finds 4 (some .boolean), Cond.methodLink RX0 68 yX0_hiddenDreams, Cond.instanceMethod yX0_hiddenDreams, Cond.selects RX0 yX0_hiddenDreams yX0_hiddenDreams, Cond.code yX0_hiddenDreams cX0_hiddenDreams 2 (some .int), Cond.methodLink RX0 97 yX0_firstWaiting, Cond.instanceMethod yX0_firstWaiting, Cond.selects RX0 yX0_firstWaiting yX0_firstWaiting, Cond.code yX0_firstWaiting cX0_firstWaiting 2 (some .int), Cond.methodLink RX0 100 yX0_beginSearch, Cond.instanceMethod yX0_beginSearch, Cond.selects RX0 yX0_beginSearch yX0_beginSearch, Cond.code yX0_beginSearch cX0_beginSearch 3 none, Cond.methodLink RX0 106 yX0_searchMinutes, Cond.instanceMethod yX0_searchMinutes, Cond.selects RX0 yX0_searchMinutes yX0_searchMinutes, Cond.code yX0_searchMinutes cX0_searchMinutes 2 (some .int), Cond.methodLink RX0 64 yX0_addedSnores, Cond.instanceMethod yX0_addedSnores, Cond.selects RX0 yX0_addedSnores yX0_addedSnores, Cond.code yX0_addedSnores cX0_addedSnores 3 (some .int), Cond.methodLink RX1 120 yX1_foreseenSleep, Cond.instanceMethod yX1_foreseenSleep, Cond.selects RX1 yX1_foreseenSleep yX1_foreseenSleep]
def wsX1_minutesUntilAsleep_r5 : List Cond := [Cond.code yX1_foreseenSleep cX1_foreseenSleep 2 (some .int), Cond.fieldLink RX1 91 "SleepBorder$Border" "state" "[I", Cond.fieldLink RX1 201 "SleepBorder$Border" "asleepSince" "[I", Cond.fieldLink RX1 75 "SleepBorder$Border" "clock" "I"]
def wsX1_minutesUntilAsleep : List Cond := .code yX1_minutesUntilAsleep cX1_minutesUntilAsleep 2 (some .int) :: ((wsX1_minutesUntilAsleep_r1 ++ (wsX1_minutesUntilAsleep_r2 ++ (wsX1_minutesUntilAsleep_r3 ++ (wsX1_minutesUntilAsleep_r4 ++ wsX1_minutesUntilAsleep_r5)))) ++ wsX10 ++ wsX00 ++ (vx_atS RX1 212 "java/lang/IndexOutOfBoundsException" ["java/lang/RuntimeException", "java/lang/Exception"]).filter goodWord)
def wsX1_asleepIn_r1 : List Cond := [Cond.fieldLink RX1 16 "SleepBorder" "trial" "LSleepBorder$Border;", Cond.fieldLink RX1 10 "SleepBorder" "now" "LSleepBorder$Border;", Cond.methodLink RX1 37 yX1_requireMinutes, Cond.static yX1_requireMinutes, Cond.initialized RX1, Cond.code yX1_requireMinutes cX1_requireMinutes 1 none, Cond.classLink RX1 218 "java/lang/IllegalArgumentException", Cond.initialized "java/lang/IllegalArgumentException", Cond.methodLink RX1 113 yX0_become, Cond.instanceMethod yX0_become, Cond.selects RX0 yX0_become yX0_become, Cond.initialized RX0, Cond.code yX0_become cX0_become 3 none, Cond.fieldLink RX0 9 "SleepBorder$Border" "clock" "I", Cond.fieldLink RX0 15 "SleepBorder$Border" "expiredCount" "I", Cond.fieldLink RX0 18 "SleepBorder$Border" "till" "I", Cond.fieldLink RX0 21 "SleepBorder$Border" "travellerCount" "I", Cond.fieldLink RX0 24 "SleepBorder$Border" "dreams" "[I", Cond.fieldLink RX0 28 "SleepBorder$Border" "declared" "[I", Cond.fieldLink RX0 31 "SleepBorder$Border" "snore" "[I", Cond.fieldLink RX0 34 "SleepBorder$Border" "lullaby" "[I", Cond.fieldLink RX0 37 "SleepBorder$Border" "state" "[I", Cond.fieldLink RX0 40 "SleepBorder$Border" "transitLeft" "[I", Cond.fieldLink RX0 43 "SleepBorder$Border" "asleepSince" "[I"]
def wsX1_asleepIn_r2 : List Cond := [Cond.fieldLink RX0 46 "SleepBorder$Border" "guardCount" "I", Cond.fieldLink RX0 49 "SleepBorder$Border" "alertness" "[I", Cond.fieldLink RX0 52 "SleepBorder$Border" "searched" "[I", Cond.fieldLink RX0 55 "SleepBorder$Border" "searchLeft" "[I", Cond.methodLink RX1 117 yX0_goOn, Cond.instanceMethod yX0_goOn, Cond.selects RX0 yX0_goOn yX0_goOn, Cond.code yX0_goOn cX0_goOn 3 none, Cond.methodLink RX0 72 yX0_isSettled, Cond.instanceMethod yX0_isSettled, Cond.selects RX0 yX0_isSettled yX0_isSettled, Cond.code yX0_isSettled cX0_isSettled 2 (some .boolean), Cond.methodLink RX0 76 yX0_goOneMinute, Cond.instanceMethod yX0_goOneMinute, Cond.selects RX0 yX0_goOneMinute yX0_goOneMinute, Cond.code yX0_goOneMinute cX0_goOneMinute 2 none, Cond.methodLink RX0 79 yX0_advanceTransits, Cond.instanceMethod yX0_advanceTransits, Cond.selects RX0 yX0_advanceTransits yX0_advanceTransits, Cond.code yX0_advanceTransits cX0_advanceTransits 2 none, Cond.methodLink RX0 82 yX0_shortenLullabies, Cond.instanceMethod yX0_shortenLullabies, Cond.selects RX0 yX0_shortenLullabies yX0_shortenLullabies, Cond.code yX0_shortenLullabies cX0_shortenLullabies 2 none]
def wsX1_asleepIn_r3 : List Cond := [Cond.methodLink RX0 85 yX0_work, Cond.instanceMethod yX0_work, Cond.selects RX0 yX0_work yX0_work, Cond.code yX0_work cX0_work 4 none, Cond.methodLink RX0 103 Lib.Math.min.name, Cond.static Lib.Math.min.name, Cond.initialized "java/lang/Math", Cond.code Lib.Math.min.name Lib.Math.min.code 2 (some .int), Cond.methodLink RX0 89 yX0_isTraveller, Cond.instanceMethod yX0_isTraveller, Cond.selects RX0 yX0_isTraveller yX0_isTraveller, Cond.code yX0_isTraveller cX0_isTraveller 2 (some .boolean), Cond.methodLink RX0 93 yX0_searchOn, Cond.instanceMethod yX0_searchOn, Cond.selects RX0 yX0_searchOn yX0_searchOn, Cond.code yX0_searchOn cX0_searchOn 3 none, Cond.methodLink RX0 58 Lib.Math.max.name, Cond.static Lib.Math.max.name, Cond.code Lib.Math.max.name Lib.Math.max.code 2 (some .int), Cond.methodLink RX0 109 yX0_finds, Cond.instanceMethod yX0_finds, Cond.selects RX0 yX0_finds yX0_finds, Cond.code yX0_finds cX0_finds 4 (some .boolean), Cond.methodLink RX0 68 yX0_hiddenDreams]
def wsX1_asleepIn_r4 : List Cond := [Cond.instanceMethod yX0_hiddenDreams, Cond.selects RX0 yX0_hiddenDreams yX0_hiddenDreams, Cond.code yX0_hiddenDreams cX0_hiddenDreams 2 (some .int), Cond.methodLink RX0 97 yX0_firstWaiting, Cond.instanceMethod yX0_firstWaiting, Cond.selects RX0 yX0_firstWaiting yX0_firstWaiting, Cond.code yX0_firstWaiting cX0_firstWaiting 2 (some .int), Cond.methodLink RX0 100 yX0_beginSearch, Cond.instanceMethod yX0_beginSearch, Cond.selects RX0 yX0_beginSearch yX0_beginSearch, Cond.code yX0_beginSearch cX0_beginSearch 3 none, Cond.methodLink RX0 106 yX0_searchMinutes, Cond.instanceMethod yX0_searchMinutes, Cond.selects RX0 yX0_searchMinutes yX0_searchMinutes, Cond.code yX0_searchMinutes cX0_searchMinutes 2 (some .int), Cond.methodLink RX0 64 yX0_addedSnores, Cond.instanceMethod yX0_addedSnores, Cond.selects RX0 yX0_addedSnores yX0_addedSnores, Cond.code yX0_addedSnores cX0_addedSnores 3 (some .int), Cond.methodLink RX1 68 yX0_countIn, Cond.instanceMethod yX0_countIn, Cond.selects RX0 yX0_countIn yX0_countIn, Cond.code yX0_countIn cX0_countIn 4 (some .int)]
def wsX1_asleepIn : List Cond := .code yX1_asleepIn cX1_asleepIn 2 (some .int) :: ((wsX1_asleepIn_r1 ++ (wsX1_asleepIn_r2 ++ (wsX1_asleepIn_r3 ++ wsX1_asleepIn_r4))) ++ wsX10 ++ wsX00 ++ (vx_atS RX1 222 "java/lang/IllegalArgumentException" ["java/lang/RuntimeException", "java/lang/Exception"]).filter goodWord)
def wsX1_bestToDeclare_r1 : List Cond := [Cond.fieldLink RX1 10 "SleepBorder" "now" "LSleepBorder$Border;", Cond.fieldLink RX1 91 "SleepBorder$Border" "state" "[I", Cond.fieldLink RX1 16 "SleepBorder" "trial" "LSleepBorder$Border;", Cond.fieldLink RX1 55 "SleepBorder$Border" "declared" "[I", Cond.methodLink RX1 49 yX1_requireTraveller, Cond.instanceMethod yX1_requireTraveller, Cond.selects RX1 yX1_requireTraveller yX1_requireTraveller, Cond.initialized RX1, Cond.code yX1_requireTraveller cX1_requireTraveller 2 none, Cond.classLink RX1 208 "java/lang/IndexOutOfBoundsException", Cond.initialized "java/lang/IndexOutOfBoundsException", Cond.methodLink RX1 204 yX0_isTraveller, Cond.instanceMethod yX0_isTraveller, Cond.selects RX0 yX0_isTraveller yX0_isTraveller, Cond.initialized RX0, Cond.code yX0_isTraveller cX0_isTraveller 2 (some .boolean), Cond.fieldLink RX0 21 "SleepBorder$Border" "travellerCount" "I", Cond.methodLink RX1 113 yX0_become, Cond.instanceMethod yX0_become, Cond.selects RX0 yX0_become yX0_become, Cond.code yX0_become cX0_become 3 none, Cond.fieldLink RX0 9 "SleepBorder$Border" "clock" "I", Cond.fieldLink RX0 15 "SleepBorder$Border" "expiredCount" "I", Cond.fieldLink RX0 18 "SleepBorder$Border" "till" "I"]
def wsX1_bestToDeclare_r2 : List Cond := [Cond.fieldLink RX0 24 "SleepBorder$Border" "dreams" "[I", Cond.fieldLink RX0 28 "SleepBorder$Border" "declared" "[I", Cond.fieldLink RX0 31 "SleepBorder$Border" "snore" "[I", Cond.fieldLink RX0 34 "SleepBorder$Border" "lullaby" "[I", Cond.fieldLink RX0 37 "SleepBorder$Border" "state" "[I", Cond.fieldLink RX0 40 "SleepBorder$Border" "transitLeft" "[I", Cond.fieldLink RX0 43 "SleepBorder$Border" "asleepSince" "[I", Cond.fieldLink RX0 46 "SleepBorder$Border" "guardCount" "I", Cond.fieldLink RX0 49 "SleepBorder$Border" "alertness" "[I", Cond.fieldLink RX0 52 "SleepBorder$Border" "searched" "[I", Cond.fieldLink RX0 55 "SleepBorder$Border" "searchLeft" "[I", Cond.methodLink RX1 117 yX0_goOn, Cond.instanceMethod yX0_goOn, Cond.selects RX0 yX0_goOn yX0_goOn, Cond.code yX0_goOn cX0_goOn 3 none, Cond.methodLink RX0 72 yX0_isSettled, Cond.instanceMethod yX0_isSettled, Cond.selects RX0 yX0_isSettled yX0_isSettled, Cond.code yX0_isSettled cX0_isSettled 2 (some .boolean), Cond.methodLink RX0 76 yX0_goOneMinute, Cond.instanceMethod yX0_goOneMinute, Cond.selects RX0 yX0_goOneMinute yX0_goOneMinute, Cond.code yX0_goOneMinute cX0_goOneMinute 2 none, Cond.methodLink RX0 79 yX0_advanceTransits]
def wsX1_bestToDeclare_r3 : List Cond := [Cond.instanceMethod yX0_advanceTransits, Cond.selects RX0 yX0_advanceTransits yX0_advanceTransits, Cond.code yX0_advanceTransits cX0_advanceTransits 2 none, Cond.methodLink RX0 82 yX0_shortenLullabies, Cond.instanceMethod yX0_shortenLullabies, Cond.selects RX0 yX0_shortenLullabies yX0_shortenLullabies, Cond.code yX0_shortenLullabies cX0_shortenLullabies 2 none, Cond.methodLink RX0 85 yX0_work, Cond.instanceMethod yX0_work, Cond.selects RX0 yX0_work yX0_work, Cond.code yX0_work cX0_work 4 none, Cond.methodLink RX0 103 Lib.Math.min.name, Cond.static Lib.Math.min.name, Cond.initialized "java/lang/Math", Cond.code Lib.Math.min.name Lib.Math.min.code 2 (some .int), Cond.methodLink RX0 89 yX0_isTraveller, Cond.methodLink RX0 93 yX0_searchOn, Cond.instanceMethod yX0_searchOn, Cond.selects RX0 yX0_searchOn yX0_searchOn, Cond.code yX0_searchOn cX0_searchOn 3 none, Cond.methodLink RX0 58 Lib.Math.max.name, Cond.static Lib.Math.max.name, Cond.code Lib.Math.max.name Lib.Math.max.code 2 (some .int), Cond.methodLink RX0 109 yX0_finds]
def wsX1_bestToDeclare_r4 : List Cond := [Cond.instanceMethod yX0_finds, Cond.selects RX0 yX0_finds yX0_finds, Cond.code yX0_finds cX0_finds 4 (some .boolean), Cond.methodLink RX0 68 yX0_hiddenDreams, Cond.instanceMethod yX0_hiddenDreams, Cond.selects RX0 yX0_hiddenDreams yX0_hiddenDreams, Cond.code yX0_hiddenDreams cX0_hiddenDreams 2 (some .int), Cond.methodLink RX0 97 yX0_firstWaiting, Cond.instanceMethod yX0_firstWaiting, Cond.selects RX0 yX0_firstWaiting yX0_firstWaiting, Cond.code yX0_firstWaiting cX0_firstWaiting 2 (some .int), Cond.methodLink RX0 100 yX0_beginSearch, Cond.instanceMethod yX0_beginSearch, Cond.selects RX0 yX0_beginSearch yX0_beginSearch, Cond.code yX0_beginSearch cX0_beginSearch 3 none, Cond.methodLink RX0 106 yX0_searchMinutes, Cond.instanceMethod yX0_searchMinutes, Cond.selects RX0 yX0_searchMinutes yX0_searchMinutes, Cond.code yX0_searchMinutes cX0_searchMinutes 2 (some .int), Cond.methodLink RX0 64 yX0_addedSnores, Cond.instanceMethod yX0_addedSnores, Cond.selects RX0 yX0_addedSnores yX0_addedSnores, Cond.code yX0_addedSnores cX0_addedSnores 3 (some .int), Cond.methodLink RX1 120 yX1_foreseenSleep]
def wsX1_bestToDeclare_r5 : List Cond := [Cond.instanceMethod yX1_foreseenSleep, Cond.selects RX1 yX1_foreseenSleep yX1_foreseenSleep, Cond.code yX1_foreseenSleep cX1_foreseenSleep 2 (some .int), Cond.fieldLink RX1 201 "SleepBorder$Border" "asleepSince" "[I", Cond.fieldLink RX1 75 "SleepBorder$Border" "clock" "I"]
def wsX1_bestToDeclare : List Cond := .code yX1_bestToDeclare cX1_bestToDeclare 6 (some .int) :: ((wsX1_bestToDeclare_r1 ++ (wsX1_bestToDeclare_r2 ++ (wsX1_bestToDeclare_r3 ++ (wsX1_bestToDeclare_r4 ++ wsX1_bestToDeclare_r5)))) ++ wsX10 ++ wsX00 ++ (vx_atS RX1 212 "java/lang/IndexOutOfBoundsException" ["java/lang/RuntimeException", "java/lang/Exception"]).filter goodWord)
def wsX1_guardsWanted_r1 : List Cond := [Cond.fieldLink RX1 16 "SleepBorder" "trial" "LSleepBorder$Border;", Cond.fieldLink RX1 10 "SleepBorder" "now" "LSleepBorder$Border;", Cond.fieldLink RX1 78 "SleepBorder$Border" "expiredCount" "I", Cond.methodLink RX1 113 yX0_become, Cond.instanceMethod yX0_become, Cond.selects RX0 yX0_become yX0_become, Cond.initialized RX0, Cond.code yX0_become cX0_become 3 none, Cond.fieldLink RX0 9 "SleepBorder$Border" "clock" "I", Cond.fieldLink RX0 15 "SleepBorder$Border" "expiredCount" "I", Cond.fieldLink RX0 18 "SleepBorder$Border" "till" "I", Cond.fieldLink RX0 21 "SleepBorder$Border" "travellerCount" "I", Cond.fieldLink RX0 24 "SleepBorder$Border" "dreams" "[I", Cond.fieldLink RX0 28 "SleepBorder$Border" "declared" "[I", Cond.fieldLink RX0 31 "SleepBorder$Border" "snore" "[I", Cond.fieldLink RX0 34 "SleepBorder$Border" "lullaby" "[I", Cond.fieldLink RX0 37 "SleepBorder$Border" "state" "[I", Cond.fieldLink RX0 40 "SleepBorder$Border" "transitLeft" "[I", Cond.fieldLink RX0 43 "SleepBorder$Border" "asleepSince" "[I", Cond.fieldLink RX0 46 "SleepBorder$Border" "guardCount" "I", Cond.fieldLink RX0 49 "SleepBorder$Border" "alertness" "[I", Cond.fieldLink RX0 52 "SleepBorder$Border" "searched" "[I", Cond.fieldLink RX0 55 "SleepBorder$Border" "searchLeft" "[I", Cond.methodLink RX1 30 yX0_admitGuard]
def wsX1_guardsWanted_r2 : List Cond := [Cond.instanceMethod yX0_admitGuard, Cond.selects RX0 yX0_admitGuard yX0_admitGuard, Cond.code yX0_admitGuard cX0_admitGuard 1 none, Cond.methodLink RX1 117 yX0_goOn, Cond.instanceMethod yX0_goOn, Cond.selects RX0 yX0_goOn yX0_goOn, Cond.code yX0_goOn cX0_goOn 3 none, Cond.methodLink RX0 72 yX0_isSettled, Cond.instanceMethod yX0_isSettled, Cond.selects RX0 yX0_isSettled yX0_isSettled, Cond.code yX0_isSettled cX0_isSettled 2 (some .boolean), Cond.methodLink RX0 76 yX0_goOneMinute, Cond.instanceMethod yX0_goOneMinute, Cond.selects RX0 yX0_goOneMinute yX0_goOneMinute, Cond.code yX0_goOneMinute cX0_goOneMinute 2 none, Cond.methodLink RX0 79 yX0_advanceTransits, Cond.instanceMethod yX0_advanceTransits, Cond.selects RX0 yX0_advanceTransits yX0_advanceTransits, Cond.code yX0_advanceTransits cX0_advanceTransits 2 none, Cond.methodLink RX0 82 yX0_shortenLullabies, Cond.instanceMethod yX0_shortenLullabies, Cond.selects RX0 yX0_shortenLullabies yX0_shortenLullabies, Cond.code yX0_shortenLullabies cX0_shortenLullabies 2 none, Cond.methodLink RX0 85 yX0_work]
def wsX1_guardsWanted_r3 : List Cond := [Cond.instanceMethod yX0_work, Cond.selects RX0 yX0_work yX0_work, Cond.code yX0_work cX0_work 4 none, Cond.methodLink RX0 103 Lib.Math.min.name, Cond.static Lib.Math.min.name, Cond.initialized "java/lang/Math", Cond.code Lib.Math.min.name Lib.Math.min.code 2 (some .int), Cond.methodLink RX0 89 yX0_isTraveller, Cond.instanceMethod yX0_isTraveller, Cond.selects RX0 yX0_isTraveller yX0_isTraveller, Cond.code yX0_isTraveller cX0_isTraveller 2 (some .boolean), Cond.methodLink RX0 93 yX0_searchOn, Cond.instanceMethod yX0_searchOn, Cond.selects RX0 yX0_searchOn yX0_searchOn, Cond.code yX0_searchOn cX0_searchOn 3 none, Cond.methodLink RX0 58 Lib.Math.max.name, Cond.static Lib.Math.max.name, Cond.code Lib.Math.max.name Lib.Math.max.code 2 (some .int), Cond.methodLink RX0 109 yX0_finds, Cond.instanceMethod yX0_finds, Cond.selects RX0 yX0_finds yX0_finds, Cond.code yX0_finds cX0_finds 4 (some .boolean), Cond.methodLink RX0 68 yX0_hiddenDreams, Cond.instanceMethod yX0_hiddenDreams]
def wsX1_guardsWanted_r4 : List Cond := [Cond.selects RX0 yX0_hiddenDreams yX0_hiddenDreams, Cond.code yX0_hiddenDreams cX0_hiddenDreams 2 (some .int), Cond.methodLink RX0 97 yX0_firstWaiting, Cond.instanceMethod yX0_firstWaiting, Cond.selects RX0 yX0_firstWaiting yX0_firstWaiting, Cond.code yX0_firstWaiting cX0_firstWaiting 2 (some .int), Cond.methodLink RX0 100 yX0_beginSearch, Cond.instanceMethod yX0_beginSearch, Cond.selects RX0 yX0_beginSearch yX0_beginSearch, Cond.code yX0_beginSearch cX0_beginSearch 3 none, Cond.methodLink RX0 106 yX0_searchMinutes, Cond.instanceMethod yX0_searchMinutes, Cond.selects RX0 yX0_searchMinutes yX0_searchMinutes, Cond.code yX0_searchMinutes cX0_searchMinutes 2 (some .int), Cond.methodLink RX0 64 yX0_addedSnores, Cond.instanceMethod yX0_addedSnores, Cond.selects RX0 yX0_addedSnores yX0_addedSnores, Cond.code yX0_addedSnores cX0_addedSnores 3 (some .int)]
def wsX1_guardsWanted : List Cond := .code yX1_guardsWanted cX1_guardsWanted 3 (some .int) :: ((wsX1_guardsWanted_r1 ++ (wsX1_guardsWanted_r2 ++ (wsX1_guardsWanted_r3 ++ wsX1_guardsWanted_r4))) ++ wsX10 ++ wsX00)
def wsX1_meanAlertness : List Cond := .code yX1_meanAlertness cX1_meanAlertness 3 (some .double) :: ([.fieldLink RX1 10 "SleepBorder" "now" "LSleepBorder$Border;", .fieldLink RX1 19 "SleepBorder$Border" "guardCount" "I", .fieldLink RX1 65 "SleepBorder$Border" "alertness" "[I"] ++ wsX10 ++ wsX00)
def wsX1_mix : List Cond := .code yX1_mix cX1_mix 3 (some .long) :: ([.constantLong RX1 199 (31)])
def wsX1_mixTravellers_r1 : List Cond := [Cond.fieldLink RX1 16 "SleepBorder" "trial" "LSleepBorder$Border;", Cond.fieldLink RX1 10 "SleepBorder" "now" "LSleepBorder$Border;", Cond.fieldLink RX1 40 "SleepBorder$Border" "travellerCount" "I", Cond.methodLink RX1 113 yX0_become, Cond.instanceMethod yX0_become, Cond.selects RX0 yX0_become yX0_become, Cond.initialized RX0, Cond.code yX0_become cX0_become 3 none, Cond.fieldLink RX0 9 "SleepBorder$Border" "clock" "I", Cond.fieldLink RX0 15 "SleepBorder$Border" "expiredCount" "I", Cond.fieldLink RX0 18 "SleepBorder$Border" "till" "I", Cond.fieldLink RX0 21 "SleepBorder$Border" "travellerCount" "I", Cond.fieldLink RX0 24 "SleepBorder$Border" "dreams" "[I", Cond.fieldLink RX0 28 "SleepBorder$Border" "declared" "[I", Cond.fieldLink RX0 31 "SleepBorder$Border" "snore" "[I", Cond.fieldLink RX0 34 "SleepBorder$Border" "lullaby" "[I", Cond.fieldLink RX0 37 "SleepBorder$Border" "state" "[I", Cond.fieldLink RX0 40 "SleepBorder$Border" "transitLeft" "[I", Cond.fieldLink RX0 43 "SleepBorder$Border" "asleepSince" "[I", Cond.fieldLink RX0 46 "SleepBorder$Border" "guardCount" "I", Cond.fieldLink RX0 49 "SleepBorder$Border" "alertness" "[I", Cond.fieldLink RX0 52 "SleepBorder$Border" "searched" "[I", Cond.fieldLink RX0 55 "SleepBorder$Border" "searchLeft" "[I", Cond.methodLink RX1 117 yX0_goOn]
def wsX1_mixTravellers_r2 : List Cond := [Cond.instanceMethod yX0_goOn, Cond.selects RX0 yX0_goOn yX0_goOn, Cond.code yX0_goOn cX0_goOn 3 none, Cond.methodLink RX0 72 yX0_isSettled, Cond.instanceMethod yX0_isSettled, Cond.selects RX0 yX0_isSettled yX0_isSettled, Cond.code yX0_isSettled cX0_isSettled 2 (some .boolean), Cond.methodLink RX0 76 yX0_goOneMinute, Cond.instanceMethod yX0_goOneMinute, Cond.selects RX0 yX0_goOneMinute yX0_goOneMinute, Cond.code yX0_goOneMinute cX0_goOneMinute 2 none, Cond.methodLink RX0 79 yX0_advanceTransits, Cond.instanceMethod yX0_advanceTransits, Cond.selects RX0 yX0_advanceTransits yX0_advanceTransits, Cond.code yX0_advanceTransits cX0_advanceTransits 2 none, Cond.methodLink RX0 82 yX0_shortenLullabies, Cond.instanceMethod yX0_shortenLullabies, Cond.selects RX0 yX0_shortenLullabies yX0_shortenLullabies, Cond.code yX0_shortenLullabies cX0_shortenLullabies 2 none, Cond.methodLink RX0 85 yX0_work, Cond.instanceMethod yX0_work, Cond.selects RX0 yX0_work yX0_work, Cond.code yX0_work cX0_work 4 none, Cond.methodLink RX0 103 Lib.Math.min.name]
def wsX1_mixTravellers_r3 : List Cond := [Cond.static Lib.Math.min.name, Cond.initialized "java/lang/Math", Cond.code Lib.Math.min.name Lib.Math.min.code 2 (some .int), Cond.methodLink RX0 89 yX0_isTraveller, Cond.instanceMethod yX0_isTraveller, Cond.selects RX0 yX0_isTraveller yX0_isTraveller, Cond.code yX0_isTraveller cX0_isTraveller 2 (some .boolean), Cond.methodLink RX0 93 yX0_searchOn, Cond.instanceMethod yX0_searchOn, Cond.selects RX0 yX0_searchOn yX0_searchOn, Cond.code yX0_searchOn cX0_searchOn 3 none, Cond.methodLink RX0 58 Lib.Math.max.name, Cond.static Lib.Math.max.name, Cond.code Lib.Math.max.name Lib.Math.max.code 2 (some .int), Cond.methodLink RX0 109 yX0_finds, Cond.instanceMethod yX0_finds, Cond.selects RX0 yX0_finds yX0_finds, Cond.code yX0_finds cX0_finds 4 (some .boolean), Cond.methodLink RX0 68 yX0_hiddenDreams, Cond.instanceMethod yX0_hiddenDreams, Cond.selects RX0 yX0_hiddenDreams yX0_hiddenDreams, Cond.code yX0_hiddenDreams cX0_hiddenDreams 2 (some .int), Cond.methodLink RX0 97 yX0_firstWaiting, Cond.instanceMethod yX0_firstWaiting]
def wsX1_mixTravellers_r4 : List Cond := [Cond.selects RX0 yX0_firstWaiting yX0_firstWaiting, Cond.code yX0_firstWaiting cX0_firstWaiting 2 (some .int), Cond.methodLink RX0 100 yX0_beginSearch, Cond.instanceMethod yX0_beginSearch, Cond.selects RX0 yX0_beginSearch yX0_beginSearch, Cond.code yX0_beginSearch cX0_beginSearch 3 none, Cond.methodLink RX0 106 yX0_searchMinutes, Cond.instanceMethod yX0_searchMinutes, Cond.selects RX0 yX0_searchMinutes yX0_searchMinutes, Cond.code yX0_searchMinutes cX0_searchMinutes 2 (some .int), Cond.methodLink RX0 64 yX0_addedSnores, Cond.instanceMethod yX0_addedSnores, Cond.selects RX0 yX0_addedSnores yX0_addedSnores, Cond.code yX0_addedSnores cX0_addedSnores 3 (some .int), Cond.methodLink RX1 175 yX1_stateOf, Cond.instanceMethod yX1_stateOf, Cond.selects RX1 yX1_stateOf yX1_stateOf, Cond.initialized RX1, Cond.code yX1_stateOf cX1_stateOf 2 (some .int), Cond.fieldLink RX1 91 "SleepBorder$Border" "state" "[I", Cond.methodLink RX1 49 yX1_requireTraveller, Cond.instanceMethod yX1_requireTraveller, Cond.selects RX1 yX1_requireTraveller yX1_requireTraveller, Cond.code yX1_requireTraveller cX1_requireTraveller 2 none]
def wsX1_mixTravellers_r5 : List Cond := [Cond.classLink RX1 208 "java/lang/IndexOutOfBoundsException", Cond.initialized "java/lang/IndexOutOfBoundsException", Cond.methodLink RX1 204 yX0_isTraveller, Cond.methodLink RX1 128 yX1_mix, Cond.static yX1_mix, Cond.code yX1_mix cX1_mix 3 (some .long), Cond.constantLong RX1 199 (31), Cond.methodLink RX1 178 yX1_hiddenOf, Cond.instanceMethod yX1_hiddenOf, Cond.selects RX1 yX1_hiddenOf yX1_hiddenOf, Cond.code yX1_hiddenOf cX1_hiddenOf 2 (some .int), Cond.methodLink RX1 94 yX0_hiddenDreams, Cond.methodLink RX1 181 yX1_lullabyOf, Cond.instanceMethod yX1_lullabyOf, Cond.selects RX1 yX1_lullabyOf yX1_lullabyOf, Cond.code yX1_lullabyOf cX1_lullabyOf 2 (some .int), Cond.fieldLink RX1 59 "SleepBorder$Border" "lullaby" "[I", Cond.methodLink RX1 184 yX1_placeInLine, Cond.instanceMethod yX1_placeInLine, Cond.selects RX1 yX1_placeInLine yX1_placeInLine, Cond.code yX1_placeInLine cX1_placeInLine 2 (some .int), Cond.methodLink RX1 97 yX0_waitingAhead, Cond.instanceMethod yX0_waitingAhead, Cond.selects RX0 yX0_waitingAhead yX0_waitingAhead]
def wsX1_mixTravellers_r6 : List Cond := [Cond.code yX0_waitingAhead cX0_waitingAhead 4 (some .int), Cond.methodLink RX1 187 yX1_searchTime, Cond.instanceMethod yX1_searchTime, Cond.selects RX1 yX1_searchTime yX1_searchTime, Cond.code yX1_searchTime cX1_searchTime 2 (some .int), Cond.methodLink RX1 100 yX0_searchMinutes, Cond.methodLink RX1 120 yX1_foreseenSleep, Cond.instanceMethod yX1_foreseenSleep, Cond.selects RX1 yX1_foreseenSleep yX1_foreseenSleep, Cond.code yX1_foreseenSleep cX1_foreseenSleep 2 (some .int), Cond.fieldLink RX1 201 "SleepBorder$Border" "asleepSince" "[I", Cond.fieldLink RX1 75 "SleepBorder$Border" "clock" "I"]
def wsX1_mixTravellers : List Cond := .code yX1_mixTravellers cX1_mixTravellers 6 (some .long) :: ((wsX1_mixTravellers_r1 ++ (wsX1_mixTravellers_r2 ++ (wsX1_mixTravellers_r3 ++ (wsX1_mixTravellers_r4 ++ (wsX1_mixTravellers_r5 ++ wsX1_mixTravellers_r6))))) ++ wsX10 ++ wsX00 ++ (vx_atS RX1 212 "java/lang/IndexOutOfBoundsException" ["java/lang/RuntimeException", "java/lang/Exception"]).filter goodWord)
def wsX1_mixGuards_r1 : List Cond := [Cond.fieldLink RX1 10 "SleepBorder" "now" "LSleepBorder$Border;", Cond.fieldLink RX1 19 "SleepBorder$Border" "guardCount" "I", Cond.methodLink RX1 190 yX1_alertnessOf, Cond.instanceMethod yX1_alertnessOf, Cond.selects RX1 yX1_alertnessOf yX1_alertnessOf, Cond.initialized RX1, Cond.code yX1_alertnessOf cX1_alertnessOf 2 (some .int), Cond.fieldLink RX1 65 "SleepBorder$Border" "alertness" "[I", Cond.methodLink RX1 62 yX1_requireGuard, Cond.instanceMethod yX1_requireGuard, Cond.selects RX1 yX1_requireGuard yX1_requireGuard, Cond.code yX1_requireGuard cX1_requireGuard 2 none, Cond.classLink RX1 208 "java/lang/IndexOutOfBoundsException", Cond.initialized "java/lang/IndexOutOfBoundsException", Cond.methodLink RX1 213 yX0_isGuard, Cond.instanceMethod yX0_isGuard, Cond.selects RX0 yX0_isGuard yX0_isGuard, Cond.initialized RX0, Cond.code yX0_isGuard cX0_isGuard 2 (some .boolean), Cond.fieldLink RX0 46 "SleepBorder$Border" "guardCount" "I", Cond.methodLink RX1 128 yX1_mix, Cond.static yX1_mix, Cond.code yX1_mix cX1_mix 3 (some .long), Cond.constantLong RX1 199 (31)]
def wsX1_mixGuards_r2 : List Cond := [Cond.methodLink RX1 193 yX1_searches, Cond.instanceMethod yX1_searches, Cond.selects RX1 yX1_searches yX1_searches, Cond.code yX1_searches cX1_searches 2 (some .int), Cond.fieldLink RX1 103 "SleepBorder$Border" "searched" "[I", Cond.methodLink RX1 196 yX1_minutesToGo, Cond.instanceMethod yX1_minutesToGo, Cond.selects RX1 yX1_minutesToGo yX1_minutesToGo, Cond.code yX1_minutesToGo cX1_minutesToGo 2 (some .int), Cond.fieldLink RX1 106 "SleepBorder$Border" "searchLeft" "[I"]
def wsX1_mixGuards : List Cond := .code yX1_mixGuards cX1_mixGuards 6 (some .long) :: ((wsX1_mixGuards_r1 ++ wsX1_mixGuards_r2) ++ wsX10 ++ wsX00 ++ (vx_atS RX1 212 "java/lang/IndexOutOfBoundsException" ["java/lang/RuntimeException", "java/lang/Exception"]).filter goodWord)
def wsX1_digest_r1 : List Cond := [Cond.constantLong RX1 123 (2131), Cond.methodLink RX1 125 yX1_minute, Cond.instanceMethod yX1_minute, Cond.selects RX1 yX1_minute yX1_minute, Cond.initialized RX1, Cond.code yX1_minute cX1_minute 1 (some .int), Cond.fieldLink RX1 10 "SleepBorder" "now" "LSleepBorder$Border;", Cond.fieldLink RX1 75 "SleepBorder$Border" "clock" "I", Cond.methodLink RX1 128 yX1_mix, Cond.static yX1_mix, Cond.code yX1_mix cX1_mix 3 (some .long), Cond.constantLong RX1 199 (31), Cond.methodLink RX1 132 yX1_travellers, Cond.instanceMethod yX1_travellers, Cond.selects RX1 yX1_travellers yX1_travellers, Cond.code yX1_travellers cX1_travellers 1 (some .int), Cond.fieldLink RX1 40 "SleepBorder$Border" "travellerCount" "I", Cond.methodLink RX1 135 yX1_waiting, Cond.instanceMethod yX1_waiting, Cond.selects RX1 yX1_waiting yX1_waiting, Cond.code yX1_waiting cX1_waiting 1 (some .int), Cond.methodLink RX1 68 yX0_countIn, Cond.instanceMethod yX0_countIn, Cond.selects RX0 yX0_countIn yX0_countIn]
def wsX1_digest_r2 : List Cond := [Cond.initialized RX0, Cond.code yX0_countIn cX0_countIn 4 (some .int), Cond.fieldLink RX0 21 "SleepBorder$Border" "travellerCount" "I", Cond.fieldLink RX0 37 "SleepBorder$Border" "state" "[I", Cond.methodLink RX1 138 yX1_asleep, Cond.instanceMethod yX1_asleep, Cond.selects RX1 yX1_asleep yX1_asleep, Cond.code yX1_asleep cX1_asleep 1 (some .int), Cond.methodLink RX1 141 yX1_sentBack, Cond.instanceMethod yX1_sentBack, Cond.selects RX1 yX1_sentBack yX1_sentBack, Cond.code yX1_sentBack cX1_sentBack 1 (some .int), Cond.methodLink RX1 144 yX1_expired, Cond.instanceMethod yX1_expired, Cond.selects RX1 yX1_expired yX1_expired, Cond.code yX1_expired cX1_expired 1 (some .int), Cond.fieldLink RX1 78 "SleepBorder$Border" "expiredCount" "I", Cond.methodLink RX1 147 yX1_paid, Cond.instanceMethod yX1_paid, Cond.selects RX1 yX1_paid yX1_paid, Cond.code yX1_paid cX1_paid 1 (some .int), Cond.fieldLink RX1 81 "SleepBorder$Border" "till" "I", Cond.methodLink RX1 150 yX1_noise, Cond.instanceMethod yX1_noise]
def wsX1_digest_r3 : List Cond := [Cond.selects RX1 yX1_noise yX1_noise, Cond.code yX1_noise cX1_noise 1 (some .int), Cond.methodLink RX1 84 yX0_addedSnores, Cond.instanceMethod yX0_addedSnores, Cond.selects RX0 yX0_addedSnores yX0_addedSnores, Cond.code yX0_addedSnores cX0_addedSnores 3 (some .int), Cond.fieldLink RX0 31 "SleepBorder$Border" "snore" "[I", Cond.methodLink RX1 153 yX1_nextInLine, Cond.instanceMethod yX1_nextInLine, Cond.selects RX1 yX1_nextInLine yX1_nextInLine, Cond.code yX1_nextInLine cX1_nextInLine 1 (some .int), Cond.methodLink RX1 88 yX0_firstWaiting, Cond.instanceMethod yX0_firstWaiting, Cond.selects RX0 yX0_firstWaiting yX0_firstWaiting, Cond.code yX0_firstWaiting cX0_firstWaiting 2 (some .int), Cond.methodLink RX1 156 yX1_guards, Cond.instanceMethod yX1_guards, Cond.selects RX1 yX1_guards yX1_guards, Cond.code yX1_guards cX1_guards 1 (some .int), Cond.fieldLink RX1 19 "SleepBorder$Border" "guardCount" "I", Cond.methodLink RX1 159 yX1_mostAlert, Cond.instanceMethod yX1_mostAlert, Cond.selects RX1 yX1_mostAlert yX1_mostAlert, Cond.code yX1_mostAlert cX1_mostAlert 4 (some .int)]
def wsX1_digest_r4 : List Cond := [Cond.fieldLink RX1 65 "SleepBorder$Border" "alertness" "[I", Cond.methodLink RX1 162 yX1_asleepIn, Cond.instanceMethod yX1_asleepIn, Cond.selects RX1 yX1_asleepIn yX1_asleepIn, Cond.code yX1_asleepIn cX1_asleepIn 2 (some .int), Cond.fieldLink RX1 16 "SleepBorder" "trial" "LSleepBorder$Border;", Cond.methodLink RX1 37 yX1_requireMinutes, Cond.static yX1_requireMinutes, Cond.code yX1_requireMinutes cX1_requireMinutes 1 none, Cond.classLink RX1 218 "java/lang/IllegalArgumentException", Cond.initialized "java/lang/IllegalArgumentException", Cond.methodLink RX1 113 yX0_become, Cond.instanceMethod yX0_become, Cond.selects RX0 yX0_become yX0_become, Cond.code yX0_become cX0_become 3 none, Cond.fieldLink RX0 9 "SleepBorder$Border" "clock" "I", Cond.fieldLink RX0 15 "SleepBorder$Border" "expiredCount" "I", Cond.fieldLink RX0 18 "SleepBorder$Border" "till" "I", Cond.fieldLink RX0 24 "SleepBorder$Border" "dreams" "[I", Cond.fieldLink RX0 28 "SleepBorder$Border" "declared" "[I", Cond.fieldLink RX0 34 "SleepBorder$Border" "lullaby" "[I", Cond.fieldLink RX0 40 "SleepBorder$Border" "transitLeft" "[I", Cond.fieldLink RX0 43 "SleepBorder$Border" "asleepSince" "[I", Cond.fieldLink RX0 46 "SleepBorder$Border" "guardCount" "I"]
def wsX1_digest_r5 : List Cond := [Cond.fieldLink RX0 49 "SleepBorder$Border" "alertness" "[I", Cond.fieldLink RX0 52 "SleepBorder$Border" "searched" "[I", Cond.fieldLink RX0 55 "SleepBorder$Border" "searchLeft" "[I", Cond.methodLink RX1 117 yX0_goOn, Cond.instanceMethod yX0_goOn, Cond.selects RX0 yX0_goOn yX0_goOn, Cond.code yX0_goOn cX0_goOn 3 none, Cond.methodLink RX0 72 yX0_isSettled, Cond.instanceMethod yX0_isSettled, Cond.selects RX0 yX0_isSettled yX0_isSettled, Cond.code yX0_isSettled cX0_isSettled 2 (some .boolean), Cond.methodLink RX0 76 yX0_goOneMinute, Cond.instanceMethod yX0_goOneMinute, Cond.selects RX0 yX0_goOneMinute yX0_goOneMinute, Cond.code yX0_goOneMinute cX0_goOneMinute 2 none, Cond.methodLink RX0 79 yX0_advanceTransits, Cond.instanceMethod yX0_advanceTransits, Cond.selects RX0 yX0_advanceTransits yX0_advanceTransits, Cond.code yX0_advanceTransits cX0_advanceTransits 2 none, Cond.methodLink RX0 82 yX0_shortenLullabies, Cond.instanceMethod yX0_shortenLullabies, Cond.selects RX0 yX0_shortenLullabies yX0_shortenLullabies, Cond.code yX0_shortenLullabies cX0_shortenLullabies 2 none, Cond.methodLink RX0 85 yX0_work]
def wsX1_digest_r6 : List Cond := [Cond.instanceMethod yX0_work, Cond.selects RX0 yX0_work yX0_work, Cond.code yX0_work cX0_work 4 none, Cond.methodLink RX0 103 Lib.Math.min.name, Cond.static Lib.Math.min.name, Cond.initialized "java/lang/Math", Cond.code Lib.Math.min.name Lib.Math.min.code 2 (some .int), Cond.methodLink RX0 89 yX0_isTraveller, Cond.instanceMethod yX0_isTraveller, Cond.selects RX0 yX0_isTraveller yX0_isTraveller, Cond.code yX0_isTraveller cX0_isTraveller 2 (some .boolean), Cond.methodLink RX0 93 yX0_searchOn, Cond.instanceMethod yX0_searchOn, Cond.selects RX0 yX0_searchOn yX0_searchOn, Cond.code yX0_searchOn cX0_searchOn 3 none, Cond.methodLink RX0 58 Lib.Math.max.name, Cond.static Lib.Math.max.name, Cond.code Lib.Math.max.name Lib.Math.max.code 2 (some .int), Cond.methodLink RX0 109 yX0_finds, Cond.instanceMethod yX0_finds, Cond.selects RX0 yX0_finds yX0_finds, Cond.code yX0_finds cX0_finds 4 (some .boolean), Cond.methodLink RX0 68 yX0_hiddenDreams, Cond.instanceMethod yX0_hiddenDreams]
def wsX1_digest_r7 : List Cond := [Cond.selects RX0 yX0_hiddenDreams yX0_hiddenDreams, Cond.code yX0_hiddenDreams cX0_hiddenDreams 2 (some .int), Cond.methodLink RX0 97 yX0_firstWaiting, Cond.methodLink RX0 100 yX0_beginSearch, Cond.instanceMethod yX0_beginSearch, Cond.selects RX0 yX0_beginSearch yX0_beginSearch, Cond.code yX0_beginSearch cX0_beginSearch 3 none, Cond.methodLink RX0 106 yX0_searchMinutes, Cond.instanceMethod yX0_searchMinutes, Cond.selects RX0 yX0_searchMinutes yX0_searchMinutes, Cond.code yX0_searchMinutes cX0_searchMinutes 2 (some .int), Cond.methodLink RX0 64 yX0_addedSnores, Cond.methodLink RX1 165 yX1_guardsWanted, Cond.instanceMethod yX1_guardsWanted, Cond.selects RX1 yX1_guardsWanted yX1_guardsWanted, Cond.code yX1_guardsWanted cX1_guardsWanted 3 (some .int), Cond.methodLink RX1 30 yX0_admitGuard, Cond.instanceMethod yX0_admitGuard, Cond.selects RX0 yX0_admitGuard yX0_admitGuard, Cond.code yX0_admitGuard cX0_admitGuard 1 none, Cond.methodLink RX1 168 yX1_mixTravellers, Cond.instanceMethod yX1_mixTravellers, Cond.selects RX1 yX1_mixTravellers yX1_mixTravellers, Cond.code yX1_mixTravellers cX1_mixTravellers 6 (some .long)]
def wsX1_digest_r8 : List Cond := [Cond.methodLink RX1 175 yX1_stateOf, Cond.instanceMethod yX1_stateOf, Cond.selects RX1 yX1_stateOf yX1_stateOf, Cond.code yX1_stateOf cX1_stateOf 2 (some .int), Cond.fieldLink RX1 91 "SleepBorder$Border" "state" "[I", Cond.methodLink RX1 49 yX1_requireTraveller, Cond.instanceMethod yX1_requireTraveller, Cond.selects RX1 yX1_requireTraveller yX1_requireTraveller, Cond.code yX1_requireTraveller cX1_requireTraveller 2 none, Cond.classLink RX1 208 "java/lang/IndexOutOfBoundsException", Cond.initialized "java/lang/IndexOutOfBoundsException", Cond.methodLink RX1 204 yX0_isTraveller, Cond.methodLink RX1 178 yX1_hiddenOf, Cond.instanceMethod yX1_hiddenOf, Cond.selects RX1 yX1_hiddenOf yX1_hiddenOf, Cond.code yX1_hiddenOf cX1_hiddenOf 2 (some .int), Cond.methodLink RX1 94 yX0_hiddenDreams, Cond.methodLink RX1 181 yX1_lullabyOf, Cond.instanceMethod yX1_lullabyOf, Cond.selects RX1 yX1_lullabyOf yX1_lullabyOf, Cond.code yX1_lullabyOf cX1_lullabyOf 2 (some .int), Cond.fieldLink RX1 59 "SleepBorder$Border" "lullaby" "[I", Cond.methodLink RX1 184 yX1_placeInLine, Cond.instanceMethod yX1_placeInLine]
def wsX1_digest_r9 : List Cond := [Cond.selects RX1 yX1_placeInLine yX1_placeInLine, Cond.code yX1_placeInLine cX1_placeInLine 2 (some .int), Cond.methodLink RX1 97 yX0_waitingAhead, Cond.instanceMethod yX0_waitingAhead, Cond.selects RX0 yX0_waitingAhead yX0_waitingAhead, Cond.code yX0_waitingAhead cX0_waitingAhead 4 (some .int), Cond.methodLink RX1 187 yX1_searchTime, Cond.instanceMethod yX1_searchTime, Cond.selects RX1 yX1_searchTime yX1_searchTime, Cond.code yX1_searchTime cX1_searchTime 2 (some .int), Cond.methodLink RX1 100 yX0_searchMinutes, Cond.methodLink RX1 120 yX1_foreseenSleep, Cond.instanceMethod yX1_foreseenSleep, Cond.selects RX1 yX1_foreseenSleep yX1_foreseenSleep, Cond.code yX1_foreseenSleep cX1_foreseenSleep 2 (some .int), Cond.fieldLink RX1 201 "SleepBorder$Border" "asleepSince" "[I", Cond.methodLink RX1 172 yX1_mixGuards, Cond.instanceMethod yX1_mixGuards, Cond.selects RX1 yX1_mixGuards yX1_mixGuards, Cond.code yX1_mixGuards cX1_mixGuards 6 (some .long), Cond.methodLink RX1 190 yX1_alertnessOf, Cond.instanceMethod yX1_alertnessOf, Cond.selects RX1 yX1_alertnessOf yX1_alertnessOf, Cond.code yX1_alertnessOf cX1_alertnessOf 2 (some .int)]
def wsX1_digest_r10 : List Cond := [Cond.methodLink RX1 62 yX1_requireGuard, Cond.instanceMethod yX1_requireGuard, Cond.selects RX1 yX1_requireGuard yX1_requireGuard, Cond.code yX1_requireGuard cX1_requireGuard 2 none, Cond.methodLink RX1 213 yX0_isGuard, Cond.instanceMethod yX0_isGuard, Cond.selects RX0 yX0_isGuard yX0_isGuard, Cond.code yX0_isGuard cX0_isGuard 2 (some .boolean), Cond.methodLink RX1 193 yX1_searches, Cond.instanceMethod yX1_searches, Cond.selects RX1 yX1_searches yX1_searches, Cond.code yX1_searches cX1_searches 2 (some .int), Cond.fieldLink RX1 103 "SleepBorder$Border" "searched" "[I", Cond.methodLink RX1 196 yX1_minutesToGo, Cond.instanceMethod yX1_minutesToGo, Cond.selects RX1 yX1_minutesToGo yX1_minutesToGo, Cond.code yX1_minutesToGo cX1_minutesToGo 2 (some .int), Cond.fieldLink RX1 106 "SleepBorder$Border" "searchLeft" "[I"]
def wsX1_digest : List Cond := .code yX1_digest cX1_digest 3 (some .long) :: ((wsX1_digest_r1 ++ (wsX1_digest_r2 ++ (wsX1_digest_r3 ++ (wsX1_digest_r4 ++ (wsX1_digest_r5 ++ (wsX1_digest_r6 ++ (wsX1_digest_r7 ++ (wsX1_digest_r8 ++ (wsX1_digest_r9 ++ wsX1_digest_r10))))))))) ++ wsX10 ++ wsX00 ++ (vx_atS RX1 222 "java/lang/IllegalArgumentException" ["java/lang/RuntimeException", "java/lang/Exception"]).filter goodWord ++ (vx_atS RX1 212 "java/lang/IndexOutOfBoundsException" ["java/lang/RuntimeException", "java/lang/Exception"]).filter goodWord)
def wsX2_init : List Cond := .code yX2_init cX2_init 1 none :: ([.methodLink RX2 1 objectInit, .instanceMethod objectInit, .code objectInit ⟨#[0xb1]⟩ 1 none, .arrayClass .int, .fieldLink RX2 9 "SleepBorderModel" "dreams" "[I", .fieldLink RX2 13 "SleepBorderModel" "snore" "[I", .fieldLink RX2 16 "SleepBorderModel" "now" "[I", .fieldLink RX2 19 "SleepBorderModel" "kept" "[I", .arrayClass .boolean, .fieldLink RX2 22 "SleepBorderModel" "free" "[Z"] ++ wsX20)
def wsX2_thrown : List Cond := .code yX2_thrown cX2_thrown 1 (some .int) :: ([.fieldLink RX2 26 "SleepBorderModel" "thrown" "I"] ++ wsX20)
def wsX2_fail : List Cond := .code yX2_fail cX2_fail 2 (some .int) :: ([.fieldLink RX2 26 "SleepBorderModel" "thrown" "I"] ++ wsX20)
def wsX2_told : List Cond := .code yX2_told cX2_told 2 (some .int) :: ([.fieldLink RX2 26 "SleepBorderModel" "thrown" "I"] ++ wsX20)
def wsX2_isIn : List Cond := .code yX2_isIn cX2_isIn 3 (some .boolean) :: ([])
def wsX2_isTraveller : List Cond := .code yX2_isTraveller cX2_isTraveller 2 (some .boolean) :: ([.fieldLink RX2 30 "SleepBorderModel" "travellers" "I", .methodLink RX2 33 yX2_isIn, .static yX2_isIn, .initialized RX2, .code yX2_isIn cX2_isIn 3 (some .boolean)] ++ wsX20)
def wsX2_isGuard : List Cond := .code yX2_isGuard cX2_isGuard 2 (some .boolean) :: ([.fieldLink RX2 16 "SleepBorderModel" "now" "[I", .methodLink RX2 33 yX2_isIn, .static yX2_isIn, .initialized RX2, .code yX2_isIn cX2_isIn 3 (some .boolean)] ++ wsX20)
def wsX2_tr : List Cond := .code yX2_tr cX2_tr 3 (some .int) :: ([.fieldLink RX2 16 "SleepBorderModel" "now" "[I"] ++ wsX20)
def wsX2_let : List Cond := .code yX2_let cX2_let 4 none :: ([.fieldLink RX2 16 "SleepBorderModel" "now" "[I"] ++ wsX20)
def wsX2_gu : List Cond := .code yX2_gu cX2_gu 3 (some .int) :: ([.fieldLink RX2 16 "SleepBorderModel" "now" "[I"] ++ wsX20)
def wsX2_post : List Cond := .code yX2_post cX2_post 4 none :: ([.fieldLink RX2 16 "SleepBorderModel" "now" "[I"] ++ wsX20)
def wsX2_keep : List Cond := .code yX2_keep cX2_keep 1 none :: ([.fieldLink RX2 16 "SleepBorderModel" "now" "[I", .fieldLink RX2 19 "SleepBorderModel" "kept" "[I", .methodLink RX2 37 arraycopyName, .native arraycopyName, .static arraycopyName, .initialized "java/lang/System"] ++ wsX20)
def wsX2_bringBack : List Cond := .code yX2_bringBack cX2_bringBack 1 none :: ([.fieldLink RX2 19 "SleepBorderModel" "kept" "[I", .fieldLink RX2 16 "SleepBorderModel" "now" "[I", .methodLink RX2 37 arraycopyName, .native arraycopyName, .static arraycopyName, .initialized "java/lang/System"] ++ wsX20)
def wsX2_count : List Cond := .code yX2_count cX2_count 4 (some .int) :: ([.fieldLink RX2 30 "SleepBorderModel" "travellers" "I", .methodLink RX2 43 yX2_tr, .instanceMethod yX2_tr, .selects RX2 yX2_tr yX2_tr, .initialized RX2, .code yX2_tr cX2_tr 3 (some .int), .fieldLink RX2 16 "SleepBorderModel" "now" "[I"] ++ wsX20)
def wsX2_loud : List Cond := .code yX2_loud cX2_loud 3 (some .int) :: ([.fieldLink RX2 30 "SleepBorderModel" "travellers" "I", .fieldLink RX2 13 "SleepBorderModel" "snore" "[I", .methodLink RX2 43 yX2_tr, .instanceMethod yX2_tr, .selects RX2 yX2_tr yX2_tr, .initialized RX2, .code yX2_tr cX2_tr 3 (some .int), .fieldLink RX2 16 "SleepBorderModel" "now" "[I"] ++ wsX20)
def wsX2_hidden : List Cond := .code yX2_hidden cX2_hidden 2 (some .int) :: ([.fieldLink RX2 9 "SleepBorderModel" "dreams" "[I", .methodLink RX2 47 Lib.Math.max.name, .static Lib.Math.max.name, .initialized "java/lang/Math", .code Lib.Math.max.name Lib.Math.max.code 2 (some .int), .methodLink RX2 43 yX2_tr, .instanceMethod yX2_tr, .selects RX2 yX2_tr yX2_tr, .initialized RX2, .code yX2_tr cX2_tr 3 (some .int), .fieldLink RX2 16 "SleepBorderModel" "now" "[I"] ++ wsX20)
def wsX2_finds : List Cond := .code yX2_finds cX2_finds 3 (some .boolean) :: ([.methodLink RX2 52 yX2_hidden, .instanceMethod yX2_hidden, .selects RX2 yX2_hidden yX2_hidden, .initialized RX2, .code yX2_hidden cX2_hidden 2 (some .int), .fieldLink RX2 9 "SleepBorderModel" "dreams" "[I", .methodLink RX2 47 Lib.Math.max.name, .static Lib.Math.max.name, .initialized "java/lang/Math", .code Lib.Math.max.name Lib.Math.max.code 2 (some .int), .methodLink RX2 43 yX2_tr, .instanceMethod yX2_tr, .selects RX2 yX2_tr yX2_tr, .code yX2_tr cX2_tr 3 (some .int), .fieldLink RX2 16 "SleepBorderModel" "now" "[I", .methodLink RX2 56 yX2_gu, .instanceMethod yX2_gu, .selects RX2 yX2_gu yX2_gu, .code yX2_gu cX2_gu 3 (some .int)] ++ wsX20)
def wsX2_takes : List Cond := .code yX2_takes cX2_takes 2 (some .int) :: ([.methodLink RX2 43 yX2_tr, .instanceMethod yX2_tr, .selects RX2 yX2_tr yX2_tr, .initialized RX2, .code yX2_tr cX2_tr 3 (some .int), .fieldLink RX2 16 "SleepBorderModel" "now" "[I", .methodLink RX2 59 yX2_loud, .instanceMethod yX2_loud, .selects RX2 yX2_loud yX2_loud, .code yX2_loud cX2_loud 3 (some .int), .fieldLink RX2 30 "SleepBorderModel" "travellers" "I", .fieldLink RX2 13 "SleepBorderModel" "snore" "[I"] ++ wsX20)
def wsX2_first : List Cond := .code yX2_first cX2_first 2 (some .int) :: ([.fieldLink RX2 30 "SleepBorderModel" "travellers" "I", .methodLink RX2 43 yX2_tr, .instanceMethod yX2_tr, .selects RX2 yX2_tr yX2_tr, .initialized RX2, .code yX2_tr cX2_tr 3 (some .int), .fieldLink RX2 16 "SleepBorderModel" "now" "[I"] ++ wsX20)
def wsX2_travel : List Cond := .code yX2_travel cX2_travel 2 none :: ([.methodLink RX2 43 yX2_tr, .instanceMethod yX2_tr, .selects RX2 yX2_tr yX2_tr, .initialized RX2, .code yX2_tr cX2_tr 3 (some .int), .fieldLink RX2 16 "SleepBorderModel" "now" "[I", .methodLink RX2 63 yX2_let, .instanceMethod yX2_let, .selects RX2 yX2_let yX2_let, .code yX2_let cX2_let 4 none] ++ wsX20)
def wsX2_listen : List Cond := .code yX2_listen cX2_listen 2 none :: ([.fieldLink RX2 16 "SleepBorderModel" "now" "[I", .methodLink RX2 43 yX2_tr, .instanceMethod yX2_tr, .selects RX2 yX2_tr yX2_tr, .initialized RX2, .code yX2_tr cX2_tr 3 (some .int), .methodLink RX2 63 yX2_let, .instanceMethod yX2_let, .selects RX2 yX2_let yX2_let, .code yX2_let cX2_let 4 none] ++ wsX20)
def wsX2_searchOn_r1 : List Cond := [Cond.fieldLink RX2 16 "SleepBorderModel" "now" "[I", Cond.methodLink RX2 47 Lib.Math.max.name, Cond.static Lib.Math.max.name, Cond.initialized "java/lang/Math", Cond.code Lib.Math.max.name Lib.Math.max.code 2 (some .int), Cond.methodLink RX2 56 yX2_gu, Cond.instanceMethod yX2_gu, Cond.selects RX2 yX2_gu yX2_gu, Cond.initialized RX2, Cond.code yX2_gu cX2_gu 3 (some .int), Cond.methodLink RX2 67 yX2_post, Cond.instanceMethod yX2_post, Cond.selects RX2 yX2_post yX2_post, Cond.code yX2_post cX2_post 4 none, Cond.methodLink RX2 70 yX2_finds, Cond.instanceMethod yX2_finds, Cond.selects RX2 yX2_finds yX2_finds, Cond.code yX2_finds cX2_finds 3 (some .boolean), Cond.methodLink RX2 52 yX2_hidden, Cond.instanceMethod yX2_hidden, Cond.selects RX2 yX2_hidden yX2_hidden, Cond.code yX2_hidden cX2_hidden 2 (some .int), Cond.fieldLink RX2 9 "SleepBorderModel" "dreams" "[I", Cond.methodLink RX2 43 yX2_tr]
def wsX2_searchOn_r2 : List Cond := [Cond.instanceMethod yX2_tr, Cond.selects RX2 yX2_tr yX2_tr, Cond.code yX2_tr cX2_tr 3 (some .int), Cond.methodLink RX2 63 yX2_let, Cond.instanceMethod yX2_let, Cond.selects RX2 yX2_let yX2_let, Cond.code yX2_let cX2_let 4 none]
def wsX2_searchOn : List Cond := .code yX2_searchOn cX2_searchOn 4 none :: ((wsX2_searchOn_r1 ++ wsX2_searchOn_r2) ++ wsX20)
def wsX2_begin_r1 : List Cond := [Cond.methodLink RX2 77 Lib.Math.min.name, Cond.static Lib.Math.min.name, Cond.initialized "java/lang/Math", Cond.code Lib.Math.min.name Lib.Math.min.code 2 (some .int), Cond.methodLink RX2 74 yX2_first, Cond.instanceMethod yX2_first, Cond.selects RX2 yX2_first yX2_first, Cond.initialized RX2, Cond.code yX2_first cX2_first 2 (some .int), Cond.fieldLink RX2 30 "SleepBorderModel" "travellers" "I", Cond.methodLink RX2 43 yX2_tr, Cond.instanceMethod yX2_tr, Cond.selects RX2 yX2_tr yX2_tr, Cond.code yX2_tr cX2_tr 3 (some .int), Cond.fieldLink RX2 16 "SleepBorderModel" "now" "[I", Cond.methodLink RX2 56 yX2_gu, Cond.instanceMethod yX2_gu, Cond.selects RX2 yX2_gu yX2_gu, Cond.code yX2_gu cX2_gu 3 (some .int), Cond.methodLink RX2 67 yX2_post, Cond.instanceMethod yX2_post, Cond.selects RX2 yX2_post yX2_post, Cond.code yX2_post cX2_post 4 none, Cond.methodLink RX2 80 yX2_takes]
def wsX2_begin_r2 : List Cond := [Cond.instanceMethod yX2_takes, Cond.selects RX2 yX2_takes yX2_takes, Cond.code yX2_takes cX2_takes 2 (some .int), Cond.methodLink RX2 59 yX2_loud, Cond.instanceMethod yX2_loud, Cond.selects RX2 yX2_loud yX2_loud, Cond.code yX2_loud cX2_loud 3 (some .int), Cond.fieldLink RX2 13 "SleepBorderModel" "snore" "[I", Cond.methodLink RX2 63 yX2_let, Cond.instanceMethod yX2_let, Cond.selects RX2 yX2_let yX2_let, Cond.code yX2_let cX2_let 4 none]
def wsX2_begin : List Cond := .code yX2_begin cX2_begin 3 none :: ((wsX2_begin_r1 ++ wsX2_begin_r2) ++ wsX20)
def wsX2_minuteOn_r1 : List Cond := [Cond.fieldLink RX2 16 "SleepBorderModel" "now" "[I", Cond.fieldLink RX2 22 "SleepBorderModel" "free" "[Z", Cond.fieldLink RX2 30 "SleepBorderModel" "travellers" "I", Cond.methodLink RX2 56 yX2_gu, Cond.instanceMethod yX2_gu, Cond.selects RX2 yX2_gu yX2_gu, Cond.initialized RX2, Cond.code yX2_gu cX2_gu 3 (some .int), Cond.methodLink RX2 83 yX2_travel, Cond.instanceMethod yX2_travel, Cond.selects RX2 yX2_travel yX2_travel, Cond.code yX2_travel cX2_travel 2 none, Cond.methodLink RX2 43 yX2_tr, Cond.instanceMethod yX2_tr, Cond.selects RX2 yX2_tr yX2_tr, Cond.code yX2_tr cX2_tr 3 (some .int), Cond.methodLink RX2 63 yX2_let, Cond.instanceMethod yX2_let, Cond.selects RX2 yX2_let yX2_let, Cond.code yX2_let cX2_let 4 none, Cond.methodLink RX2 87 yX2_listen, Cond.instanceMethod yX2_listen, Cond.selects RX2 yX2_listen yX2_listen, Cond.code yX2_listen cX2_listen 2 none]
def wsX2_minuteOn_r2 : List Cond := [Cond.methodLink RX2 90 yX2_begin, Cond.instanceMethod yX2_begin, Cond.selects RX2 yX2_begin yX2_begin, Cond.code yX2_begin cX2_begin 3 none, Cond.methodLink RX2 77 Lib.Math.min.name, Cond.static Lib.Math.min.name, Cond.initialized "java/lang/Math", Cond.code Lib.Math.min.name Lib.Math.min.code 2 (some .int), Cond.methodLink RX2 74 yX2_first, Cond.instanceMethod yX2_first, Cond.selects RX2 yX2_first yX2_first, Cond.code yX2_first cX2_first 2 (some .int), Cond.methodLink RX2 67 yX2_post, Cond.instanceMethod yX2_post, Cond.selects RX2 yX2_post yX2_post, Cond.code yX2_post cX2_post 4 none, Cond.methodLink RX2 80 yX2_takes, Cond.instanceMethod yX2_takes, Cond.selects RX2 yX2_takes yX2_takes, Cond.code yX2_takes cX2_takes 2 (some .int), Cond.methodLink RX2 59 yX2_loud, Cond.instanceMethod yX2_loud, Cond.selects RX2 yX2_loud yX2_loud, Cond.code yX2_loud cX2_loud 3 (some .int)]
def wsX2_minuteOn_r3 : List Cond := [Cond.fieldLink RX2 13 "SleepBorderModel" "snore" "[I", Cond.methodLink RX2 93 yX2_searchOn, Cond.instanceMethod yX2_searchOn, Cond.selects RX2 yX2_searchOn yX2_searchOn, Cond.code yX2_searchOn cX2_searchOn 4 none, Cond.methodLink RX2 47 Lib.Math.max.name, Cond.static Lib.Math.max.name, Cond.code Lib.Math.max.name Lib.Math.max.code 2 (some .int), Cond.methodLink RX2 70 yX2_finds, Cond.instanceMethod yX2_finds, Cond.selects RX2 yX2_finds yX2_finds, Cond.code yX2_finds cX2_finds 3 (some .boolean), Cond.methodLink RX2 52 yX2_hidden, Cond.instanceMethod yX2_hidden, Cond.selects RX2 yX2_hidden yX2_hidden, Cond.code yX2_hidden cX2_hidden 2 (some .int), Cond.fieldLink RX2 9 "SleepBorderModel" "dreams" "[I"]
def wsX2_minuteOn : List Cond := .code yX2_minuteOn cX2_minuteOn 2 none :: ((wsX2_minuteOn_r1 ++ (wsX2_minuteOn_r2 ++ wsX2_minuteOn_r3)) ++ wsX20)
def wsX2_minutesOn_r1 : List Cond := [Cond.methodLink RX2 96 yX2_minuteOn, Cond.instanceMethod yX2_minuteOn, Cond.selects RX2 yX2_minuteOn yX2_minuteOn, Cond.initialized RX2, Cond.code yX2_minuteOn cX2_minuteOn 2 none, Cond.fieldLink RX2 16 "SleepBorderModel" "now" "[I", Cond.fieldLink RX2 22 "SleepBorderModel" "free" "[Z", Cond.fieldLink RX2 30 "SleepBorderModel" "travellers" "I", Cond.methodLink RX2 56 yX2_gu, Cond.instanceMethod yX2_gu, Cond.selects RX2 yX2_gu yX2_gu, Cond.code yX2_gu cX2_gu 3 (some .int), Cond.methodLink RX2 83 yX2_travel, Cond.instanceMethod yX2_travel, Cond.selects RX2 yX2_travel yX2_travel, Cond.code yX2_travel cX2_travel 2 none, Cond.methodLink RX2 43 yX2_tr, Cond.instanceMethod yX2_tr, Cond.selects RX2 yX2_tr yX2_tr, Cond.code yX2_tr cX2_tr 3 (some .int), Cond.methodLink RX2 63 yX2_let, Cond.instanceMethod yX2_let, Cond.selects RX2 yX2_let yX2_let, Cond.code yX2_let cX2_let 4 none]
def wsX2_minutesOn_r2 : List Cond := [Cond.methodLink RX2 87 yX2_listen, Cond.instanceMethod yX2_listen, Cond.selects RX2 yX2_listen yX2_listen, Cond.code yX2_listen cX2_listen 2 none, Cond.methodLink RX2 90 yX2_begin, Cond.instanceMethod yX2_begin, Cond.selects RX2 yX2_begin yX2_begin, Cond.code yX2_begin cX2_begin 3 none, Cond.methodLink RX2 77 Lib.Math.min.name, Cond.static Lib.Math.min.name, Cond.initialized "java/lang/Math", Cond.code Lib.Math.min.name Lib.Math.min.code 2 (some .int), Cond.methodLink RX2 74 yX2_first, Cond.instanceMethod yX2_first, Cond.selects RX2 yX2_first yX2_first, Cond.code yX2_first cX2_first 2 (some .int), Cond.methodLink RX2 67 yX2_post, Cond.instanceMethod yX2_post, Cond.selects RX2 yX2_post yX2_post, Cond.code yX2_post cX2_post 4 none, Cond.methodLink RX2 80 yX2_takes, Cond.instanceMethod yX2_takes, Cond.selects RX2 yX2_takes yX2_takes, Cond.code yX2_takes cX2_takes 2 (some .int)]
def wsX2_minutesOn_r3 : List Cond := [Cond.methodLink RX2 59 yX2_loud, Cond.instanceMethod yX2_loud, Cond.selects RX2 yX2_loud yX2_loud, Cond.code yX2_loud cX2_loud 3 (some .int), Cond.fieldLink RX2 13 "SleepBorderModel" "snore" "[I", Cond.methodLink RX2 93 yX2_searchOn, Cond.instanceMethod yX2_searchOn, Cond.selects RX2 yX2_searchOn yX2_searchOn, Cond.code yX2_searchOn cX2_searchOn 4 none, Cond.methodLink RX2 47 Lib.Math.max.name, Cond.static Lib.Math.max.name, Cond.code Lib.Math.max.name Lib.Math.max.code 2 (some .int), Cond.methodLink RX2 70 yX2_finds, Cond.instanceMethod yX2_finds, Cond.selects RX2 yX2_finds yX2_finds, Cond.code yX2_finds cX2_finds 3 (some .boolean), Cond.methodLink RX2 52 yX2_hidden, Cond.instanceMethod yX2_hidden, Cond.selects RX2 yX2_hidden yX2_hidden, Cond.code yX2_hidden cX2_hidden 2 (some .int), Cond.fieldLink RX2 9 "SleepBorderModel" "dreams" "[I"]
def wsX2_minutesOn : List Cond := .code yX2_minutesOn cX2_minutesOn 3 none :: ((wsX2_minutesOn_r1 ++ (wsX2_minutesOn_r2 ++ wsX2_minutesOn_r3)) ++ wsX20)
def wsX2_hire : List Cond := .code yX2_hire cX2_hire 2 none :: ([.fieldLink RX2 16 "SleepBorderModel" "now" "[I", .methodLink RX2 67 yX2_post, .instanceMethod yX2_post, .selects RX2 yX2_post yX2_post, .initialized RX2, .code yX2_post cX2_post 4 none] ++ wsX20)
def wsX2_addGuard : List Cond := .code yX2_addGuard cX2_addGuard 1 (some .int) :: ([.fieldLink RX2 26 "SleepBorderModel" "thrown" "I", .fieldLink RX2 16 "SleepBorderModel" "now" "[I", .methodLink RX2 99 yX2_fail, .instanceMethod yX2_fail, .selects RX2 yX2_fail yX2_fail, .initialized RX2, .code yX2_fail cX2_fail 2 (some .int), .methodLink RX2 102 yX2_hire, .instanceMethod yX2_hire, .selects RX2 yX2_hire yX2_hire, .code yX2_hire cX2_hire 2 none, .methodLink RX2 67 yX2_post, .instanceMethod yX2_post, .selects RX2 yX2_post yX2_post, .code yX2_post cX2_post 4 none] ++ wsX20)
def wsX2_arrive : List Cond := .code yX2_arrive cX2_arrive 5 (some .int) :: ([.fieldLink RX2 26 "SleepBorderModel" "thrown" "I", .fieldLink RX2 30 "SleepBorderModel" "travellers" "I", .fieldLink RX2 9 "SleepBorderModel" "dreams" "[I", .fieldLink RX2 13 "SleepBorderModel" "snore" "[I", .methodLink RX2 33 yX2_isIn, .static yX2_isIn, .initialized RX2, .code yX2_isIn cX2_isIn 3 (some .boolean), .methodLink RX2 99 yX2_fail, .instanceMethod yX2_fail, .selects RX2 yX2_fail yX2_fail, .code yX2_fail cX2_fail 2 (some .int), .methodLink RX2 63 yX2_let, .instanceMethod yX2_let, .selects RX2 yX2_let yX2_let, .code yX2_let cX2_let 4 none, .fieldLink RX2 16 "SleepBorderModel" "now" "[I"] ++ wsX20)
def wsX2_write : List Cond := .code yX2_write cX2_write 7 (some .int) :: ([.fieldLink RX2 26 "SleepBorderModel" "thrown" "I", .methodLink RX2 105 yX2_isTraveller, .instanceMethod yX2_isTraveller, .selects RX2 yX2_isTraveller yX2_isTraveller, .initialized RX2, .code yX2_isTraveller cX2_isTraveller 2 (some .boolean), .fieldLink RX2 30 "SleepBorderModel" "travellers" "I", .methodLink RX2 33 yX2_isIn, .static yX2_isIn, .code yX2_isIn cX2_isIn 3 (some .boolean), .methodLink RX2 99 yX2_fail, .instanceMethod yX2_fail, .selects RX2 yX2_fail yX2_fail, .code yX2_fail cX2_fail 2 (some .int), .methodLink RX2 43 yX2_tr, .instanceMethod yX2_tr, .selects RX2 yX2_tr yX2_tr, .code yX2_tr cX2_tr 3 (some .int), .fieldLink RX2 16 "SleepBorderModel" "now" "[I", .methodLink RX2 63 yX2_let, .instanceMethod yX2_let, .selects RX2 yX2_let yX2_let, .code yX2_let cX2_let 4 none] ++ wsX20)
def wsX2_declare_r1 : List Cond := [Cond.methodLink RX2 109 yX2_write, Cond.instanceMethod yX2_write, Cond.selects RX2 yX2_write yX2_write, Cond.initialized RX2, Cond.code yX2_write cX2_write 7 (some .int), Cond.fieldLink RX2 26 "SleepBorderModel" "thrown" "I", Cond.methodLink RX2 105 yX2_isTraveller, Cond.instanceMethod yX2_isTraveller, Cond.selects RX2 yX2_isTraveller yX2_isTraveller, Cond.code yX2_isTraveller cX2_isTraveller 2 (some .boolean), Cond.fieldLink RX2 30 "SleepBorderModel" "travellers" "I", Cond.methodLink RX2 33 yX2_isIn, Cond.static yX2_isIn, Cond.code yX2_isIn cX2_isIn 3 (some .boolean), Cond.methodLink RX2 99 yX2_fail, Cond.instanceMethod yX2_fail, Cond.selects RX2 yX2_fail yX2_fail, Cond.code yX2_fail cX2_fail 2 (some .int), Cond.methodLink RX2 43 yX2_tr, Cond.instanceMethod yX2_tr, Cond.selects RX2 yX2_tr yX2_tr, Cond.code yX2_tr cX2_tr 3 (some .int), Cond.fieldLink RX2 16 "SleepBorderModel" "now" "[I", Cond.methodLink RX2 63 yX2_let]
def wsX2_declare_r2 : List Cond := [Cond.instanceMethod yX2_let, Cond.selects RX2 yX2_let yX2_let, Cond.code yX2_let cX2_let 4 none]
def wsX2_declare : List Cond := .code yX2_declare cX2_declare 3 (some .int) :: ((wsX2_declare_r1 ++ wsX2_declare_r2) ++ wsX20)
def wsX2_sing_r1 : List Cond := [Cond.methodLink RX2 109 yX2_write, Cond.instanceMethod yX2_write, Cond.selects RX2 yX2_write yX2_write, Cond.initialized RX2, Cond.code yX2_write cX2_write 7 (some .int), Cond.fieldLink RX2 26 "SleepBorderModel" "thrown" "I", Cond.methodLink RX2 105 yX2_isTraveller, Cond.instanceMethod yX2_isTraveller, Cond.selects RX2 yX2_isTraveller yX2_isTraveller, Cond.code yX2_isTraveller cX2_isTraveller 2 (some .boolean), Cond.fieldLink RX2 30 "SleepBorderModel" "travellers" "I", Cond.methodLink RX2 33 yX2_isIn, Cond.static yX2_isIn, Cond.code yX2_isIn cX2_isIn 3 (some .boolean), Cond.methodLink RX2 99 yX2_fail, Cond.instanceMethod yX2_fail, Cond.selects RX2 yX2_fail yX2_fail, Cond.code yX2_fail cX2_fail 2 (some .int), Cond.methodLink RX2 43 yX2_tr, Cond.instanceMethod yX2_tr, Cond.selects RX2 yX2_tr yX2_tr, Cond.code yX2_tr cX2_tr 3 (some .int), Cond.fieldLink RX2 16 "SleepBorderModel" "now" "[I", Cond.methodLink RX2 63 yX2_let]
def wsX2_sing_r2 : List Cond := [Cond.instanceMethod yX2_let, Cond.selects RX2 yX2_let yX2_let, Cond.code yX2_let cX2_let 4 none]
def wsX2_sing : List Cond := .code yX2_sing cX2_sing 3 (some .int) :: ((wsX2_sing_r1 ++ wsX2_sing_r2) ++ wsX20)
def wsX2_wake : List Cond := .code yX2_wake cX2_wake 3 (some .int) :: ([.fieldLink RX2 26 "SleepBorderModel" "thrown" "I", .methodLink RX2 113 yX2_isGuard, .instanceMethod yX2_isGuard, .selects RX2 yX2_isGuard yX2_isGuard, .initialized RX2, .code yX2_isGuard cX2_isGuard 2 (some .boolean), .fieldLink RX2 16 "SleepBorderModel" "now" "[I", .methodLink RX2 33 yX2_isIn, .static yX2_isIn, .code yX2_isIn cX2_isIn 3 (some .boolean), .methodLink RX2 99 yX2_fail, .instanceMethod yX2_fail, .selects RX2 yX2_fail yX2_fail, .code yX2_fail cX2_fail 2 (some .int), .methodLink RX2 56 yX2_gu, .instanceMethod yX2_gu, .selects RX2 yX2_gu yX2_gu, .code yX2_gu cX2_gu 3 (some .int), .methodLink RX2 67 yX2_post, .instanceMethod yX2_post, .selects RX2 yX2_post yX2_post, .code yX2_post cX2_post 4 none] ++ wsX20)
def wsX2_pass_r1 : List Cond := [Cond.fieldLink RX2 26 "SleepBorderModel" "thrown" "I", Cond.methodLink RX2 33 yX2_isIn, Cond.static yX2_isIn, Cond.initialized RX2, Cond.code yX2_isIn cX2_isIn 3 (some .boolean), Cond.methodLink RX2 99 yX2_fail, Cond.instanceMethod yX2_fail, Cond.selects RX2 yX2_fail yX2_fail, Cond.code yX2_fail cX2_fail 2 (some .int), Cond.methodLink RX2 116 yX2_count, Cond.instanceMethod yX2_count, Cond.selects RX2 yX2_count yX2_count, Cond.code yX2_count cX2_count 4 (some .int), Cond.fieldLink RX2 30 "SleepBorderModel" "travellers" "I", Cond.methodLink RX2 43 yX2_tr, Cond.instanceMethod yX2_tr, Cond.selects RX2 yX2_tr yX2_tr, Cond.code yX2_tr cX2_tr 3 (some .int), Cond.fieldLink RX2 16 "SleepBorderModel" "now" "[I", Cond.methodLink RX2 119 yX2_minutesOn, Cond.instanceMethod yX2_minutesOn, Cond.selects RX2 yX2_minutesOn yX2_minutesOn, Cond.code yX2_minutesOn cX2_minutesOn 3 none, Cond.methodLink RX2 96 yX2_minuteOn]
def wsX2_pass_r2 : List Cond := [Cond.instanceMethod yX2_minuteOn, Cond.selects RX2 yX2_minuteOn yX2_minuteOn, Cond.code yX2_minuteOn cX2_minuteOn 2 none, Cond.fieldLink RX2 22 "SleepBorderModel" "free" "[Z", Cond.methodLink RX2 56 yX2_gu, Cond.instanceMethod yX2_gu, Cond.selects RX2 yX2_gu yX2_gu, Cond.code yX2_gu cX2_gu 3 (some .int), Cond.methodLink RX2 83 yX2_travel, Cond.instanceMethod yX2_travel, Cond.selects RX2 yX2_travel yX2_travel, Cond.code yX2_travel cX2_travel 2 none, Cond.methodLink RX2 63 yX2_let, Cond.instanceMethod yX2_let, Cond.selects RX2 yX2_let yX2_let, Cond.code yX2_let cX2_let 4 none, Cond.methodLink RX2 87 yX2_listen, Cond.instanceMethod yX2_listen, Cond.selects RX2 yX2_listen yX2_listen, Cond.code yX2_listen cX2_listen 2 none, Cond.methodLink RX2 90 yX2_begin, Cond.instanceMethod yX2_begin, Cond.selects RX2 yX2_begin yX2_begin, Cond.code yX2_begin cX2_begin 3 none]
def wsX2_pass_r3 : List Cond := [Cond.methodLink RX2 77 Lib.Math.min.name, Cond.static Lib.Math.min.name, Cond.initialized "java/lang/Math", Cond.code Lib.Math.min.name Lib.Math.min.code 2 (some .int), Cond.methodLink RX2 74 yX2_first, Cond.instanceMethod yX2_first, Cond.selects RX2 yX2_first yX2_first, Cond.code yX2_first cX2_first 2 (some .int), Cond.methodLink RX2 67 yX2_post, Cond.instanceMethod yX2_post, Cond.selects RX2 yX2_post yX2_post, Cond.code yX2_post cX2_post 4 none, Cond.methodLink RX2 80 yX2_takes, Cond.instanceMethod yX2_takes, Cond.selects RX2 yX2_takes yX2_takes, Cond.code yX2_takes cX2_takes 2 (some .int), Cond.methodLink RX2 59 yX2_loud, Cond.instanceMethod yX2_loud, Cond.selects RX2 yX2_loud yX2_loud, Cond.code yX2_loud cX2_loud 3 (some .int), Cond.fieldLink RX2 13 "SleepBorderModel" "snore" "[I", Cond.methodLink RX2 93 yX2_searchOn, Cond.instanceMethod yX2_searchOn, Cond.selects RX2 yX2_searchOn yX2_searchOn]
def wsX2_pass_r4 : List Cond := [Cond.code yX2_searchOn cX2_searchOn 4 none, Cond.methodLink RX2 47 Lib.Math.max.name, Cond.static Lib.Math.max.name, Cond.code Lib.Math.max.name Lib.Math.max.code 2 (some .int), Cond.methodLink RX2 70 yX2_finds, Cond.instanceMethod yX2_finds, Cond.selects RX2 yX2_finds yX2_finds, Cond.code yX2_finds cX2_finds 3 (some .boolean), Cond.methodLink RX2 52 yX2_hidden, Cond.instanceMethod yX2_hidden, Cond.selects RX2 yX2_hidden yX2_hidden, Cond.code yX2_hidden cX2_hidden 2 (some .int), Cond.fieldLink RX2 9 "SleepBorderModel" "dreams" "[I"]
def wsX2_pass : List Cond := .code yX2_pass cX2_pass 3 (some .int) :: ((wsX2_pass_r1 ++ (wsX2_pass_r2 ++ (wsX2_pass_r3 ++ wsX2_pass_r4))) ++ wsX20)
def wsX2_minute : List Cond := .code yX2_minute cX2_minute 1 (some .int) :: ([.fieldLink RX2 16 "SleepBorderModel" "now" "[I", .methodLink RX2 122 yX2_told, .instanceMethod yX2_told, .selects RX2 yX2_told yX2_told, .initialized RX2, .code yX2_told cX2_told 2 (some .int), .fieldLink RX2 26 "SleepBorderModel" "thrown" "I"] ++ wsX20)
def wsX2_travellers : List Cond := .code yX2_travellers cX2_travellers 1 (some .int) :: ([.fieldLink RX2 30 "SleepBorderModel" "travellers" "I", .methodLink RX2 122 yX2_told, .instanceMethod yX2_told, .selects RX2 yX2_told yX2_told, .initialized RX2, .code yX2_told cX2_told 2 (some .int), .fieldLink RX2 26 "SleepBorderModel" "thrown" "I"] ++ wsX20)
def wsX2_waiting : List Cond := .code yX2_waiting cX2_waiting 1 (some .int) :: ([.methodLink RX2 116 yX2_count, .instanceMethod yX2_count, .selects RX2 yX2_count yX2_count, .initialized RX2, .code yX2_count cX2_count 4 (some .int), .fieldLink RX2 30 "SleepBorderModel" "travellers" "I", .methodLink RX2 43 yX2_tr, .instanceMethod yX2_tr, .selects RX2 yX2_tr yX2_tr, .code yX2_tr cX2_tr 3 (some .int), .fieldLink RX2 16 "SleepBorderModel" "now" "[I", .methodLink RX2 122 yX2_told, .instanceMethod yX2_told, .selects RX2 yX2_told yX2_told, .code yX2_told cX2_told 2 (some .int), .fieldLink RX2 26 "SleepBorderModel" "thrown" "I"] ++ wsX20)
def wsX2_asleep : List Cond := .code yX2_asleep cX2_asleep 1 (some .int) :: ([.methodLink RX2 116 yX2_count, .instanceMethod yX2_count, .selects RX2 yX2_count yX2_count, .initialized RX2, .code yX2_count cX2_count 4 (some .int), .fieldLink RX2 30 "SleepBorderModel" "travellers" "I", .methodLink RX2 43 yX2_tr, .instanceMethod yX2_tr, .selects RX2 yX2_tr yX2_tr, .code yX2_tr cX2_tr 3 (some .int), .fieldLink RX2 16 "SleepBorderModel" "now" "[I", .methodLink RX2 122 yX2_told, .instanceMethod yX2_told, .selects RX2 yX2_told yX2_told, .code yX2_told cX2_told 2 (some .int), .fieldLink RX2 26 "SleepBorderModel" "thrown" "I"] ++ wsX20)
def wsX2_sentBack : List Cond := .code yX2_sentBack cX2_sentBack 1 (some .int) :: ([.methodLink RX2 116 yX2_count, .instanceMethod yX2_count, .selects RX2 yX2_count yX2_count, .initialized RX2, .code yX2_count cX2_count 4 (some .int), .fieldLink RX2 30 "SleepBorderModel" "travellers" "I", .methodLink RX2 43 yX2_tr, .instanceMethod yX2_tr, .selects RX2 yX2_tr yX2_tr, .code yX2_tr cX2_tr 3 (some .int), .fieldLink RX2 16 "SleepBorderModel" "now" "[I", .methodLink RX2 122 yX2_told, .instanceMethod yX2_told, .selects RX2 yX2_told yX2_told, .code yX2_told cX2_told 2 (some .int), .fieldLink RX2 26 "SleepBorderModel" "thrown" "I"] ++ wsX20)
def wsX2_expired : List Cond := .code yX2_expired cX2_expired 1 (some .int) :: ([.fieldLink RX2 16 "SleepBorderModel" "now" "[I", .methodLink RX2 122 yX2_told, .instanceMethod yX2_told, .selects RX2 yX2_told yX2_told, .initialized RX2, .code yX2_told cX2_told 2 (some .int), .fieldLink RX2 26 "SleepBorderModel" "thrown" "I"] ++ wsX20)
def wsX2_paid : List Cond := .code yX2_paid cX2_paid 1 (some .int) :: ([.fieldLink RX2 16 "SleepBorderModel" "now" "[I", .methodLink RX2 122 yX2_told, .instanceMethod yX2_told, .selects RX2 yX2_told yX2_told, .initialized RX2, .code yX2_told cX2_told 2 (some .int), .fieldLink RX2 26 "SleepBorderModel" "thrown" "I"] ++ wsX20)
def wsX2_noise : List Cond := .code yX2_noise cX2_noise 1 (some .int) :: ([.methodLink RX2 59 yX2_loud, .instanceMethod yX2_loud, .selects RX2 yX2_loud yX2_loud, .initialized RX2, .code yX2_loud cX2_loud 3 (some .int), .fieldLink RX2 30 "SleepBorderModel" "travellers" "I", .fieldLink RX2 13 "SleepBorderModel" "snore" "[I", .methodLink RX2 43 yX2_tr, .instanceMethod yX2_tr, .selects RX2 yX2_tr yX2_tr, .code yX2_tr cX2_tr 3 (some .int), .fieldLink RX2 16 "SleepBorderModel" "now" "[I", .methodLink RX2 122 yX2_told, .instanceMethod yX2_told, .selects RX2 yX2_told yX2_told, .code yX2_told cX2_told 2 (some .int), .fieldLink RX2 26 "SleepBorderModel" "thrown" "I"] ++ wsX20)
def wsX2_nextInLine : List Cond := .code yX2_nextInLine cX2_nextInLine 1 (some .int) :: ([.methodLink RX2 74 yX2_first, .instanceMethod yX2_first, .selects RX2 yX2_first yX2_first, .initialized RX2, .code yX2_first cX2_first 2 (some .int), .fieldLink RX2 30 "SleepBorderModel" "travellers" "I", .methodLink RX2 43 yX2_tr, .instanceMethod yX2_tr, .selects RX2 yX2_tr yX2_tr, .code yX2_tr cX2_tr 3 (some .int), .fieldLink RX2 16 "SleepBorderModel" "now" "[I", .methodLink RX2 122 yX2_told, .instanceMethod yX2_told, .selects RX2 yX2_told yX2_told, .code yX2_told cX2_told 2 (some .int), .fieldLink RX2 26 "SleepBorderModel" "thrown" "I"] ++ wsX20)
def wsX2_stateOf : List Cond := .code yX2_stateOf cX2_stateOf 2 (some .int) :: ([.fieldLink RX2 26 "SleepBorderModel" "thrown" "I", .methodLink RX2 105 yX2_isTraveller, .instanceMethod yX2_isTraveller, .selects RX2 yX2_isTraveller yX2_isTraveller, .initialized RX2, .code yX2_isTraveller cX2_isTraveller 2 (some .boolean), .fieldLink RX2 30 "SleepBorderModel" "travellers" "I", .methodLink RX2 33 yX2_isIn, .static yX2_isIn, .code yX2_isIn cX2_isIn 3 (some .boolean), .methodLink RX2 43 yX2_tr, .instanceMethod yX2_tr, .selects RX2 yX2_tr yX2_tr, .code yX2_tr cX2_tr 3 (some .int), .fieldLink RX2 16 "SleepBorderModel" "now" "[I", .methodLink RX2 99 yX2_fail, .instanceMethod yX2_fail, .selects RX2 yX2_fail yX2_fail, .code yX2_fail cX2_fail 2 (some .int)] ++ wsX20)
def wsX2_hiddenOf_r1 : List Cond := [Cond.fieldLink RX2 26 "SleepBorderModel" "thrown" "I", Cond.methodLink RX2 105 yX2_isTraveller, Cond.instanceMethod yX2_isTraveller, Cond.selects RX2 yX2_isTraveller yX2_isTraveller, Cond.initialized RX2, Cond.code yX2_isTraveller cX2_isTraveller 2 (some .boolean), Cond.fieldLink RX2 30 "SleepBorderModel" "travellers" "I", Cond.methodLink RX2 33 yX2_isIn, Cond.static yX2_isIn, Cond.code yX2_isIn cX2_isIn 3 (some .boolean), Cond.methodLink RX2 52 yX2_hidden, Cond.instanceMethod yX2_hidden, Cond.selects RX2 yX2_hidden yX2_hidden, Cond.code yX2_hidden cX2_hidden 2 (some .int), Cond.fieldLink RX2 9 "SleepBorderModel" "dreams" "[I", Cond.methodLink RX2 47 Lib.Math.max.name, Cond.static Lib.Math.max.name, Cond.initialized "java/lang/Math", Cond.code Lib.Math.max.name Lib.Math.max.code 2 (some .int), Cond.methodLink RX2 43 yX2_tr, Cond.instanceMethod yX2_tr, Cond.selects RX2 yX2_tr yX2_tr, Cond.code yX2_tr cX2_tr 3 (some .int), Cond.fieldLink RX2 16 "SleepBorderModel" "now" "[I"]
def wsX2_hiddenOf_r2 : List Cond := [Cond.methodLink RX2 99 yX2_fail, Cond.instanceMethod yX2_fail, Cond.selects RX2 yX2_fail yX2_fail, Cond.code yX2_fail cX2_fail 2 (some .int)]
def wsX2_hiddenOf : List Cond := .code yX2_hiddenOf cX2_hiddenOf 2 (some .int) :: ((wsX2_hiddenOf_r1 ++ wsX2_hiddenOf_r2) ++ wsX20)
def wsX2_lullabyOf : List Cond := .code yX2_lullabyOf cX2_lullabyOf 2 (some .int) :: ([.fieldLink RX2 26 "SleepBorderModel" "thrown" "I", .methodLink RX2 105 yX2_isTraveller, .instanceMethod yX2_isTraveller, .selects RX2 yX2_isTraveller yX2_isTraveller, .initialized RX2, .code yX2_isTraveller cX2_isTraveller 2 (some .boolean), .fieldLink RX2 30 "SleepBorderModel" "travellers" "I", .methodLink RX2 33 yX2_isIn, .static yX2_isIn, .code yX2_isIn cX2_isIn 3 (some .boolean), .methodLink RX2 43 yX2_tr, .instanceMethod yX2_tr, .selects RX2 yX2_tr yX2_tr, .code yX2_tr cX2_tr 3 (some .int), .fieldLink RX2 16 "SleepBorderModel" "now" "[I", .methodLink RX2 99 yX2_fail, .instanceMethod yX2_fail, .selects RX2 yX2_fail yX2_fail, .code yX2_fail cX2_fail 2 (some .int)] ++ wsX20)
def wsX2_place : List Cond := .code yX2_place cX2_place 4 (some .int) :: ([.methodLink RX2 43 yX2_tr, .instanceMethod yX2_tr, .selects RX2 yX2_tr yX2_tr, .initialized RX2, .code yX2_tr cX2_tr 3 (some .int), .fieldLink RX2 16 "SleepBorderModel" "now" "[I"] ++ wsX20)
def wsX2_placeInLine : List Cond := .code yX2_placeInLine cX2_placeInLine 2 (some .int) :: ([.fieldLink RX2 26 "SleepBorderModel" "thrown" "I", .methodLink RX2 105 yX2_isTraveller, .instanceMethod yX2_isTraveller, .selects RX2 yX2_isTraveller yX2_isTraveller, .initialized RX2, .code yX2_isTraveller cX2_isTraveller 2 (some .boolean), .fieldLink RX2 30 "SleepBorderModel" "travellers" "I", .methodLink RX2 33 yX2_isIn, .static yX2_isIn, .code yX2_isIn cX2_isIn 3 (some .boolean), .methodLink RX2 125 yX2_place, .instanceMethod yX2_place, .selects RX2 yX2_place yX2_place, .code yX2_place cX2_place 4 (some .int), .methodLink RX2 43 yX2_tr, .instanceMethod yX2_tr, .selects RX2 yX2_tr yX2_tr, .code yX2_tr cX2_tr 3 (some .int), .fieldLink RX2 16 "SleepBorderModel" "now" "[I", .methodLink RX2 99 yX2_fail, .instanceMethod yX2_fail, .selects RX2 yX2_fail yX2_fail, .code yX2_fail cX2_fail 2 (some .int)] ++ wsX20)
def wsX2_searchTime_r1 : List Cond := [Cond.fieldLink RX2 26 "SleepBorderModel" "thrown" "I", Cond.methodLink RX2 105 yX2_isTraveller, Cond.instanceMethod yX2_isTraveller, Cond.selects RX2 yX2_isTraveller yX2_isTraveller, Cond.initialized RX2, Cond.code yX2_isTraveller cX2_isTraveller 2 (some .boolean), Cond.fieldLink RX2 30 "SleepBorderModel" "travellers" "I", Cond.methodLink RX2 33 yX2_isIn, Cond.static yX2_isIn, Cond.code yX2_isIn cX2_isIn 3 (some .boolean), Cond.methodLink RX2 80 yX2_takes, Cond.instanceMethod yX2_takes, Cond.selects RX2 yX2_takes yX2_takes, Cond.code yX2_takes cX2_takes 2 (some .int), Cond.methodLink RX2 43 yX2_tr, Cond.instanceMethod yX2_tr, Cond.selects RX2 yX2_tr yX2_tr, Cond.code yX2_tr cX2_tr 3 (some .int), Cond.fieldLink RX2 16 "SleepBorderModel" "now" "[I", Cond.methodLink RX2 59 yX2_loud, Cond.instanceMethod yX2_loud, Cond.selects RX2 yX2_loud yX2_loud, Cond.code yX2_loud cX2_loud 3 (some .int), Cond.fieldLink RX2 13 "SleepBorderModel" "snore" "[I"]
def wsX2_searchTime_r2 : List Cond := [Cond.methodLink RX2 99 yX2_fail, Cond.instanceMethod yX2_fail, Cond.selects RX2 yX2_fail yX2_fail, Cond.code yX2_fail cX2_fail 2 (some .int)]
def wsX2_searchTime : List Cond := .code yX2_searchTime cX2_searchTime 2 (some .int) :: ((wsX2_searchTime_r1 ++ wsX2_searchTime_r2) ++ wsX20)
def wsX2_guards : List Cond := .code yX2_guards cX2_guards 1 (some .int) :: ([.fieldLink RX2 16 "SleepBorderModel" "now" "[I", .methodLink RX2 122 yX2_told, .instanceMethod yX2_told, .selects RX2 yX2_told yX2_told, .initialized RX2, .code yX2_told cX2_told 2 (some .int), .fieldLink RX2 26 "SleepBorderModel" "thrown" "I"] ++ wsX20)
def wsX2_guard : List Cond := .code yX2_guard cX2_guard 3 (some .int) :: ([.fieldLink RX2 26 "SleepBorderModel" "thrown" "I", .methodLink RX2 113 yX2_isGuard, .instanceMethod yX2_isGuard, .selects RX2 yX2_isGuard yX2_isGuard, .initialized RX2, .code yX2_isGuard cX2_isGuard 2 (some .boolean), .fieldLink RX2 16 "SleepBorderModel" "now" "[I", .methodLink RX2 33 yX2_isIn, .static yX2_isIn, .code yX2_isIn cX2_isIn 3 (some .boolean), .methodLink RX2 56 yX2_gu, .instanceMethod yX2_gu, .selects RX2 yX2_gu yX2_gu, .code yX2_gu cX2_gu 3 (some .int), .methodLink RX2 99 yX2_fail, .instanceMethod yX2_fail, .selects RX2 yX2_fail yX2_fail, .code yX2_fail cX2_fail 2 (some .int)] ++ wsX20)
def wsX2_alertnessOf : List Cond := .code yX2_alertnessOf cX2_alertnessOf 2 (some .int) :: ([.methodLink RX2 128 yX2_guard, .instanceMethod yX2_guard, .selects RX2 yX2_guard yX2_guard, .initialized RX2, .code yX2_guard cX2_guard 3 (some .int), .fieldLink RX2 26 "SleepBorderModel" "thrown" "I", .methodLink RX2 113 yX2_isGuard, .instanceMethod yX2_isGuard, .selects RX2 yX2_isGuard yX2_isGuard, .code yX2_isGuard cX2_isGuard 2 (some .boolean), .fieldLink RX2 16 "SleepBorderModel" "now" "[I", .methodLink RX2 33 yX2_isIn, .static yX2_isIn, .code yX2_isIn cX2_isIn 3 (some .boolean), .methodLink RX2 56 yX2_gu, .instanceMethod yX2_gu, .selects RX2 yX2_gu yX2_gu, .code yX2_gu cX2_gu 3 (some .int), .methodLink RX2 99 yX2_fail, .instanceMethod yX2_fail, .selects RX2 yX2_fail yX2_fail, .code yX2_fail cX2_fail 2 (some .int)] ++ wsX20)
def wsX2_searches : List Cond := .code yX2_searches cX2_searches 2 (some .int) :: ([.methodLink RX2 128 yX2_guard, .instanceMethod yX2_guard, .selects RX2 yX2_guard yX2_guard, .initialized RX2, .code yX2_guard cX2_guard 3 (some .int), .fieldLink RX2 26 "SleepBorderModel" "thrown" "I", .methodLink RX2 113 yX2_isGuard, .instanceMethod yX2_isGuard, .selects RX2 yX2_isGuard yX2_isGuard, .code yX2_isGuard cX2_isGuard 2 (some .boolean), .fieldLink RX2 16 "SleepBorderModel" "now" "[I", .methodLink RX2 33 yX2_isIn, .static yX2_isIn, .code yX2_isIn cX2_isIn 3 (some .boolean), .methodLink RX2 56 yX2_gu, .instanceMethod yX2_gu, .selects RX2 yX2_gu yX2_gu, .code yX2_gu cX2_gu 3 (some .int), .methodLink RX2 99 yX2_fail, .instanceMethod yX2_fail, .selects RX2 yX2_fail yX2_fail, .code yX2_fail cX2_fail 2 (some .int)] ++ wsX20)
def wsX2_minutesToGo : List Cond := .code yX2_minutesToGo cX2_minutesToGo 2 (some .int) :: ([.methodLink RX2 128 yX2_guard, .instanceMethod yX2_guard, .selects RX2 yX2_guard yX2_guard, .initialized RX2, .code yX2_guard cX2_guard 3 (some .int), .fieldLink RX2 26 "SleepBorderModel" "thrown" "I", .methodLink RX2 113 yX2_isGuard, .instanceMethod yX2_isGuard, .selects RX2 yX2_isGuard yX2_isGuard, .code yX2_isGuard cX2_isGuard 2 (some .boolean), .fieldLink RX2 16 "SleepBorderModel" "now" "[I", .methodLink RX2 33 yX2_isIn, .static yX2_isIn, .code yX2_isIn cX2_isIn 3 (some .boolean), .methodLink RX2 56 yX2_gu, .instanceMethod yX2_gu, .selects RX2 yX2_gu yX2_gu, .code yX2_gu cX2_gu 3 (some .int), .methodLink RX2 99 yX2_fail, .instanceMethod yX2_fail, .selects RX2 yX2_fail yX2_fail, .code yX2_fail cX2_fail 2 (some .int)] ++ wsX20)
def wsX2_wouldFind_r1 : List Cond := [Cond.fieldLink RX2 26 "SleepBorderModel" "thrown" "I", Cond.methodLink RX2 113 yX2_isGuard, Cond.instanceMethod yX2_isGuard, Cond.selects RX2 yX2_isGuard yX2_isGuard, Cond.initialized RX2, Cond.code yX2_isGuard cX2_isGuard 2 (some .boolean), Cond.fieldLink RX2 16 "SleepBorderModel" "now" "[I", Cond.methodLink RX2 33 yX2_isIn, Cond.static yX2_isIn, Cond.code yX2_isIn cX2_isIn 3 (some .boolean), Cond.methodLink RX2 105 yX2_isTraveller, Cond.instanceMethod yX2_isTraveller, Cond.selects RX2 yX2_isTraveller yX2_isTraveller, Cond.code yX2_isTraveller cX2_isTraveller 2 (some .boolean), Cond.fieldLink RX2 30 "SleepBorderModel" "travellers" "I", Cond.methodLink RX2 70 yX2_finds, Cond.instanceMethod yX2_finds, Cond.selects RX2 yX2_finds yX2_finds, Cond.code yX2_finds cX2_finds 3 (some .boolean), Cond.methodLink RX2 52 yX2_hidden, Cond.instanceMethod yX2_hidden, Cond.selects RX2 yX2_hidden yX2_hidden, Cond.code yX2_hidden cX2_hidden 2 (some .int), Cond.fieldLink RX2 9 "SleepBorderModel" "dreams" "[I"]
def wsX2_wouldFind_r2 : List Cond := [Cond.methodLink RX2 47 Lib.Math.max.name, Cond.static Lib.Math.max.name, Cond.initialized "java/lang/Math", Cond.code Lib.Math.max.name Lib.Math.max.code 2 (some .int), Cond.methodLink RX2 43 yX2_tr, Cond.instanceMethod yX2_tr, Cond.selects RX2 yX2_tr yX2_tr, Cond.code yX2_tr cX2_tr 3 (some .int), Cond.methodLink RX2 56 yX2_gu, Cond.instanceMethod yX2_gu, Cond.selects RX2 yX2_gu yX2_gu, Cond.code yX2_gu cX2_gu 3 (some .int)]
def wsX2_wouldFind : List Cond := .code yX2_wouldFind cX2_wouldFind 3 (some .boolean) :: ((wsX2_wouldFind_r1 ++ wsX2_wouldFind_r2) ++ wsX20)
def wsX2_alertest : List Cond := .code yX2_alertest cX2_alertest 3 (some .int) :: ([.fieldLink RX2 16 "SleepBorderModel" "now" "[I", .methodLink RX2 56 yX2_gu, .instanceMethod yX2_gu, .selects RX2 yX2_gu yX2_gu, .initialized RX2, .code yX2_gu cX2_gu 3 (some .int)] ++ wsX20)
def wsX2_mostAlert : List Cond := .code yX2_mostAlert cX2_mostAlert 1 (some .int) :: ([.methodLink RX2 131 yX2_alertest, .instanceMethod yX2_alertest, .selects RX2 yX2_alertest yX2_alertest, .initialized RX2, .code yX2_alertest cX2_alertest 3 (some .int), .fieldLink RX2 16 "SleepBorderModel" "now" "[I", .methodLink RX2 56 yX2_gu, .instanceMethod yX2_gu, .selects RX2 yX2_gu yX2_gu, .code yX2_gu cX2_gu 3 (some .int), .methodLink RX2 122 yX2_told, .instanceMethod yX2_told, .selects RX2 yX2_told yX2_told, .code yX2_told cX2_told 2 (some .int), .fieldLink RX2 26 "SleepBorderModel" "thrown" "I"] ++ wsX20)
def wsX2_run_r1 : List Cond := [Cond.methodLink RX2 43 yX2_tr, Cond.instanceMethod yX2_tr, Cond.selects RX2 yX2_tr yX2_tr, Cond.initialized RX2, Cond.code yX2_tr cX2_tr 3 (some .int), Cond.fieldLink RX2 16 "SleepBorderModel" "now" "[I", Cond.methodLink RX2 96 yX2_minuteOn, Cond.instanceMethod yX2_minuteOn, Cond.selects RX2 yX2_minuteOn yX2_minuteOn, Cond.code yX2_minuteOn cX2_minuteOn 2 none, Cond.fieldLink RX2 22 "SleepBorderModel" "free" "[Z", Cond.fieldLink RX2 30 "SleepBorderModel" "travellers" "I", Cond.methodLink RX2 56 yX2_gu, Cond.instanceMethod yX2_gu, Cond.selects RX2 yX2_gu yX2_gu, Cond.code yX2_gu cX2_gu 3 (some .int), Cond.methodLink RX2 83 yX2_travel, Cond.instanceMethod yX2_travel, Cond.selects RX2 yX2_travel yX2_travel, Cond.code yX2_travel cX2_travel 2 none, Cond.methodLink RX2 63 yX2_let, Cond.instanceMethod yX2_let, Cond.selects RX2 yX2_let yX2_let, Cond.code yX2_let cX2_let 4 none]
def wsX2_run_r2 : List Cond := [Cond.methodLink RX2 87 yX2_listen, Cond.instanceMethod yX2_listen, Cond.selects RX2 yX2_listen yX2_listen, Cond.code yX2_listen cX2_listen 2 none, Cond.methodLink RX2 90 yX2_begin, Cond.instanceMethod yX2_begin, Cond.selects RX2 yX2_begin yX2_begin, Cond.code yX2_begin cX2_begin 3 none, Cond.methodLink RX2 77 Lib.Math.min.name, Cond.static Lib.Math.min.name, Cond.initialized "java/lang/Math", Cond.code Lib.Math.min.name Lib.Math.min.code 2 (some .int), Cond.methodLink RX2 74 yX2_first, Cond.instanceMethod yX2_first, Cond.selects RX2 yX2_first yX2_first, Cond.code yX2_first cX2_first 2 (some .int), Cond.methodLink RX2 67 yX2_post, Cond.instanceMethod yX2_post, Cond.selects RX2 yX2_post yX2_post, Cond.code yX2_post cX2_post 4 none, Cond.methodLink RX2 80 yX2_takes, Cond.instanceMethod yX2_takes, Cond.selects RX2 yX2_takes yX2_takes, Cond.code yX2_takes cX2_takes 2 (some .int)]
def wsX2_run_r3 : List Cond := [Cond.methodLink RX2 59 yX2_loud, Cond.instanceMethod yX2_loud, Cond.selects RX2 yX2_loud yX2_loud, Cond.code yX2_loud cX2_loud 3 (some .int), Cond.fieldLink RX2 13 "SleepBorderModel" "snore" "[I", Cond.methodLink RX2 93 yX2_searchOn, Cond.instanceMethod yX2_searchOn, Cond.selects RX2 yX2_searchOn yX2_searchOn, Cond.code yX2_searchOn cX2_searchOn 4 none, Cond.methodLink RX2 47 Lib.Math.max.name, Cond.static Lib.Math.max.name, Cond.code Lib.Math.max.name Lib.Math.max.code 2 (some .int), Cond.methodLink RX2 70 yX2_finds, Cond.instanceMethod yX2_finds, Cond.selects RX2 yX2_finds yX2_finds, Cond.code yX2_finds cX2_finds 3 (some .boolean), Cond.methodLink RX2 52 yX2_hidden, Cond.instanceMethod yX2_hidden, Cond.selects RX2 yX2_hidden yX2_hidden, Cond.code yX2_hidden cX2_hidden 2 (some .int), Cond.fieldLink RX2 9 "SleepBorderModel" "dreams" "[I"]
def wsX2_run : List Cond := .code yX2_run cX2_run 3 (some .int) :: ((wsX2_run_r1 ++ (wsX2_run_r2 ++ wsX2_run_r3)) ++ wsX20)
def wsX2_until_r1 : List Cond := [Cond.methodLink RX2 134 yX2_keep, Cond.instanceMethod yX2_keep, Cond.selects RX2 yX2_keep yX2_keep, Cond.initialized RX2, Cond.code yX2_keep cX2_keep 1 none, Cond.fieldLink RX2 16 "SleepBorderModel" "now" "[I", Cond.fieldLink RX2 19 "SleepBorderModel" "kept" "[I", Cond.methodLink RX2 37 arraycopyName, Cond.native arraycopyName, Cond.static arraycopyName, Cond.initialized "java/lang/System", Cond.methodLink RX2 137 yX2_run, Cond.instanceMethod yX2_run, Cond.selects RX2 yX2_run yX2_run, Cond.code yX2_run cX2_run 3 (some .int), Cond.methodLink RX2 43 yX2_tr, Cond.instanceMethod yX2_tr, Cond.selects RX2 yX2_tr yX2_tr, Cond.code yX2_tr cX2_tr 3 (some .int), Cond.methodLink RX2 96 yX2_minuteOn, Cond.instanceMethod yX2_minuteOn, Cond.selects RX2 yX2_minuteOn yX2_minuteOn, Cond.code yX2_minuteOn cX2_minuteOn 2 none, Cond.fieldLink RX2 22 "SleepBorderModel" "free" "[Z"]
def wsX2_until_r2 : List Cond := [Cond.fieldLink RX2 30 "SleepBorderModel" "travellers" "I", Cond.methodLink RX2 56 yX2_gu, Cond.instanceMethod yX2_gu, Cond.selects RX2 yX2_gu yX2_gu, Cond.code yX2_gu cX2_gu 3 (some .int), Cond.methodLink RX2 83 yX2_travel, Cond.instanceMethod yX2_travel, Cond.selects RX2 yX2_travel yX2_travel, Cond.code yX2_travel cX2_travel 2 none, Cond.methodLink RX2 63 yX2_let, Cond.instanceMethod yX2_let, Cond.selects RX2 yX2_let yX2_let, Cond.code yX2_let cX2_let 4 none, Cond.methodLink RX2 87 yX2_listen, Cond.instanceMethod yX2_listen, Cond.selects RX2 yX2_listen yX2_listen, Cond.code yX2_listen cX2_listen 2 none, Cond.methodLink RX2 90 yX2_begin, Cond.instanceMethod yX2_begin, Cond.selects RX2 yX2_begin yX2_begin, Cond.code yX2_begin cX2_begin 3 none, Cond.methodLink RX2 77 Lib.Math.min.name, Cond.static Lib.Math.min.name, Cond.initialized "java/lang/Math"]
def wsX2_until_r3 : List Cond := [Cond.code Lib.Math.min.name Lib.Math.min.code 2 (some .int), Cond.methodLink RX2 74 yX2_first, Cond.instanceMethod yX2_first, Cond.selects RX2 yX2_first yX2_first, Cond.code yX2_first cX2_first 2 (some .int), Cond.methodLink RX2 67 yX2_post, Cond.instanceMethod yX2_post, Cond.selects RX2 yX2_post yX2_post, Cond.code yX2_post cX2_post 4 none, Cond.methodLink RX2 80 yX2_takes, Cond.instanceMethod yX2_takes, Cond.selects RX2 yX2_takes yX2_takes, Cond.code yX2_takes cX2_takes 2 (some .int), Cond.methodLink RX2 59 yX2_loud, Cond.instanceMethod yX2_loud, Cond.selects RX2 yX2_loud yX2_loud, Cond.code yX2_loud cX2_loud 3 (some .int), Cond.fieldLink RX2 13 "SleepBorderModel" "snore" "[I", Cond.methodLink RX2 93 yX2_searchOn, Cond.instanceMethod yX2_searchOn, Cond.selects RX2 yX2_searchOn yX2_searchOn, Cond.code yX2_searchOn cX2_searchOn 4 none, Cond.methodLink RX2 47 Lib.Math.max.name, Cond.static Lib.Math.max.name]
def wsX2_until_r4 : List Cond := [Cond.code Lib.Math.max.name Lib.Math.max.code 2 (some .int), Cond.methodLink RX2 70 yX2_finds, Cond.instanceMethod yX2_finds, Cond.selects RX2 yX2_finds yX2_finds, Cond.code yX2_finds cX2_finds 3 (some .boolean), Cond.methodLink RX2 52 yX2_hidden, Cond.instanceMethod yX2_hidden, Cond.selects RX2 yX2_hidden yX2_hidden, Cond.code yX2_hidden cX2_hidden 2 (some .int), Cond.fieldLink RX2 9 "SleepBorderModel" "dreams" "[I", Cond.methodLink RX2 140 yX2_bringBack, Cond.instanceMethod yX2_bringBack, Cond.selects RX2 yX2_bringBack yX2_bringBack, Cond.code yX2_bringBack cX2_bringBack 1 none]
def wsX2_until : List Cond := .code yX2_until cX2_until 3 (some .int) :: ((wsX2_until_r1 ++ (wsX2_until_r2 ++ (wsX2_until_r3 ++ wsX2_until_r4))) ++ wsX20)
def wsX2_minutesUntilAsleep_r1 : List Cond := [Cond.fieldLink RX2 26 "SleepBorderModel" "thrown" "I", Cond.methodLink RX2 105 yX2_isTraveller, Cond.instanceMethod yX2_isTraveller, Cond.selects RX2 yX2_isTraveller yX2_isTraveller, Cond.initialized RX2, Cond.code yX2_isTraveller cX2_isTraveller 2 (some .boolean), Cond.fieldLink RX2 30 "SleepBorderModel" "travellers" "I", Cond.methodLink RX2 33 yX2_isIn, Cond.static yX2_isIn, Cond.code yX2_isIn cX2_isIn 3 (some .boolean), Cond.methodLink RX2 143 yX2_until, Cond.instanceMethod yX2_until, Cond.selects RX2 yX2_until yX2_until, Cond.code yX2_until cX2_until 3 (some .int), Cond.methodLink RX2 134 yX2_keep, Cond.instanceMethod yX2_keep, Cond.selects RX2 yX2_keep yX2_keep, Cond.code yX2_keep cX2_keep 1 none, Cond.fieldLink RX2 16 "SleepBorderModel" "now" "[I", Cond.fieldLink RX2 19 "SleepBorderModel" "kept" "[I", Cond.methodLink RX2 37 arraycopyName, Cond.native arraycopyName, Cond.static arraycopyName, Cond.initialized "java/lang/System"]
def wsX2_minutesUntilAsleep_r2 : List Cond := [Cond.methodLink RX2 137 yX2_run, Cond.instanceMethod yX2_run, Cond.selects RX2 yX2_run yX2_run, Cond.code yX2_run cX2_run 3 (some .int), Cond.methodLink RX2 43 yX2_tr, Cond.instanceMethod yX2_tr, Cond.selects RX2 yX2_tr yX2_tr, Cond.code yX2_tr cX2_tr 3 (some .int), Cond.methodLink RX2 96 yX2_minuteOn, Cond.instanceMethod yX2_minuteOn, Cond.selects RX2 yX2_minuteOn yX2_minuteOn, Cond.code yX2_minuteOn cX2_minuteOn 2 none, Cond.fieldLink RX2 22 "SleepBorderModel" "free" "[Z", Cond.methodLink RX2 56 yX2_gu, Cond.instanceMethod yX2_gu, Cond.selects RX2 yX2_gu yX2_gu, Cond.code yX2_gu cX2_gu 3 (some .int), Cond.methodLink RX2 83 yX2_travel, Cond.instanceMethod yX2_travel, Cond.selects RX2 yX2_travel yX2_travel, Cond.code yX2_travel cX2_travel 2 none, Cond.methodLink RX2 63 yX2_let, Cond.instanceMethod yX2_let, Cond.selects RX2 yX2_let yX2_let]
def wsX2_minutesUntilAsleep_r3 : List Cond := [Cond.code yX2_let cX2_let 4 none, Cond.methodLink RX2 87 yX2_listen, Cond.instanceMethod yX2_listen, Cond.selects RX2 yX2_listen yX2_listen, Cond.code yX2_listen cX2_listen 2 none, Cond.methodLink RX2 90 yX2_begin, Cond.instanceMethod yX2_begin, Cond.selects RX2 yX2_begin yX2_begin, Cond.code yX2_begin cX2_begin 3 none, Cond.methodLink RX2 77 Lib.Math.min.name, Cond.static Lib.Math.min.name, Cond.initialized "java/lang/Math", Cond.code Lib.Math.min.name Lib.Math.min.code 2 (some .int), Cond.methodLink RX2 74 yX2_first, Cond.instanceMethod yX2_first, Cond.selects RX2 yX2_first yX2_first, Cond.code yX2_first cX2_first 2 (some .int), Cond.methodLink RX2 67 yX2_post, Cond.instanceMethod yX2_post, Cond.selects RX2 yX2_post yX2_post, Cond.code yX2_post cX2_post 4 none, Cond.methodLink RX2 80 yX2_takes, Cond.instanceMethod yX2_takes, Cond.selects RX2 yX2_takes yX2_takes]
def wsX2_minutesUntilAsleep_r4 : List Cond := [Cond.code yX2_takes cX2_takes 2 (some .int), Cond.methodLink RX2 59 yX2_loud, Cond.instanceMethod yX2_loud, Cond.selects RX2 yX2_loud yX2_loud, Cond.code yX2_loud cX2_loud 3 (some .int), Cond.fieldLink RX2 13 "SleepBorderModel" "snore" "[I", Cond.methodLink RX2 93 yX2_searchOn, Cond.instanceMethod yX2_searchOn, Cond.selects RX2 yX2_searchOn yX2_searchOn, Cond.code yX2_searchOn cX2_searchOn 4 none, Cond.methodLink RX2 47 Lib.Math.max.name, Cond.static Lib.Math.max.name, Cond.code Lib.Math.max.name Lib.Math.max.code 2 (some .int), Cond.methodLink RX2 70 yX2_finds, Cond.instanceMethod yX2_finds, Cond.selects RX2 yX2_finds yX2_finds, Cond.code yX2_finds cX2_finds 3 (some .boolean), Cond.methodLink RX2 52 yX2_hidden, Cond.instanceMethod yX2_hidden, Cond.selects RX2 yX2_hidden yX2_hidden, Cond.code yX2_hidden cX2_hidden 2 (some .int), Cond.fieldLink RX2 9 "SleepBorderModel" "dreams" "[I", Cond.methodLink RX2 140 yX2_bringBack, Cond.instanceMethod yX2_bringBack]
def wsX2_minutesUntilAsleep_r5 : List Cond := [Cond.selects RX2 yX2_bringBack yX2_bringBack, Cond.code yX2_bringBack cX2_bringBack 1 none, Cond.methodLink RX2 99 yX2_fail, Cond.instanceMethod yX2_fail, Cond.selects RX2 yX2_fail yX2_fail, Cond.code yX2_fail cX2_fail 2 (some .int)]
def wsX2_minutesUntilAsleep : List Cond := .code yX2_minutesUntilAsleep cX2_minutesUntilAsleep 2 (some .int) :: ((wsX2_minutesUntilAsleep_r1 ++ (wsX2_minutesUntilAsleep_r2 ++ (wsX2_minutesUntilAsleep_r3 ++ (wsX2_minutesUntilAsleep_r4 ++ wsX2_minutesUntilAsleep_r5)))) ++ wsX20)
def wsX2_sleepers_r1 : List Cond := [Cond.methodLink RX2 134 yX2_keep, Cond.instanceMethod yX2_keep, Cond.selects RX2 yX2_keep yX2_keep, Cond.initialized RX2, Cond.code yX2_keep cX2_keep 1 none, Cond.fieldLink RX2 16 "SleepBorderModel" "now" "[I", Cond.fieldLink RX2 19 "SleepBorderModel" "kept" "[I", Cond.methodLink RX2 37 arraycopyName, Cond.native arraycopyName, Cond.static arraycopyName, Cond.initialized "java/lang/System", Cond.methodLink RX2 119 yX2_minutesOn, Cond.instanceMethod yX2_minutesOn, Cond.selects RX2 yX2_minutesOn yX2_minutesOn, Cond.code yX2_minutesOn cX2_minutesOn 3 none, Cond.methodLink RX2 96 yX2_minuteOn, Cond.instanceMethod yX2_minuteOn, Cond.selects RX2 yX2_minuteOn yX2_minuteOn, Cond.code yX2_minuteOn cX2_minuteOn 2 none, Cond.fieldLink RX2 22 "SleepBorderModel" "free" "[Z", Cond.fieldLink RX2 30 "SleepBorderModel" "travellers" "I", Cond.methodLink RX2 56 yX2_gu, Cond.instanceMethod yX2_gu, Cond.selects RX2 yX2_gu yX2_gu]
def wsX2_sleepers_r2 : List Cond := [Cond.code yX2_gu cX2_gu 3 (some .int), Cond.methodLink RX2 83 yX2_travel, Cond.instanceMethod yX2_travel, Cond.selects RX2 yX2_travel yX2_travel, Cond.code yX2_travel cX2_travel 2 none, Cond.methodLink RX2 43 yX2_tr, Cond.instanceMethod yX2_tr, Cond.selects RX2 yX2_tr yX2_tr, Cond.code yX2_tr cX2_tr 3 (some .int), Cond.methodLink RX2 63 yX2_let, Cond.instanceMethod yX2_let, Cond.selects RX2 yX2_let yX2_let, Cond.code yX2_let cX2_let 4 none, Cond.methodLink RX2 87 yX2_listen, Cond.instanceMethod yX2_listen, Cond.selects RX2 yX2_listen yX2_listen, Cond.code yX2_listen cX2_listen 2 none, Cond.methodLink RX2 90 yX2_begin, Cond.instanceMethod yX2_begin, Cond.selects RX2 yX2_begin yX2_begin, Cond.code yX2_begin cX2_begin 3 none, Cond.methodLink RX2 77 Lib.Math.min.name, Cond.static Lib.Math.min.name, Cond.initialized "java/lang/Math"]
def wsX2_sleepers_r3 : List Cond := [Cond.code Lib.Math.min.name Lib.Math.min.code 2 (some .int), Cond.methodLink RX2 74 yX2_first, Cond.instanceMethod yX2_first, Cond.selects RX2 yX2_first yX2_first, Cond.code yX2_first cX2_first 2 (some .int), Cond.methodLink RX2 67 yX2_post, Cond.instanceMethod yX2_post, Cond.selects RX2 yX2_post yX2_post, Cond.code yX2_post cX2_post 4 none, Cond.methodLink RX2 80 yX2_takes, Cond.instanceMethod yX2_takes, Cond.selects RX2 yX2_takes yX2_takes, Cond.code yX2_takes cX2_takes 2 (some .int), Cond.methodLink RX2 59 yX2_loud, Cond.instanceMethod yX2_loud, Cond.selects RX2 yX2_loud yX2_loud, Cond.code yX2_loud cX2_loud 3 (some .int), Cond.fieldLink RX2 13 "SleepBorderModel" "snore" "[I", Cond.methodLink RX2 93 yX2_searchOn, Cond.instanceMethod yX2_searchOn, Cond.selects RX2 yX2_searchOn yX2_searchOn, Cond.code yX2_searchOn cX2_searchOn 4 none, Cond.methodLink RX2 47 Lib.Math.max.name, Cond.static Lib.Math.max.name]
def wsX2_sleepers_r4 : List Cond := [Cond.code Lib.Math.max.name Lib.Math.max.code 2 (some .int), Cond.methodLink RX2 70 yX2_finds, Cond.instanceMethod yX2_finds, Cond.selects RX2 yX2_finds yX2_finds, Cond.code yX2_finds cX2_finds 3 (some .boolean), Cond.methodLink RX2 52 yX2_hidden, Cond.instanceMethod yX2_hidden, Cond.selects RX2 yX2_hidden yX2_hidden, Cond.code yX2_hidden cX2_hidden 2 (some .int), Cond.fieldLink RX2 9 "SleepBorderModel" "dreams" "[I", Cond.methodLink RX2 116 yX2_count, Cond.instanceMethod yX2_count, Cond.selects RX2 yX2_count yX2_count, Cond.code yX2_count cX2_count 4 (some .int), Cond.methodLink RX2 140 yX2_bringBack, Cond.instanceMethod yX2_bringBack, Cond.selects RX2 yX2_bringBack yX2_bringBack, Cond.code yX2_bringBack cX2_bringBack 1 none]
def wsX2_sleepers : List Cond := .code yX2_sleepers cX2_sleepers 3 (some .int) :: ((wsX2_sleepers_r1 ++ (wsX2_sleepers_r2 ++ (wsX2_sleepers_r3 ++ wsX2_sleepers_r4))) ++ wsX20)
def wsX2_asleepIn_r1 : List Cond := [Cond.fieldLink RX2 26 "SleepBorderModel" "thrown" "I", Cond.methodLink RX2 33 yX2_isIn, Cond.static yX2_isIn, Cond.initialized RX2, Cond.code yX2_isIn cX2_isIn 3 (some .boolean), Cond.methodLink RX2 146 yX2_sleepers, Cond.instanceMethod yX2_sleepers, Cond.selects RX2 yX2_sleepers yX2_sleepers, Cond.code yX2_sleepers cX2_sleepers 3 (some .int), Cond.methodLink RX2 134 yX2_keep, Cond.instanceMethod yX2_keep, Cond.selects RX2 yX2_keep yX2_keep, Cond.code yX2_keep cX2_keep 1 none, Cond.fieldLink RX2 16 "SleepBorderModel" "now" "[I", Cond.fieldLink RX2 19 "SleepBorderModel" "kept" "[I", Cond.methodLink RX2 37 arraycopyName, Cond.native arraycopyName, Cond.static arraycopyName, Cond.initialized "java/lang/System", Cond.methodLink RX2 119 yX2_minutesOn, Cond.instanceMethod yX2_minutesOn, Cond.selects RX2 yX2_minutesOn yX2_minutesOn, Cond.code yX2_minutesOn cX2_minutesOn 3 none, Cond.methodLink RX2 96 yX2_minuteOn]
def wsX2_asleepIn_r2 : List Cond := [Cond.instanceMethod yX2_minuteOn, Cond.selects RX2 yX2_minuteOn yX2_minuteOn, Cond.code yX2_minuteOn cX2_minuteOn 2 none, Cond.fieldLink RX2 22 "SleepBorderModel" "free" "[Z", Cond.fieldLink RX2 30 "SleepBorderModel" "travellers" "I", Cond.methodLink RX2 56 yX2_gu, Cond.instanceMethod yX2_gu, Cond.selects RX2 yX2_gu yX2_gu, Cond.code yX2_gu cX2_gu 3 (some .int), Cond.methodLink RX2 83 yX2_travel, Cond.instanceMethod yX2_travel, Cond.selects RX2 yX2_travel yX2_travel, Cond.code yX2_travel cX2_travel 2 none, Cond.methodLink RX2 43 yX2_tr, Cond.instanceMethod yX2_tr, Cond.selects RX2 yX2_tr yX2_tr, Cond.code yX2_tr cX2_tr 3 (some .int), Cond.methodLink RX2 63 yX2_let, Cond.instanceMethod yX2_let, Cond.selects RX2 yX2_let yX2_let, Cond.code yX2_let cX2_let 4 none, Cond.methodLink RX2 87 yX2_listen, Cond.instanceMethod yX2_listen, Cond.selects RX2 yX2_listen yX2_listen]
def wsX2_asleepIn_r3 : List Cond := [Cond.code yX2_listen cX2_listen 2 none, Cond.methodLink RX2 90 yX2_begin, Cond.instanceMethod yX2_begin, Cond.selects RX2 yX2_begin yX2_begin, Cond.code yX2_begin cX2_begin 3 none, Cond.methodLink RX2 77 Lib.Math.min.name, Cond.static Lib.Math.min.name, Cond.initialized "java/lang/Math", Cond.code Lib.Math.min.name Lib.Math.min.code 2 (some .int), Cond.methodLink RX2 74 yX2_first, Cond.instanceMethod yX2_first, Cond.selects RX2 yX2_first yX2_first, Cond.code yX2_first cX2_first 2 (some .int), Cond.methodLink RX2 67 yX2_post, Cond.instanceMethod yX2_post, Cond.selects RX2 yX2_post yX2_post, Cond.code yX2_post cX2_post 4 none, Cond.methodLink RX2 80 yX2_takes, Cond.instanceMethod yX2_takes, Cond.selects RX2 yX2_takes yX2_takes, Cond.code yX2_takes cX2_takes 2 (some .int), Cond.methodLink RX2 59 yX2_loud, Cond.instanceMethod yX2_loud, Cond.selects RX2 yX2_loud yX2_loud]
def wsX2_asleepIn_r4 : List Cond := [Cond.code yX2_loud cX2_loud 3 (some .int), Cond.fieldLink RX2 13 "SleepBorderModel" "snore" "[I", Cond.methodLink RX2 93 yX2_searchOn, Cond.instanceMethod yX2_searchOn, Cond.selects RX2 yX2_searchOn yX2_searchOn, Cond.code yX2_searchOn cX2_searchOn 4 none, Cond.methodLink RX2 47 Lib.Math.max.name, Cond.static Lib.Math.max.name, Cond.code Lib.Math.max.name Lib.Math.max.code 2 (some .int), Cond.methodLink RX2 70 yX2_finds, Cond.instanceMethod yX2_finds, Cond.selects RX2 yX2_finds yX2_finds, Cond.code yX2_finds cX2_finds 3 (some .boolean), Cond.methodLink RX2 52 yX2_hidden, Cond.instanceMethod yX2_hidden, Cond.selects RX2 yX2_hidden yX2_hidden, Cond.code yX2_hidden cX2_hidden 2 (some .int), Cond.fieldLink RX2 9 "SleepBorderModel" "dreams" "[I", Cond.methodLink RX2 116 yX2_count, Cond.instanceMethod yX2_count, Cond.selects RX2 yX2_count yX2_count, Cond.code yX2_count cX2_count 4 (some .int), Cond.methodLink RX2 140 yX2_bringBack, Cond.instanceMethod yX2_bringBack]
def wsX2_asleepIn_r5 : List Cond := [Cond.selects RX2 yX2_bringBack yX2_bringBack, Cond.code yX2_bringBack cX2_bringBack 1 none, Cond.methodLink RX2 99 yX2_fail, Cond.instanceMethod yX2_fail, Cond.selects RX2 yX2_fail yX2_fail, Cond.code yX2_fail cX2_fail 2 (some .int)]
def wsX2_asleepIn : List Cond := .code yX2_asleepIn cX2_asleepIn 2 (some .int) :: ((wsX2_asleepIn_r1 ++ (wsX2_asleepIn_r2 ++ (wsX2_asleepIn_r3 ++ (wsX2_asleepIn_r4 ++ wsX2_asleepIn_r5)))) ++ wsX20)
def wsX2_bestToDeclare_r1 : List Cond := [Cond.fieldLink RX2 26 "SleepBorderModel" "thrown" "I", Cond.methodLink RX2 105 yX2_isTraveller, Cond.instanceMethod yX2_isTraveller, Cond.selects RX2 yX2_isTraveller yX2_isTraveller, Cond.initialized RX2, Cond.code yX2_isTraveller cX2_isTraveller 2 (some .boolean), Cond.fieldLink RX2 30 "SleepBorderModel" "travellers" "I", Cond.methodLink RX2 33 yX2_isIn, Cond.static yX2_isIn, Cond.code yX2_isIn cX2_isIn 3 (some .boolean), Cond.methodLink RX2 99 yX2_fail, Cond.instanceMethod yX2_fail, Cond.selects RX2 yX2_fail yX2_fail, Cond.code yX2_fail cX2_fail 2 (some .int), Cond.methodLink RX2 43 yX2_tr, Cond.instanceMethod yX2_tr, Cond.selects RX2 yX2_tr yX2_tr, Cond.code yX2_tr cX2_tr 3 (some .int), Cond.fieldLink RX2 16 "SleepBorderModel" "now" "[I", Cond.methodLink RX2 134 yX2_keep, Cond.instanceMethod yX2_keep, Cond.selects RX2 yX2_keep yX2_keep, Cond.code yX2_keep cX2_keep 1 none, Cond.fieldLink RX2 19 "SleepBorderModel" "kept" "[I"]
def wsX2_bestToDeclare_r2 : List Cond := [Cond.methodLink RX2 37 arraycopyName, Cond.native arraycopyName, Cond.static arraycopyName, Cond.initialized "java/lang/System", Cond.methodLink RX2 63 yX2_let, Cond.instanceMethod yX2_let, Cond.selects RX2 yX2_let yX2_let, Cond.code yX2_let cX2_let 4 none, Cond.methodLink RX2 137 yX2_run, Cond.instanceMethod yX2_run, Cond.selects RX2 yX2_run yX2_run, Cond.code yX2_run cX2_run 3 (some .int), Cond.methodLink RX2 96 yX2_minuteOn, Cond.instanceMethod yX2_minuteOn, Cond.selects RX2 yX2_minuteOn yX2_minuteOn, Cond.code yX2_minuteOn cX2_minuteOn 2 none, Cond.fieldLink RX2 22 "SleepBorderModel" "free" "[Z", Cond.methodLink RX2 56 yX2_gu, Cond.instanceMethod yX2_gu, Cond.selects RX2 yX2_gu yX2_gu, Cond.code yX2_gu cX2_gu 3 (some .int), Cond.methodLink RX2 83 yX2_travel, Cond.instanceMethod yX2_travel, Cond.selects RX2 yX2_travel yX2_travel]
def wsX2_bestToDeclare_r3 : List Cond := [Cond.code yX2_travel cX2_travel 2 none, Cond.methodLink RX2 87 yX2_listen, Cond.instanceMethod yX2_listen, Cond.selects RX2 yX2_listen yX2_listen, Cond.code yX2_listen cX2_listen 2 none, Cond.methodLink RX2 90 yX2_begin, Cond.instanceMethod yX2_begin, Cond.selects RX2 yX2_begin yX2_begin, Cond.code yX2_begin cX2_begin 3 none, Cond.methodLink RX2 77 Lib.Math.min.name, Cond.static Lib.Math.min.name, Cond.initialized "java/lang/Math", Cond.code Lib.Math.min.name Lib.Math.min.code 2 (some .int), Cond.methodLink RX2 74 yX2_first, Cond.instanceMethod yX2_first, Cond.selects RX2 yX2_first yX2_first, Cond.code yX2_first cX2_first 2 (some .int), Cond.methodLink RX2 67 yX2_post, Cond.instanceMethod yX2_post, Cond.selects RX2 yX2_post yX2_post, Cond.code yX2_post cX2_post 4 none, Cond.methodLink RX2 80 yX2_takes, Cond.instanceMethod yX2_takes, Cond.selects RX2 yX2_takes yX2_takes]
def wsX2_bestToDeclare_r4 : List Cond := [Cond.code yX2_takes cX2_takes 2 (some .int), Cond.methodLink RX2 59 yX2_loud, Cond.instanceMethod yX2_loud, Cond.selects RX2 yX2_loud yX2_loud, Cond.code yX2_loud cX2_loud 3 (some .int), Cond.fieldLink RX2 13 "SleepBorderModel" "snore" "[I", Cond.methodLink RX2 93 yX2_searchOn, Cond.instanceMethod yX2_searchOn, Cond.selects RX2 yX2_searchOn yX2_searchOn, Cond.code yX2_searchOn cX2_searchOn 4 none, Cond.methodLink RX2 47 Lib.Math.max.name, Cond.static Lib.Math.max.name, Cond.code Lib.Math.max.name Lib.Math.max.code 2 (some .int), Cond.methodLink RX2 70 yX2_finds, Cond.instanceMethod yX2_finds, Cond.selects RX2 yX2_finds yX2_finds, Cond.code yX2_finds cX2_finds 3 (some .boolean), Cond.methodLink RX2 52 yX2_hidden, Cond.instanceMethod yX2_hidden, Cond.selects RX2 yX2_hidden yX2_hidden, Cond.code yX2_hidden cX2_hidden 2 (some .int), Cond.fieldLink RX2 9 "SleepBorderModel" "dreams" "[I", Cond.methodLink RX2 140 yX2_bringBack, Cond.instanceMethod yX2_bringBack]
def wsX2_bestToDeclare_r5 : List Cond := [Cond.selects RX2 yX2_bringBack yX2_bringBack, Cond.code yX2_bringBack cX2_bringBack 1 none]
def wsX2_bestToDeclare : List Cond := .code yX2_bestToDeclare cX2_bestToDeclare 6 (some .int) :: ((wsX2_bestToDeclare_r1 ++ (wsX2_bestToDeclare_r2 ++ (wsX2_bestToDeclare_r3 ++ (wsX2_bestToDeclare_r4 ++ wsX2_bestToDeclare_r5)))) ++ wsX20)
def wsX2_wanted_r1 : List Cond := [Cond.fieldLink RX2 16 "SleepBorderModel" "now" "[I", Cond.methodLink RX2 134 yX2_keep, Cond.instanceMethod yX2_keep, Cond.selects RX2 yX2_keep yX2_keep, Cond.initialized RX2, Cond.code yX2_keep cX2_keep 1 none, Cond.fieldLink RX2 19 "SleepBorderModel" "kept" "[I", Cond.methodLink RX2 37 arraycopyName, Cond.native arraycopyName, Cond.static arraycopyName, Cond.initialized "java/lang/System", Cond.methodLink RX2 102 yX2_hire, Cond.instanceMethod yX2_hire, Cond.selects RX2 yX2_hire yX2_hire, Cond.code yX2_hire cX2_hire 2 none, Cond.methodLink RX2 67 yX2_post, Cond.instanceMethod yX2_post, Cond.selects RX2 yX2_post yX2_post, Cond.code yX2_post cX2_post 4 none, Cond.methodLink RX2 119 yX2_minutesOn, Cond.instanceMethod yX2_minutesOn, Cond.selects RX2 yX2_minutesOn yX2_minutesOn, Cond.code yX2_minutesOn cX2_minutesOn 3 none, Cond.methodLink RX2 96 yX2_minuteOn]
def wsX2_wanted_r2 : List Cond := [Cond.instanceMethod yX2_minuteOn, Cond.selects RX2 yX2_minuteOn yX2_minuteOn, Cond.code yX2_minuteOn cX2_minuteOn 2 none, Cond.fieldLink RX2 22 "SleepBorderModel" "free" "[Z", Cond.fieldLink RX2 30 "SleepBorderModel" "travellers" "I", Cond.methodLink RX2 56 yX2_gu, Cond.instanceMethod yX2_gu, Cond.selects RX2 yX2_gu yX2_gu, Cond.code yX2_gu cX2_gu 3 (some .int), Cond.methodLink RX2 83 yX2_travel, Cond.instanceMethod yX2_travel, Cond.selects RX2 yX2_travel yX2_travel, Cond.code yX2_travel cX2_travel 2 none, Cond.methodLink RX2 43 yX2_tr, Cond.instanceMethod yX2_tr, Cond.selects RX2 yX2_tr yX2_tr, Cond.code yX2_tr cX2_tr 3 (some .int), Cond.methodLink RX2 63 yX2_let, Cond.instanceMethod yX2_let, Cond.selects RX2 yX2_let yX2_let, Cond.code yX2_let cX2_let 4 none, Cond.methodLink RX2 87 yX2_listen, Cond.instanceMethod yX2_listen, Cond.selects RX2 yX2_listen yX2_listen]
def wsX2_wanted_r3 : List Cond := [Cond.code yX2_listen cX2_listen 2 none, Cond.methodLink RX2 90 yX2_begin, Cond.instanceMethod yX2_begin, Cond.selects RX2 yX2_begin yX2_begin, Cond.code yX2_begin cX2_begin 3 none, Cond.methodLink RX2 77 Lib.Math.min.name, Cond.static Lib.Math.min.name, Cond.initialized "java/lang/Math", Cond.code Lib.Math.min.name Lib.Math.min.code 2 (some .int), Cond.methodLink RX2 74 yX2_first, Cond.instanceMethod yX2_first, Cond.selects RX2 yX2_first yX2_first, Cond.code yX2_first cX2_first 2 (some .int), Cond.methodLink RX2 80 yX2_takes, Cond.instanceMethod yX2_takes, Cond.selects RX2 yX2_takes yX2_takes, Cond.code yX2_takes cX2_takes 2 (some .int), Cond.methodLink RX2 59 yX2_loud, Cond.instanceMethod yX2_loud, Cond.selects RX2 yX2_loud yX2_loud, Cond.code yX2_loud cX2_loud 3 (some .int), Cond.fieldLink RX2 13 "SleepBorderModel" "snore" "[I", Cond.methodLink RX2 93 yX2_searchOn, Cond.instanceMethod yX2_searchOn]
def wsX2_wanted_r4 : List Cond := [Cond.selects RX2 yX2_searchOn yX2_searchOn, Cond.code yX2_searchOn cX2_searchOn 4 none, Cond.methodLink RX2 47 Lib.Math.max.name, Cond.static Lib.Math.max.name, Cond.code Lib.Math.max.name Lib.Math.max.code 2 (some .int), Cond.methodLink RX2 70 yX2_finds, Cond.instanceMethod yX2_finds, Cond.selects RX2 yX2_finds yX2_finds, Cond.code yX2_finds cX2_finds 3 (some .boolean), Cond.methodLink RX2 52 yX2_hidden, Cond.instanceMethod yX2_hidden, Cond.selects RX2 yX2_hidden yX2_hidden, Cond.code yX2_hidden cX2_hidden 2 (some .int), Cond.fieldLink RX2 9 "SleepBorderModel" "dreams" "[I", Cond.methodLink RX2 140 yX2_bringBack, Cond.instanceMethod yX2_bringBack, Cond.selects RX2 yX2_bringBack yX2_bringBack, Cond.code yX2_bringBack cX2_bringBack 1 none]
def wsX2_wanted : List Cond := .code yX2_wanted cX2_wanted 5 (some .int) :: ((wsX2_wanted_r1 ++ (wsX2_wanted_r2 ++ (wsX2_wanted_r3 ++ wsX2_wanted_r4))) ++ wsX20)
def wsX2_guardsWanted_r1 : List Cond := [Cond.methodLink RX2 149 yX2_wanted, Cond.instanceMethod yX2_wanted, Cond.selects RX2 yX2_wanted yX2_wanted, Cond.initialized RX2, Cond.code yX2_wanted cX2_wanted 5 (some .int), Cond.fieldLink RX2 16 "SleepBorderModel" "now" "[I", Cond.methodLink RX2 134 yX2_keep, Cond.instanceMethod yX2_keep, Cond.selects RX2 yX2_keep yX2_keep, Cond.code yX2_keep cX2_keep 1 none, Cond.fieldLink RX2 19 "SleepBorderModel" "kept" "[I", Cond.methodLink RX2 37 arraycopyName, Cond.native arraycopyName, Cond.static arraycopyName, Cond.initialized "java/lang/System", Cond.methodLink RX2 102 yX2_hire, Cond.instanceMethod yX2_hire, Cond.selects RX2 yX2_hire yX2_hire, Cond.code yX2_hire cX2_hire 2 none, Cond.methodLink RX2 67 yX2_post, Cond.instanceMethod yX2_post, Cond.selects RX2 yX2_post yX2_post, Cond.code yX2_post cX2_post 4 none, Cond.methodLink RX2 119 yX2_minutesOn]
def wsX2_guardsWanted_r2 : List Cond := [Cond.instanceMethod yX2_minutesOn, Cond.selects RX2 yX2_minutesOn yX2_minutesOn, Cond.code yX2_minutesOn cX2_minutesOn 3 none, Cond.methodLink RX2 96 yX2_minuteOn, Cond.instanceMethod yX2_minuteOn, Cond.selects RX2 yX2_minuteOn yX2_minuteOn, Cond.code yX2_minuteOn cX2_minuteOn 2 none, Cond.fieldLink RX2 22 "SleepBorderModel" "free" "[Z", Cond.fieldLink RX2 30 "SleepBorderModel" "travellers" "I", Cond.methodLink RX2 56 yX2_gu, Cond.instanceMethod yX2_gu, Cond.selects RX2 yX2_gu yX2_gu, Cond.code yX2_gu cX2_gu 3 (some .int), Cond.methodLink RX2 83 yX2_travel, Cond.instanceMethod yX2_travel, Cond.selects RX2 yX2_travel yX2_travel, Cond.code yX2_travel cX2_travel 2 none, Cond.methodLink RX2 43 yX2_tr, Cond.instanceMethod yX2_tr, Cond.selects RX2 yX2_tr yX2_tr, Cond.code yX2_tr cX2_tr 3 (some .int), Cond.methodLink RX2 63 yX2_let, Cond.instanceMethod yX2_let, Cond.selects RX2 yX2_let yX2_let]
def wsX2_guardsWanted_r3 : List Cond := [Cond.code yX2_let cX2_let 4 none, Cond.methodLink RX2 87 yX2_listen, Cond.instanceMethod yX2_listen, Cond.selects RX2 yX2_listen yX2_listen, Cond.code yX2_listen cX2_listen 2 none, Cond.methodLink RX2 90 yX2_begin, Cond.instanceMethod yX2_begin, Cond.selects RX2 yX2_begin yX2_begin, Cond.code yX2_begin cX2_begin 3 none, Cond.methodLink RX2 77 Lib.Math.min.name, Cond.static Lib.Math.min.name, Cond.initialized "java/lang/Math", Cond.code Lib.Math.min.name Lib.Math.min.code 2 (some .int), Cond.methodLink RX2 74 yX2_first, Cond.instanceMethod yX2_first, Cond.selects RX2 yX2_first yX2_first, Cond.code yX2_first cX2_first 2 (some .int), Cond.methodLink RX2 80 yX2_takes, Cond.instanceMethod yX2_takes, Cond.selects RX2 yX2_takes yX2_takes, Cond.code yX2_takes cX2_takes 2 (some .int), Cond.methodLink RX2 59 yX2_loud, Cond.instanceMethod yX2_loud, Cond.selects RX2 yX2_loud yX2_loud]
def wsX2_guardsWanted_r4 : List Cond := [Cond.code yX2_loud cX2_loud 3 (some .int), Cond.fieldLink RX2 13 "SleepBorderModel" "snore" "[I", Cond.methodLink RX2 93 yX2_searchOn, Cond.instanceMethod yX2_searchOn, Cond.selects RX2 yX2_searchOn yX2_searchOn, Cond.code yX2_searchOn cX2_searchOn 4 none, Cond.methodLink RX2 47 Lib.Math.max.name, Cond.static Lib.Math.max.name, Cond.code Lib.Math.max.name Lib.Math.max.code 2 (some .int), Cond.methodLink RX2 70 yX2_finds, Cond.instanceMethod yX2_finds, Cond.selects RX2 yX2_finds yX2_finds, Cond.code yX2_finds cX2_finds 3 (some .boolean), Cond.methodLink RX2 52 yX2_hidden, Cond.instanceMethod yX2_hidden, Cond.selects RX2 yX2_hidden yX2_hidden, Cond.code yX2_hidden cX2_hidden 2 (some .int), Cond.fieldLink RX2 9 "SleepBorderModel" "dreams" "[I", Cond.methodLink RX2 140 yX2_bringBack, Cond.instanceMethod yX2_bringBack, Cond.selects RX2 yX2_bringBack yX2_bringBack, Cond.code yX2_bringBack cX2_bringBack 1 none, Cond.methodLink RX2 122 yX2_told, Cond.instanceMethod yX2_told]
def wsX2_guardsWanted_r5 : List Cond := [Cond.selects RX2 yX2_told yX2_told, Cond.code yX2_told cX2_told 2 (some .int), Cond.fieldLink RX2 26 "SleepBorderModel" "thrown" "I"]
def wsX2_guardsWanted : List Cond := .code yX2_guardsWanted cX2_guardsWanted 1 (some .int) :: ((wsX2_guardsWanted_r1 ++ (wsX2_guardsWanted_r2 ++ (wsX2_guardsWanted_r3 ++ (wsX2_guardsWanted_r4 ++ wsX2_guardsWanted_r5)))) ++ wsX20)
def wsX2_meanAlertness : List Cond := .code yX2_meanAlertness cX2_meanAlertness 3 (some .double) :: ([.fieldLink RX2 26 "SleepBorderModel" "thrown" "I", .fieldLink RX2 16 "SleepBorderModel" "now" "[I", .methodLink RX2 56 yX2_gu, .instanceMethod yX2_gu, .selects RX2 yX2_gu yX2_gu, .initialized RX2, .code yX2_gu cX2_gu 3 (some .int)] ++ wsX20)
def wsX2_digest_r1 : List Cond := [Cond.fieldLink RX2 26 "SleepBorderModel" "thrown" "I", Cond.arrayClass .int, Cond.fieldLink RX2 16 "SleepBorderModel" "now" "[I", Cond.fieldLink RX2 30 "SleepBorderModel" "travellers" "I", Cond.constantLong RX2 152 (2131), Cond.constantLong RX2 154 (31), Cond.methodLink RX2 116 yX2_count, Cond.instanceMethod yX2_count, Cond.selects RX2 yX2_count yX2_count, Cond.initialized RX2, Cond.code yX2_count cX2_count 4 (some .int), Cond.methodLink RX2 43 yX2_tr, Cond.instanceMethod yX2_tr, Cond.selects RX2 yX2_tr yX2_tr, Cond.code yX2_tr cX2_tr 3 (some .int), Cond.methodLink RX2 59 yX2_loud, Cond.instanceMethod yX2_loud, Cond.selects RX2 yX2_loud yX2_loud, Cond.code yX2_loud cX2_loud 3 (some .int), Cond.fieldLink RX2 13 "SleepBorderModel" "snore" "[I", Cond.methodLink RX2 74 yX2_first, Cond.instanceMethod yX2_first, Cond.selects RX2 yX2_first yX2_first, Cond.code yX2_first cX2_first 2 (some .int)]
def wsX2_digest_r2 : List Cond := [Cond.methodLink RX2 131 yX2_alertest, Cond.instanceMethod yX2_alertest, Cond.selects RX2 yX2_alertest yX2_alertest, Cond.code yX2_alertest cX2_alertest 3 (some .int), Cond.methodLink RX2 56 yX2_gu, Cond.instanceMethod yX2_gu, Cond.selects RX2 yX2_gu yX2_gu, Cond.code yX2_gu cX2_gu 3 (some .int), Cond.methodLink RX2 146 yX2_sleepers, Cond.instanceMethod yX2_sleepers, Cond.selects RX2 yX2_sleepers yX2_sleepers, Cond.code yX2_sleepers cX2_sleepers 3 (some .int), Cond.methodLink RX2 134 yX2_keep, Cond.instanceMethod yX2_keep, Cond.selects RX2 yX2_keep yX2_keep, Cond.code yX2_keep cX2_keep 1 none, Cond.fieldLink RX2 19 "SleepBorderModel" "kept" "[I", Cond.methodLink RX2 37 arraycopyName, Cond.native arraycopyName, Cond.static arraycopyName, Cond.initialized "java/lang/System", Cond.methodLink RX2 119 yX2_minutesOn, Cond.instanceMethod yX2_minutesOn, Cond.selects RX2 yX2_minutesOn yX2_minutesOn]
def wsX2_digest_r3 : List Cond := [Cond.code yX2_minutesOn cX2_minutesOn 3 none, Cond.methodLink RX2 96 yX2_minuteOn, Cond.instanceMethod yX2_minuteOn, Cond.selects RX2 yX2_minuteOn yX2_minuteOn, Cond.code yX2_minuteOn cX2_minuteOn 2 none, Cond.fieldLink RX2 22 "SleepBorderModel" "free" "[Z", Cond.methodLink RX2 83 yX2_travel, Cond.instanceMethod yX2_travel, Cond.selects RX2 yX2_travel yX2_travel, Cond.code yX2_travel cX2_travel 2 none, Cond.methodLink RX2 63 yX2_let, Cond.instanceMethod yX2_let, Cond.selects RX2 yX2_let yX2_let, Cond.code yX2_let cX2_let 4 none, Cond.methodLink RX2 87 yX2_listen, Cond.instanceMethod yX2_listen, Cond.selects RX2 yX2_listen yX2_listen, Cond.code yX2_listen cX2_listen 2 none, Cond.methodLink RX2 90 yX2_begin, Cond.instanceMethod yX2_begin, Cond.selects RX2 yX2_begin yX2_begin, Cond.code yX2_begin cX2_begin 3 none, Cond.methodLink RX2 77 Lib.Math.min.name, Cond.static Lib.Math.min.name]
def wsX2_digest_r4 : List Cond := [Cond.initialized "java/lang/Math", Cond.code Lib.Math.min.name Lib.Math.min.code 2 (some .int), Cond.methodLink RX2 67 yX2_post, Cond.instanceMethod yX2_post, Cond.selects RX2 yX2_post yX2_post, Cond.code yX2_post cX2_post 4 none, Cond.methodLink RX2 80 yX2_takes, Cond.instanceMethod yX2_takes, Cond.selects RX2 yX2_takes yX2_takes, Cond.code yX2_takes cX2_takes 2 (some .int), Cond.methodLink RX2 93 yX2_searchOn, Cond.instanceMethod yX2_searchOn, Cond.selects RX2 yX2_searchOn yX2_searchOn, Cond.code yX2_searchOn cX2_searchOn 4 none, Cond.methodLink RX2 47 Lib.Math.max.name, Cond.static Lib.Math.max.name, Cond.code Lib.Math.max.name Lib.Math.max.code 2 (some .int), Cond.methodLink RX2 70 yX2_finds, Cond.instanceMethod yX2_finds, Cond.selects RX2 yX2_finds yX2_finds, Cond.code yX2_finds cX2_finds 3 (some .boolean), Cond.methodLink RX2 52 yX2_hidden, Cond.instanceMethod yX2_hidden, Cond.selects RX2 yX2_hidden yX2_hidden]
def wsX2_digest_r5 : List Cond := [Cond.code yX2_hidden cX2_hidden 2 (some .int), Cond.fieldLink RX2 9 "SleepBorderModel" "dreams" "[I", Cond.methodLink RX2 140 yX2_bringBack, Cond.instanceMethod yX2_bringBack, Cond.selects RX2 yX2_bringBack yX2_bringBack, Cond.code yX2_bringBack cX2_bringBack 1 none, Cond.methodLink RX2 149 yX2_wanted, Cond.instanceMethod yX2_wanted, Cond.selects RX2 yX2_wanted yX2_wanted, Cond.code yX2_wanted cX2_wanted 5 (some .int), Cond.methodLink RX2 102 yX2_hire, Cond.instanceMethod yX2_hire, Cond.selects RX2 yX2_hire yX2_hire, Cond.code yX2_hire cX2_hire 2 none, Cond.methodLink RX2 125 yX2_place, Cond.instanceMethod yX2_place, Cond.selects RX2 yX2_place yX2_place, Cond.code yX2_place cX2_place 4 (some .int), Cond.methodLink RX2 143 yX2_until, Cond.instanceMethod yX2_until, Cond.selects RX2 yX2_until yX2_until, Cond.code yX2_until cX2_until 3 (some .int), Cond.methodLink RX2 137 yX2_run, Cond.instanceMethod yX2_run]
def wsX2_digest_r6 : List Cond := [Cond.selects RX2 yX2_run yX2_run, Cond.code yX2_run cX2_run 3 (some .int)]
def wsX2_digest : List Cond := .code yX2_digest cX2_digest 10 (some .long) :: ((wsX2_digest_r1 ++ (wsX2_digest_r2 ++ (wsX2_digest_r3 ++ (wsX2_digest_r4 ++ (wsX2_digest_r5 ++ wsX2_digest_r6))))) ++ wsX20)
def wsJ9_max_7cf53 : List Cond := .code yJ9_max_7cf53 cJ9_max_7cf53 2 (some .int) :: ([])
def wsJ9_min_7cf53 : List Cond := .code yJ9_min_7cf53 cJ9_min_7cf53 2 (some .int) :: ([])
def wsL_addGuard : List Cond := .codeWith yL_addGuard cL_addGuard 3 (some .int) [(0, 8, 11, 13)] :: ([.classLink RL 13 "java/lang/IllegalStateException", .methodLink RL 7 yX1_addGuard, .instanceMethod yX1_addGuard, .selects RX1 yX1_addGuard yX1_addGuard, .initialized RX1, .code yX1_addGuard cX1_addGuard 1 (some .int), .classLink RX1 23 "java/lang/IllegalStateException", .initialized "java/lang/IllegalStateException", .fieldLink RX1 10 "SleepBorder" "now" "LSleepBorder$Border;", .fieldLink RX1 19 "SleepBorder$Border" "guardCount" "I", .methodLink RX1 30 yX0_admitGuard, .instanceMethod yX0_admitGuard, .selects RX0 yX0_admitGuard yX0_admitGuard, .initialized RX0, .code yX0_admitGuard cX0_admitGuard 1 none, .fieldLink RX0 46 "SleepBorder$Border" "guardCount" "I", .fieldLink RX0 49 "SleepBorder$Border" "alertness" "[I", .fieldLink RX0 52 "SleepBorder$Border" "searched" "[I", .fieldLink RX0 55 "SleepBorder$Border" "searchLeft" "[I"] ++ wsX10 ++ wsX00 ++ (vx_atS RX1 27 "java/lang/IllegalStateException" ["java/lang/RuntimeException", "java/lang/Exception"]).filter goodWord)
def wsL_arrive_r1 : List Cond := [Cond.classLink RL 19 "java/lang/IllegalArgumentException", Cond.classLink RL 13 "java/lang/IllegalStateException", Cond.methodLink RL 15 yX1_arrive, Cond.instanceMethod yX1_arrive, Cond.selects RX1 yX1_arrive yX1_arrive, Cond.initialized RX1, Cond.code yX1_arrive cX1_arrive 5 (some .int), Cond.classLink RX1 23 "java/lang/IllegalStateException", Cond.initialized "java/lang/IllegalStateException", Cond.fieldLink RX1 10 "SleepBorder" "now" "LSleepBorder$Border;", Cond.fieldLink RX1 40 "SleepBorder$Border" "travellerCount" "I", Cond.methodLink RX1 33 yX1_requireDigit, Cond.static yX1_requireDigit, Cond.code yX1_requireDigit cX1_requireDigit 1 none, Cond.classLink RX1 218 "java/lang/IllegalArgumentException", Cond.initialized "java/lang/IllegalArgumentException", Cond.methodLink RX1 37 yX1_requireMinutes, Cond.static yX1_requireMinutes, Cond.code yX1_requireMinutes cX1_requireMinutes 1 none, Cond.methodLink RX1 45 yX0_admitTraveller, Cond.instanceMethod yX0_admitTraveller, Cond.selects RX0 yX0_admitTraveller yX0_admitTraveller, Cond.initialized RX0, Cond.code yX0_admitTraveller cX0_admitTraveller 5 none]
def wsL_arrive_r2 : List Cond := [Cond.fieldLink RX0 21 "SleepBorder$Border" "travellerCount" "I", Cond.fieldLink RX0 24 "SleepBorder$Border" "dreams" "[I", Cond.fieldLink RX0 28 "SleepBorder$Border" "declared" "[I", Cond.fieldLink RX0 31 "SleepBorder$Border" "snore" "[I", Cond.fieldLink RX0 34 "SleepBorder$Border" "lullaby" "[I", Cond.fieldLink RX0 37 "SleepBorder$Border" "state" "[I"]
def wsL_arrive : List Cond := .codeWith yL_arrive cL_arrive 7 (some .int) [(0, 14, 17, 19), (0, 14, 21, 13)] :: ((wsL_arrive_r1 ++ wsL_arrive_r2) ++ wsX10 ++ wsX00 ++ (vx_atS RX1 27 "java/lang/IllegalStateException" ["java/lang/RuntimeException", "java/lang/Exception"]).filter goodWord ++ (vx_atS RX1 222 "java/lang/IllegalArgumentException" ["java/lang/RuntimeException", "java/lang/Exception"]).filter goodWord)
def wsL_declare_r1 : List Cond := [Cond.classLink RL 25 "java/lang/IndexOutOfBoundsException", Cond.classLink RL 19 "java/lang/IllegalArgumentException", Cond.classLink RL 13 "java/lang/IllegalStateException", Cond.methodLink RL 21 yX1_declare, Cond.instanceMethod yX1_declare, Cond.selects RX1 yX1_declare yX1_declare, Cond.initialized RX1, Cond.code yX1_declare cX1_declare 4 (some .int), Cond.fieldLink RX1 10 "SleepBorder" "now" "LSleepBorder$Border;", Cond.fieldLink RX1 55 "SleepBorder$Border" "declared" "[I", Cond.methodLink RX1 49 yX1_requireTraveller, Cond.instanceMethod yX1_requireTraveller, Cond.selects RX1 yX1_requireTraveller yX1_requireTraveller, Cond.code yX1_requireTraveller cX1_requireTraveller 2 none, Cond.classLink RX1 208 "java/lang/IndexOutOfBoundsException", Cond.initialized "java/lang/IndexOutOfBoundsException", Cond.methodLink RX1 204 yX0_isTraveller, Cond.instanceMethod yX0_isTraveller, Cond.selects RX0 yX0_isTraveller yX0_isTraveller, Cond.initialized RX0, Cond.code yX0_isTraveller cX0_isTraveller 2 (some .boolean), Cond.fieldLink RX0 21 "SleepBorder$Border" "travellerCount" "I", Cond.methodLink RX1 33 yX1_requireDigit, Cond.static yX1_requireDigit]
def wsL_declare_r2 : List Cond := [Cond.code yX1_requireDigit cX1_requireDigit 1 none, Cond.classLink RX1 218 "java/lang/IllegalArgumentException", Cond.initialized "java/lang/IllegalArgumentException", Cond.methodLink RX1 52 yX1_requireWaiting, Cond.instanceMethod yX1_requireWaiting, Cond.selects RX1 yX1_requireWaiting yX1_requireWaiting, Cond.code yX1_requireWaiting cX1_requireWaiting 2 none, Cond.classLink RX1 23 "java/lang/IllegalStateException", Cond.initialized "java/lang/IllegalStateException", Cond.fieldLink RX1 91 "SleepBorder$Border" "state" "[I"]
def wsL_declare : List Cond := .codeWith yL_declare cL_declare 5 (some .int) [(0, 10, 13, 25), (0, 10, 17, 19), (0, 10, 21, 13)] :: ((wsL_declare_r1 ++ wsL_declare_r2) ++ wsX10 ++ wsX00 ++ (vx_atS RX1 212 "java/lang/IndexOutOfBoundsException" ["java/lang/RuntimeException", "java/lang/Exception"]).filter goodWord ++ (vx_atS RX1 222 "java/lang/IllegalArgumentException" ["java/lang/RuntimeException", "java/lang/Exception"]).filter goodWord ++ (vx_atS RX1 27 "java/lang/IllegalStateException" ["java/lang/RuntimeException", "java/lang/Exception"]).filter goodWord)
def wsL_sing_r1 : List Cond := [Cond.classLink RL 25 "java/lang/IndexOutOfBoundsException", Cond.classLink RL 19 "java/lang/IllegalArgumentException", Cond.classLink RL 13 "java/lang/IllegalStateException", Cond.methodLink RL 27 yX1_sing, Cond.instanceMethod yX1_sing, Cond.selects RX1 yX1_sing yX1_sing, Cond.initialized RX1, Cond.code yX1_sing cX1_sing 4 (some .int), Cond.fieldLink RX1 10 "SleepBorder" "now" "LSleepBorder$Border;", Cond.fieldLink RX1 59 "SleepBorder$Border" "lullaby" "[I", Cond.methodLink RX1 49 yX1_requireTraveller, Cond.instanceMethod yX1_requireTraveller, Cond.selects RX1 yX1_requireTraveller yX1_requireTraveller, Cond.code yX1_requireTraveller cX1_requireTraveller 2 none, Cond.classLink RX1 208 "java/lang/IndexOutOfBoundsException", Cond.initialized "java/lang/IndexOutOfBoundsException", Cond.methodLink RX1 204 yX0_isTraveller, Cond.instanceMethod yX0_isTraveller, Cond.selects RX0 yX0_isTraveller yX0_isTraveller, Cond.initialized RX0, Cond.code yX0_isTraveller cX0_isTraveller 2 (some .boolean), Cond.fieldLink RX0 21 "SleepBorder$Border" "travellerCount" "I", Cond.methodLink RX1 37 yX1_requireMinutes, Cond.static yX1_requireMinutes]
def wsL_sing_r2 : List Cond := [Cond.code yX1_requireMinutes cX1_requireMinutes 1 none, Cond.classLink RX1 218 "java/lang/IllegalArgumentException", Cond.initialized "java/lang/IllegalArgumentException", Cond.methodLink RX1 52 yX1_requireWaiting, Cond.instanceMethod yX1_requireWaiting, Cond.selects RX1 yX1_requireWaiting yX1_requireWaiting, Cond.code yX1_requireWaiting cX1_requireWaiting 2 none, Cond.classLink RX1 23 "java/lang/IllegalStateException", Cond.initialized "java/lang/IllegalStateException", Cond.fieldLink RX1 91 "SleepBorder$Border" "state" "[I"]
def wsL_sing : List Cond := .codeWith yL_sing cL_sing 5 (some .int) [(0, 10, 13, 25), (0, 10, 17, 19), (0, 10, 21, 13)] :: ((wsL_sing_r1 ++ wsL_sing_r2) ++ wsX10 ++ wsX00 ++ (vx_atS RX1 212 "java/lang/IndexOutOfBoundsException" ["java/lang/RuntimeException", "java/lang/Exception"]).filter goodWord ++ (vx_atS RX1 222 "java/lang/IllegalArgumentException" ["java/lang/RuntimeException", "java/lang/Exception"]).filter goodWord ++ (vx_atS RX1 27 "java/lang/IllegalStateException" ["java/lang/RuntimeException", "java/lang/Exception"]).filter goodWord)
def wsL_wake : List Cond := .codeWith yL_wake cL_wake 4 (some .int) [(0, 9, 12, 25)] :: ([.classLink RL 25 "java/lang/IndexOutOfBoundsException", .methodLink RL 30 yX1_wake, .instanceMethod yX1_wake, .selects RX1 yX1_wake yX1_wake, .initialized RX1, .code yX1_wake cX1_wake 3 (some .int), .fieldLink RX1 10 "SleepBorder" "now" "LSleepBorder$Border;", .fieldLink RX1 65 "SleepBorder$Border" "alertness" "[I", .methodLink RX1 62 yX1_requireGuard, .instanceMethod yX1_requireGuard, .selects RX1 yX1_requireGuard yX1_requireGuard, .code yX1_requireGuard cX1_requireGuard 2 none, .classLink RX1 208 "java/lang/IndexOutOfBoundsException", .initialized "java/lang/IndexOutOfBoundsException", .methodLink RX1 213 yX0_isGuard, .instanceMethod yX0_isGuard, .selects RX0 yX0_isGuard yX0_isGuard, .initialized RX0, .code yX0_isGuard cX0_isGuard 2 (some .boolean), .fieldLink RX0 46 "SleepBorder$Border" "guardCount" "I"] ++ wsX10 ++ wsX00 ++ (vx_atS RX1 212 "java/lang/IndexOutOfBoundsException" ["java/lang/RuntimeException", "java/lang/Exception"]).filter goodWord)
def wsL_pass_r1 : List Cond := [Cond.classLink RL 19 "java/lang/IllegalArgumentException", Cond.methodLink RL 34 yX1_pass, Cond.instanceMethod yX1_pass, Cond.selects RX1 yX1_pass yX1_pass, Cond.initialized RX1, Cond.code yX1_pass cX1_pass 4 (some .int), Cond.fieldLink RX1 10 "SleepBorder" "now" "LSleepBorder$Border;", Cond.methodLink RX1 37 yX1_requireMinutes, Cond.static yX1_requireMinutes, Cond.code yX1_requireMinutes cX1_requireMinutes 1 none, Cond.classLink RX1 218 "java/lang/IllegalArgumentException", Cond.initialized "java/lang/IllegalArgumentException", Cond.methodLink RX1 68 yX0_countIn, Cond.instanceMethod yX0_countIn, Cond.selects RX0 yX0_countIn yX0_countIn, Cond.initialized RX0, Cond.code yX0_countIn cX0_countIn 4 (some .int), Cond.fieldLink RX0 21 "SleepBorder$Border" "travellerCount" "I", Cond.fieldLink RX0 37 "SleepBorder$Border" "state" "[I", Cond.methodLink RX1 72 yX0_goOneMinute, Cond.instanceMethod yX0_goOneMinute, Cond.selects RX0 yX0_goOneMinute yX0_goOneMinute, Cond.code yX0_goOneMinute cX0_goOneMinute 2 none, Cond.fieldLink RX0 46 "SleepBorder$Border" "guardCount" "I"]
def wsL_pass_r2 : List Cond := [Cond.fieldLink RX0 9 "SleepBorder$Border" "clock" "I", Cond.methodLink RX0 79 yX0_advanceTransits, Cond.instanceMethod yX0_advanceTransits, Cond.selects RX0 yX0_advanceTransits yX0_advanceTransits, Cond.code yX0_advanceTransits cX0_advanceTransits 2 none, Cond.fieldLink RX0 40 "SleepBorder$Border" "transitLeft" "[I", Cond.fieldLink RX0 43 "SleepBorder$Border" "asleepSince" "[I", Cond.methodLink RX0 82 yX0_shortenLullabies, Cond.instanceMethod yX0_shortenLullabies, Cond.selects RX0 yX0_shortenLullabies yX0_shortenLullabies, Cond.code yX0_shortenLullabies cX0_shortenLullabies 2 none, Cond.fieldLink RX0 34 "SleepBorder$Border" "lullaby" "[I", Cond.fieldLink RX0 15 "SleepBorder$Border" "expiredCount" "I", Cond.methodLink RX0 85 yX0_work, Cond.instanceMethod yX0_work, Cond.selects RX0 yX0_work yX0_work, Cond.code yX0_work cX0_work 4 none, Cond.fieldLink RX0 52 "SleepBorder$Border" "searched" "[I", Cond.fieldLink RX0 49 "SleepBorder$Border" "alertness" "[I", Cond.methodLink RX0 103 Lib.Math.min.name, Cond.static Lib.Math.min.name, Cond.initialized "java/lang/Math", Cond.code Lib.Math.min.name Lib.Math.min.code 2 (some .int), Cond.methodLink RX0 89 yX0_isTraveller]
def wsL_pass_r3 : List Cond := [Cond.instanceMethod yX0_isTraveller, Cond.selects RX0 yX0_isTraveller yX0_isTraveller, Cond.code yX0_isTraveller cX0_isTraveller 2 (some .boolean), Cond.methodLink RX0 93 yX0_searchOn, Cond.instanceMethod yX0_searchOn, Cond.selects RX0 yX0_searchOn yX0_searchOn, Cond.code yX0_searchOn cX0_searchOn 3 none, Cond.fieldLink RX0 55 "SleepBorder$Border" "searchLeft" "[I", Cond.fieldLink RX0 18 "SleepBorder$Border" "till" "I", Cond.methodLink RX0 58 Lib.Math.max.name, Cond.static Lib.Math.max.name, Cond.code Lib.Math.max.name Lib.Math.max.code 2 (some .int), Cond.methodLink RX0 109 yX0_finds, Cond.instanceMethod yX0_finds, Cond.selects RX0 yX0_finds yX0_finds, Cond.code yX0_finds cX0_finds 4 (some .boolean), Cond.methodLink RX0 68 yX0_hiddenDreams, Cond.instanceMethod yX0_hiddenDreams, Cond.selects RX0 yX0_hiddenDreams yX0_hiddenDreams, Cond.code yX0_hiddenDreams cX0_hiddenDreams 2 (some .int), Cond.fieldLink RX0 24 "SleepBorder$Border" "dreams" "[I", Cond.fieldLink RX0 28 "SleepBorder$Border" "declared" "[I", Cond.methodLink RX0 97 yX0_firstWaiting, Cond.instanceMethod yX0_firstWaiting]
def wsL_pass_r4 : List Cond := [Cond.selects RX0 yX0_firstWaiting yX0_firstWaiting, Cond.code yX0_firstWaiting cX0_firstWaiting 2 (some .int), Cond.methodLink RX0 100 yX0_beginSearch, Cond.instanceMethod yX0_beginSearch, Cond.selects RX0 yX0_beginSearch yX0_beginSearch, Cond.code yX0_beginSearch cX0_beginSearch 3 none, Cond.methodLink RX0 106 yX0_searchMinutes, Cond.instanceMethod yX0_searchMinutes, Cond.selects RX0 yX0_searchMinutes yX0_searchMinutes, Cond.code yX0_searchMinutes cX0_searchMinutes 2 (some .int), Cond.methodLink RX0 64 yX0_addedSnores, Cond.instanceMethod yX0_addedSnores, Cond.selects RX0 yX0_addedSnores yX0_addedSnores, Cond.code yX0_addedSnores cX0_addedSnores 3 (some .int), Cond.fieldLink RX0 31 "SleepBorder$Border" "snore" "[I"]
def wsL_pass : List Cond := .codeWith yL_pass cL_pass 4 (some .int) [(0, 9, 12, 19)] :: ((wsL_pass_r1 ++ (wsL_pass_r2 ++ (wsL_pass_r3 ++ wsL_pass_r4))) ++ wsX10 ++ wsX00 ++ (vx_atS RX1 222 "java/lang/IllegalArgumentException" ["java/lang/RuntimeException", "java/lang/Exception"]).filter goodWord)
def wsL_stateOf : List Cond := .codeWith yL_stateOf cL_stateOf 4 (some .int) [(0, 9, 12, 25)] :: ([.classLink RL 25 "java/lang/IndexOutOfBoundsException", .methodLink RL 37 yX1_stateOf, .instanceMethod yX1_stateOf, .selects RX1 yX1_stateOf yX1_stateOf, .initialized RX1, .code yX1_stateOf cX1_stateOf 2 (some .int), .fieldLink RX1 10 "SleepBorder" "now" "LSleepBorder$Border;", .fieldLink RX1 91 "SleepBorder$Border" "state" "[I", .methodLink RX1 49 yX1_requireTraveller, .instanceMethod yX1_requireTraveller, .selects RX1 yX1_requireTraveller yX1_requireTraveller, .code yX1_requireTraveller cX1_requireTraveller 2 none, .classLink RX1 208 "java/lang/IndexOutOfBoundsException", .initialized "java/lang/IndexOutOfBoundsException", .methodLink RX1 204 yX0_isTraveller, .instanceMethod yX0_isTraveller, .selects RX0 yX0_isTraveller yX0_isTraveller, .initialized RX0, .code yX0_isTraveller cX0_isTraveller 2 (some .boolean), .fieldLink RX0 21 "SleepBorder$Border" "travellerCount" "I"] ++ wsX10 ++ wsX00 ++ (vx_atS RX1 212 "java/lang/IndexOutOfBoundsException" ["java/lang/RuntimeException", "java/lang/Exception"]).filter goodWord)
def wsL_hiddenOf_r1 : List Cond := [Cond.classLink RL 25 "java/lang/IndexOutOfBoundsException", Cond.methodLink RL 40 yX1_hiddenOf, Cond.instanceMethod yX1_hiddenOf, Cond.selects RX1 yX1_hiddenOf yX1_hiddenOf, Cond.initialized RX1, Cond.code yX1_hiddenOf cX1_hiddenOf 2 (some .int), Cond.fieldLink RX1 10 "SleepBorder" "now" "LSleepBorder$Border;", Cond.methodLink RX1 49 yX1_requireTraveller, Cond.instanceMethod yX1_requireTraveller, Cond.selects RX1 yX1_requireTraveller yX1_requireTraveller, Cond.code yX1_requireTraveller cX1_requireTraveller 2 none, Cond.classLink RX1 208 "java/lang/IndexOutOfBoundsException", Cond.initialized "java/lang/IndexOutOfBoundsException", Cond.methodLink RX1 204 yX0_isTraveller, Cond.instanceMethod yX0_isTraveller, Cond.selects RX0 yX0_isTraveller yX0_isTraveller, Cond.initialized RX0, Cond.code yX0_isTraveller cX0_isTraveller 2 (some .boolean), Cond.fieldLink RX0 21 "SleepBorder$Border" "travellerCount" "I", Cond.methodLink RX1 94 yX0_hiddenDreams, Cond.instanceMethod yX0_hiddenDreams, Cond.selects RX0 yX0_hiddenDreams yX0_hiddenDreams, Cond.code yX0_hiddenDreams cX0_hiddenDreams 2 (some .int), Cond.fieldLink RX0 24 "SleepBorder$Border" "dreams" "[I"]
def wsL_hiddenOf_r2 : List Cond := [Cond.fieldLink RX0 28 "SleepBorder$Border" "declared" "[I", Cond.methodLink RX0 58 Lib.Math.max.name, Cond.static Lib.Math.max.name, Cond.initialized "java/lang/Math", Cond.code Lib.Math.max.name Lib.Math.max.code 2 (some .int)]
def wsL_hiddenOf : List Cond := .codeWith yL_hiddenOf cL_hiddenOf 4 (some .int) [(0, 9, 12, 25)] :: ((wsL_hiddenOf_r1 ++ wsL_hiddenOf_r2) ++ wsX10 ++ wsX00 ++ (vx_atS RX1 212 "java/lang/IndexOutOfBoundsException" ["java/lang/RuntimeException", "java/lang/Exception"]).filter goodWord)
def wsL_lullabyOf : List Cond := .codeWith yL_lullabyOf cL_lullabyOf 4 (some .int) [(0, 9, 12, 25)] :: ([.classLink RL 25 "java/lang/IndexOutOfBoundsException", .methodLink RL 43 yX1_lullabyOf, .instanceMethod yX1_lullabyOf, .selects RX1 yX1_lullabyOf yX1_lullabyOf, .initialized RX1, .code yX1_lullabyOf cX1_lullabyOf 2 (some .int), .fieldLink RX1 10 "SleepBorder" "now" "LSleepBorder$Border;", .fieldLink RX1 59 "SleepBorder$Border" "lullaby" "[I", .methodLink RX1 49 yX1_requireTraveller, .instanceMethod yX1_requireTraveller, .selects RX1 yX1_requireTraveller yX1_requireTraveller, .code yX1_requireTraveller cX1_requireTraveller 2 none, .classLink RX1 208 "java/lang/IndexOutOfBoundsException", .initialized "java/lang/IndexOutOfBoundsException", .methodLink RX1 204 yX0_isTraveller, .instanceMethod yX0_isTraveller, .selects RX0 yX0_isTraveller yX0_isTraveller, .initialized RX0, .code yX0_isTraveller cX0_isTraveller 2 (some .boolean), .fieldLink RX0 21 "SleepBorder$Border" "travellerCount" "I"] ++ wsX10 ++ wsX00 ++ (vx_atS RX1 212 "java/lang/IndexOutOfBoundsException" ["java/lang/RuntimeException", "java/lang/Exception"]).filter goodWord)
def wsL_placeInLine_r1 : List Cond := [Cond.classLink RL 25 "java/lang/IndexOutOfBoundsException", Cond.methodLink RL 46 yX1_placeInLine, Cond.instanceMethod yX1_placeInLine, Cond.selects RX1 yX1_placeInLine yX1_placeInLine, Cond.initialized RX1, Cond.code yX1_placeInLine cX1_placeInLine 2 (some .int), Cond.fieldLink RX1 10 "SleepBorder" "now" "LSleepBorder$Border;", Cond.fieldLink RX1 91 "SleepBorder$Border" "state" "[I", Cond.methodLink RX1 49 yX1_requireTraveller, Cond.instanceMethod yX1_requireTraveller, Cond.selects RX1 yX1_requireTraveller yX1_requireTraveller, Cond.code yX1_requireTraveller cX1_requireTraveller 2 none, Cond.classLink RX1 208 "java/lang/IndexOutOfBoundsException", Cond.initialized "java/lang/IndexOutOfBoundsException", Cond.methodLink RX1 204 yX0_isTraveller, Cond.instanceMethod yX0_isTraveller, Cond.selects RX0 yX0_isTraveller yX0_isTraveller, Cond.initialized RX0, Cond.code yX0_isTraveller cX0_isTraveller 2 (some .boolean), Cond.fieldLink RX0 21 "SleepBorder$Border" "travellerCount" "I", Cond.methodLink RX1 97 yX0_waitingAhead, Cond.instanceMethod yX0_waitingAhead, Cond.selects RX0 yX0_waitingAhead yX0_waitingAhead, Cond.code yX0_waitingAhead cX0_waitingAhead 4 (some .int)]
def wsL_placeInLine_r2 : List Cond := [Cond.fieldLink RX0 37 "SleepBorder$Border" "state" "[I"]
def wsL_placeInLine : List Cond := .codeWith yL_placeInLine cL_placeInLine 4 (some .int) [(0, 9, 12, 25)] :: ((wsL_placeInLine_r1 ++ wsL_placeInLine_r2) ++ wsX10 ++ wsX00 ++ (vx_atS RX1 212 "java/lang/IndexOutOfBoundsException" ["java/lang/RuntimeException", "java/lang/Exception"]).filter goodWord)
def wsL_searchTime_r1 : List Cond := [Cond.classLink RL 25 "java/lang/IndexOutOfBoundsException", Cond.methodLink RL 49 yX1_searchTime, Cond.instanceMethod yX1_searchTime, Cond.selects RX1 yX1_searchTime yX1_searchTime, Cond.initialized RX1, Cond.code yX1_searchTime cX1_searchTime 2 (some .int), Cond.fieldLink RX1 10 "SleepBorder" "now" "LSleepBorder$Border;", Cond.methodLink RX1 49 yX1_requireTraveller, Cond.instanceMethod yX1_requireTraveller, Cond.selects RX1 yX1_requireTraveller yX1_requireTraveller, Cond.code yX1_requireTraveller cX1_requireTraveller 2 none, Cond.classLink RX1 208 "java/lang/IndexOutOfBoundsException", Cond.initialized "java/lang/IndexOutOfBoundsException", Cond.methodLink RX1 204 yX0_isTraveller, Cond.instanceMethod yX0_isTraveller, Cond.selects RX0 yX0_isTraveller yX0_isTraveller, Cond.initialized RX0, Cond.code yX0_isTraveller cX0_isTraveller 2 (some .boolean), Cond.fieldLink RX0 21 "SleepBorder$Border" "travellerCount" "I", Cond.methodLink RX1 100 yX0_searchMinutes, Cond.instanceMethod yX0_searchMinutes, Cond.selects RX0 yX0_searchMinutes yX0_searchMinutes, Cond.code yX0_searchMinutes cX0_searchMinutes 2 (some .int), Cond.fieldLink RX0 28 "SleepBorder$Border" "declared" "[I"]
def wsL_searchTime_r2 : List Cond := [Cond.methodLink RX0 64 yX0_addedSnores, Cond.instanceMethod yX0_addedSnores, Cond.selects RX0 yX0_addedSnores yX0_addedSnores, Cond.code yX0_addedSnores cX0_addedSnores 3 (some .int), Cond.fieldLink RX0 37 "SleepBorder$Border" "state" "[I", Cond.fieldLink RX0 31 "SleepBorder$Border" "snore" "[I"]
def wsL_searchTime : List Cond := .codeWith yL_searchTime cL_searchTime 4 (some .int) [(0, 9, 12, 25)] :: ((wsL_searchTime_r1 ++ wsL_searchTime_r2) ++ wsX10 ++ wsX00 ++ (vx_atS RX1 212 "java/lang/IndexOutOfBoundsException" ["java/lang/RuntimeException", "java/lang/Exception"]).filter goodWord)
def wsL_alertnessOf : List Cond := .codeWith yL_alertnessOf cL_alertnessOf 4 (some .int) [(0, 9, 12, 25)] :: ([.classLink RL 25 "java/lang/IndexOutOfBoundsException", .methodLink RL 52 yX1_alertnessOf, .instanceMethod yX1_alertnessOf, .selects RX1 yX1_alertnessOf yX1_alertnessOf, .initialized RX1, .code yX1_alertnessOf cX1_alertnessOf 2 (some .int), .fieldLink RX1 10 "SleepBorder" "now" "LSleepBorder$Border;", .fieldLink RX1 65 "SleepBorder$Border" "alertness" "[I", .methodLink RX1 62 yX1_requireGuard, .instanceMethod yX1_requireGuard, .selects RX1 yX1_requireGuard yX1_requireGuard, .code yX1_requireGuard cX1_requireGuard 2 none, .classLink RX1 208 "java/lang/IndexOutOfBoundsException", .initialized "java/lang/IndexOutOfBoundsException", .methodLink RX1 213 yX0_isGuard, .instanceMethod yX0_isGuard, .selects RX0 yX0_isGuard yX0_isGuard, .initialized RX0, .code yX0_isGuard cX0_isGuard 2 (some .boolean), .fieldLink RX0 46 "SleepBorder$Border" "guardCount" "I"] ++ wsX10 ++ wsX00 ++ (vx_atS RX1 212 "java/lang/IndexOutOfBoundsException" ["java/lang/RuntimeException", "java/lang/Exception"]).filter goodWord)
def wsL_searches : List Cond := .codeWith yL_searches cL_searches 4 (some .int) [(0, 9, 12, 25)] :: ([.classLink RL 25 "java/lang/IndexOutOfBoundsException", .methodLink RL 55 yX1_searches, .instanceMethod yX1_searches, .selects RX1 yX1_searches yX1_searches, .initialized RX1, .code yX1_searches cX1_searches 2 (some .int), .fieldLink RX1 10 "SleepBorder" "now" "LSleepBorder$Border;", .fieldLink RX1 103 "SleepBorder$Border" "searched" "[I", .methodLink RX1 62 yX1_requireGuard, .instanceMethod yX1_requireGuard, .selects RX1 yX1_requireGuard yX1_requireGuard, .code yX1_requireGuard cX1_requireGuard 2 none, .classLink RX1 208 "java/lang/IndexOutOfBoundsException", .initialized "java/lang/IndexOutOfBoundsException", .methodLink RX1 213 yX0_isGuard, .instanceMethod yX0_isGuard, .selects RX0 yX0_isGuard yX0_isGuard, .initialized RX0, .code yX0_isGuard cX0_isGuard 2 (some .boolean), .fieldLink RX0 46 "SleepBorder$Border" "guardCount" "I"] ++ wsX10 ++ wsX00 ++ (vx_atS RX1 212 "java/lang/IndexOutOfBoundsException" ["java/lang/RuntimeException", "java/lang/Exception"]).filter goodWord)
def wsL_minutesToGo : List Cond := .codeWith yL_minutesToGo cL_minutesToGo 4 (some .int) [(0, 9, 12, 25)] :: ([.classLink RL 25 "java/lang/IndexOutOfBoundsException", .methodLink RL 58 yX1_minutesToGo, .instanceMethod yX1_minutesToGo, .selects RX1 yX1_minutesToGo yX1_minutesToGo, .initialized RX1, .code yX1_minutesToGo cX1_minutesToGo 2 (some .int), .fieldLink RX1 10 "SleepBorder" "now" "LSleepBorder$Border;", .fieldLink RX1 106 "SleepBorder$Border" "searchLeft" "[I", .methodLink RX1 62 yX1_requireGuard, .instanceMethod yX1_requireGuard, .selects RX1 yX1_requireGuard yX1_requireGuard, .code yX1_requireGuard cX1_requireGuard 2 none, .classLink RX1 208 "java/lang/IndexOutOfBoundsException", .initialized "java/lang/IndexOutOfBoundsException", .methodLink RX1 213 yX0_isGuard, .instanceMethod yX0_isGuard, .selects RX0 yX0_isGuard yX0_isGuard, .initialized RX0, .code yX0_isGuard cX0_isGuard 2 (some .boolean), .fieldLink RX0 46 "SleepBorder$Border" "guardCount" "I"] ++ wsX10 ++ wsX00 ++ (vx_atS RX1 212 "java/lang/IndexOutOfBoundsException" ["java/lang/RuntimeException", "java/lang/Exception"]).filter goodWord)
def wsL_wouldFind_r1 : List Cond := [Cond.classLink RL 25 "java/lang/IndexOutOfBoundsException", Cond.methodLink RL 61 yX1_wouldFind, Cond.instanceMethod yX1_wouldFind, Cond.selects RX1 yX1_wouldFind yX1_wouldFind, Cond.initialized RX1, Cond.code yX1_wouldFind cX1_wouldFind 3 (some .boolean), Cond.fieldLink RX1 10 "SleepBorder" "now" "LSleepBorder$Border;", Cond.methodLink RX1 62 yX1_requireGuard, Cond.instanceMethod yX1_requireGuard, Cond.selects RX1 yX1_requireGuard yX1_requireGuard, Cond.code yX1_requireGuard cX1_requireGuard 2 none, Cond.classLink RX1 208 "java/lang/IndexOutOfBoundsException", Cond.initialized "java/lang/IndexOutOfBoundsException", Cond.methodLink RX1 213 yX0_isGuard, Cond.instanceMethod yX0_isGuard, Cond.selects RX0 yX0_isGuard yX0_isGuard, Cond.initialized RX0, Cond.code yX0_isGuard cX0_isGuard 2 (some .boolean), Cond.fieldLink RX0 46 "SleepBorder$Border" "guardCount" "I", Cond.methodLink RX1 49 yX1_requireTraveller, Cond.instanceMethod yX1_requireTraveller, Cond.selects RX1 yX1_requireTraveller yX1_requireTraveller, Cond.code yX1_requireTraveller cX1_requireTraveller 2 none, Cond.methodLink RX1 204 yX0_isTraveller]
def wsL_wouldFind_r2 : List Cond := [Cond.instanceMethod yX0_isTraveller, Cond.selects RX0 yX0_isTraveller yX0_isTraveller, Cond.code yX0_isTraveller cX0_isTraveller 2 (some .boolean), Cond.fieldLink RX0 21 "SleepBorder$Border" "travellerCount" "I", Cond.methodLink RX1 109 yX0_finds, Cond.instanceMethod yX0_finds, Cond.selects RX0 yX0_finds yX0_finds, Cond.code yX0_finds cX0_finds 4 (some .boolean), Cond.fieldLink RX0 49 "SleepBorder$Border" "alertness" "[I", Cond.methodLink RX0 68 yX0_hiddenDreams, Cond.instanceMethod yX0_hiddenDreams, Cond.selects RX0 yX0_hiddenDreams yX0_hiddenDreams, Cond.code yX0_hiddenDreams cX0_hiddenDreams 2 (some .int), Cond.fieldLink RX0 24 "SleepBorder$Border" "dreams" "[I", Cond.fieldLink RX0 28 "SleepBorder$Border" "declared" "[I", Cond.methodLink RX0 58 Lib.Math.max.name, Cond.static Lib.Math.max.name, Cond.initialized "java/lang/Math", Cond.code Lib.Math.max.name Lib.Math.max.code 2 (some .int)]
def wsL_wouldFind : List Cond := .codeWith yL_wouldFind cL_wouldFind 5 (some .int) [(0, 17, 20, 25)] :: ((wsL_wouldFind_r1 ++ wsL_wouldFind_r2) ++ wsX10 ++ wsX00 ++ (vx_atS RX1 212 "java/lang/IndexOutOfBoundsException" ["java/lang/RuntimeException", "java/lang/Exception"]).filter goodWord)
def wsL_minutesUntilAsleep_r1 : List Cond := [Cond.classLink RL 25 "java/lang/IndexOutOfBoundsException", Cond.methodLink RL 65 yX1_minutesUntilAsleep, Cond.instanceMethod yX1_minutesUntilAsleep, Cond.selects RX1 yX1_minutesUntilAsleep yX1_minutesUntilAsleep, Cond.initialized RX1, Cond.code yX1_minutesUntilAsleep cX1_minutesUntilAsleep 2 (some .int), Cond.fieldLink RX1 16 "SleepBorder" "trial" "LSleepBorder$Border;", Cond.fieldLink RX1 10 "SleepBorder" "now" "LSleepBorder$Border;", Cond.methodLink RX1 49 yX1_requireTraveller, Cond.instanceMethod yX1_requireTraveller, Cond.selects RX1 yX1_requireTraveller yX1_requireTraveller, Cond.code yX1_requireTraveller cX1_requireTraveller 2 none, Cond.classLink RX1 208 "java/lang/IndexOutOfBoundsException", Cond.initialized "java/lang/IndexOutOfBoundsException", Cond.methodLink RX1 204 yX0_isTraveller, Cond.instanceMethod yX0_isTraveller, Cond.selects RX0 yX0_isTraveller yX0_isTraveller, Cond.initialized RX0, Cond.code yX0_isTraveller cX0_isTraveller 2 (some .boolean), Cond.fieldLink RX0 21 "SleepBorder$Border" "travellerCount" "I", Cond.methodLink RX1 113 yX0_become, Cond.instanceMethod yX0_become, Cond.selects RX0 yX0_become yX0_become, Cond.code yX0_become cX0_become 3 none]
def wsL_minutesUntilAsleep_r2 : List Cond := [Cond.fieldLink RX0 9 "SleepBorder$Border" "clock" "I", Cond.fieldLink RX0 15 "SleepBorder$Border" "expiredCount" "I", Cond.fieldLink RX0 18 "SleepBorder$Border" "till" "I", Cond.fieldLink RX0 24 "SleepBorder$Border" "dreams" "[I", Cond.fieldLink RX0 28 "SleepBorder$Border" "declared" "[I", Cond.fieldLink RX0 31 "SleepBorder$Border" "snore" "[I", Cond.fieldLink RX0 34 "SleepBorder$Border" "lullaby" "[I", Cond.fieldLink RX0 37 "SleepBorder$Border" "state" "[I", Cond.fieldLink RX0 40 "SleepBorder$Border" "transitLeft" "[I", Cond.fieldLink RX0 43 "SleepBorder$Border" "asleepSince" "[I", Cond.fieldLink RX0 46 "SleepBorder$Border" "guardCount" "I", Cond.fieldLink RX0 49 "SleepBorder$Border" "alertness" "[I", Cond.fieldLink RX0 52 "SleepBorder$Border" "searched" "[I", Cond.fieldLink RX0 55 "SleepBorder$Border" "searchLeft" "[I", Cond.methodLink RX1 117 yX0_goOn, Cond.instanceMethod yX0_goOn, Cond.selects RX0 yX0_goOn yX0_goOn, Cond.code yX0_goOn cX0_goOn 3 none, Cond.methodLink RX0 72 yX0_isSettled, Cond.instanceMethod yX0_isSettled, Cond.selects RX0 yX0_isSettled yX0_isSettled, Cond.code yX0_isSettled cX0_isSettled 2 (some .boolean), Cond.methodLink RX0 76 yX0_goOneMinute, Cond.instanceMethod yX0_goOneMinute]
def wsL_minutesUntilAsleep_r3 : List Cond := [Cond.selects RX0 yX0_goOneMinute yX0_goOneMinute, Cond.code yX0_goOneMinute cX0_goOneMinute 2 none, Cond.methodLink RX0 79 yX0_advanceTransits, Cond.instanceMethod yX0_advanceTransits, Cond.selects RX0 yX0_advanceTransits yX0_advanceTransits, Cond.code yX0_advanceTransits cX0_advanceTransits 2 none, Cond.methodLink RX0 82 yX0_shortenLullabies, Cond.instanceMethod yX0_shortenLullabies, Cond.selects RX0 yX0_shortenLullabies yX0_shortenLullabies, Cond.code yX0_shortenLullabies cX0_shortenLullabies 2 none, Cond.methodLink RX0 85 yX0_work, Cond.instanceMethod yX0_work, Cond.selects RX0 yX0_work yX0_work, Cond.code yX0_work cX0_work 4 none, Cond.methodLink RX0 103 Lib.Math.min.name, Cond.static Lib.Math.min.name, Cond.initialized "java/lang/Math", Cond.code Lib.Math.min.name Lib.Math.min.code 2 (some .int), Cond.methodLink RX0 89 yX0_isTraveller, Cond.methodLink RX0 93 yX0_searchOn, Cond.instanceMethod yX0_searchOn, Cond.selects RX0 yX0_searchOn yX0_searchOn, Cond.code yX0_searchOn cX0_searchOn 3 none, Cond.methodLink RX0 58 Lib.Math.max.name]
def wsL_minutesUntilAsleep_r4 : List Cond := [Cond.static Lib.Math.max.name, Cond.code Lib.Math.max.name Lib.Math.max.code 2 (some .int), Cond.methodLink RX0 109 yX0_finds, Cond.instanceMethod yX0_finds, Cond.selects RX0 yX0_finds yX0_finds, Cond.code yX0_finds cX0_finds 4 (some .boolean), Cond.methodLink RX0 68 yX0_hiddenDreams, Cond.instanceMethod yX0_hiddenDreams, Cond.selects RX0 yX0_hiddenDreams yX0_hiddenDreams, Cond.code yX0_hiddenDreams cX0_hiddenDreams 2 (some .int), Cond.methodLink RX0 97 yX0_firstWaiting, Cond.instanceMethod yX0_firstWaiting, Cond.selects RX0 yX0_firstWaiting yX0_firstWaiting, Cond.code yX0_firstWaiting cX0_firstWaiting 2 (some .int), Cond.methodLink RX0 100 yX0_beginSearch, Cond.instanceMethod yX0_beginSearch, Cond.selects RX0 yX0_beginSearch yX0_beginSearch, Cond.code yX0_beginSearch cX0_beginSearch 3 none, Cond.methodLink RX0 106 yX0_searchMinutes, Cond.instanceMethod yX0_searchMinutes, Cond.selects RX0 yX0_searchMinutes yX0_searchMinutes, Cond.code yX0_searchMinutes cX0_searchMinutes 2 (some .int), Cond.methodLink RX0 64 yX0_addedSnores, Cond.instanceMethod yX0_addedSnores]
def wsL_minutesUntilAsleep_r5 : List Cond := [Cond.selects RX0 yX0_addedSnores yX0_addedSnores, Cond.code yX0_addedSnores cX0_addedSnores 3 (some .int), Cond.methodLink RX1 120 yX1_foreseenSleep, Cond.instanceMethod yX1_foreseenSleep, Cond.selects RX1 yX1_foreseenSleep yX1_foreseenSleep, Cond.code yX1_foreseenSleep cX1_foreseenSleep 2 (some .int), Cond.fieldLink RX1 91 "SleepBorder$Border" "state" "[I", Cond.fieldLink RX1 201 "SleepBorder$Border" "asleepSince" "[I", Cond.fieldLink RX1 75 "SleepBorder$Border" "clock" "I"]
def wsL_minutesUntilAsleep : List Cond := .codeWith yL_minutesUntilAsleep cL_minutesUntilAsleep 4 (some .int) [(0, 9, 12, 25)] :: ((wsL_minutesUntilAsleep_r1 ++ (wsL_minutesUntilAsleep_r2 ++ (wsL_minutesUntilAsleep_r3 ++ (wsL_minutesUntilAsleep_r4 ++ wsL_minutesUntilAsleep_r5)))) ++ wsX10 ++ wsX00 ++ (vx_atS RX1 212 "java/lang/IndexOutOfBoundsException" ["java/lang/RuntimeException", "java/lang/Exception"]).filter goodWord)
def wsL_asleepIn_r1 : List Cond := [Cond.classLink RL 19 "java/lang/IllegalArgumentException", Cond.methodLink RL 68 yX1_asleepIn, Cond.instanceMethod yX1_asleepIn, Cond.selects RX1 yX1_asleepIn yX1_asleepIn, Cond.initialized RX1, Cond.code yX1_asleepIn cX1_asleepIn 2 (some .int), Cond.fieldLink RX1 16 "SleepBorder" "trial" "LSleepBorder$Border;", Cond.fieldLink RX1 10 "SleepBorder" "now" "LSleepBorder$Border;", Cond.methodLink RX1 37 yX1_requireMinutes, Cond.static yX1_requireMinutes, Cond.code yX1_requireMinutes cX1_requireMinutes 1 none, Cond.classLink RX1 218 "java/lang/IllegalArgumentException", Cond.initialized "java/lang/IllegalArgumentException", Cond.methodLink RX1 113 yX0_become, Cond.instanceMethod yX0_become, Cond.selects RX0 yX0_become yX0_become, Cond.initialized RX0, Cond.code yX0_become cX0_become 3 none, Cond.fieldLink RX0 9 "SleepBorder$Border" "clock" "I", Cond.fieldLink RX0 15 "SleepBorder$Border" "expiredCount" "I", Cond.fieldLink RX0 18 "SleepBorder$Border" "till" "I", Cond.fieldLink RX0 21 "SleepBorder$Border" "travellerCount" "I", Cond.fieldLink RX0 24 "SleepBorder$Border" "dreams" "[I", Cond.fieldLink RX0 28 "SleepBorder$Border" "declared" "[I"]
def wsL_asleepIn_r2 : List Cond := [Cond.fieldLink RX0 31 "SleepBorder$Border" "snore" "[I", Cond.fieldLink RX0 34 "SleepBorder$Border" "lullaby" "[I", Cond.fieldLink RX0 37 "SleepBorder$Border" "state" "[I", Cond.fieldLink RX0 40 "SleepBorder$Border" "transitLeft" "[I", Cond.fieldLink RX0 43 "SleepBorder$Border" "asleepSince" "[I", Cond.fieldLink RX0 46 "SleepBorder$Border" "guardCount" "I", Cond.fieldLink RX0 49 "SleepBorder$Border" "alertness" "[I", Cond.fieldLink RX0 52 "SleepBorder$Border" "searched" "[I", Cond.fieldLink RX0 55 "SleepBorder$Border" "searchLeft" "[I", Cond.methodLink RX1 117 yX0_goOn, Cond.instanceMethod yX0_goOn, Cond.selects RX0 yX0_goOn yX0_goOn, Cond.code yX0_goOn cX0_goOn 3 none, Cond.methodLink RX0 72 yX0_isSettled, Cond.instanceMethod yX0_isSettled, Cond.selects RX0 yX0_isSettled yX0_isSettled, Cond.code yX0_isSettled cX0_isSettled 2 (some .boolean), Cond.methodLink RX0 76 yX0_goOneMinute, Cond.instanceMethod yX0_goOneMinute, Cond.selects RX0 yX0_goOneMinute yX0_goOneMinute, Cond.code yX0_goOneMinute cX0_goOneMinute 2 none, Cond.methodLink RX0 79 yX0_advanceTransits, Cond.instanceMethod yX0_advanceTransits, Cond.selects RX0 yX0_advanceTransits yX0_advanceTransits]
def wsL_asleepIn_r3 : List Cond := [Cond.code yX0_advanceTransits cX0_advanceTransits 2 none, Cond.methodLink RX0 82 yX0_shortenLullabies, Cond.instanceMethod yX0_shortenLullabies, Cond.selects RX0 yX0_shortenLullabies yX0_shortenLullabies, Cond.code yX0_shortenLullabies cX0_shortenLullabies 2 none, Cond.methodLink RX0 85 yX0_work, Cond.instanceMethod yX0_work, Cond.selects RX0 yX0_work yX0_work, Cond.code yX0_work cX0_work 4 none, Cond.methodLink RX0 103 Lib.Math.min.name, Cond.static Lib.Math.min.name, Cond.initialized "java/lang/Math", Cond.code Lib.Math.min.name Lib.Math.min.code 2 (some .int), Cond.methodLink RX0 89 yX0_isTraveller, Cond.instanceMethod yX0_isTraveller, Cond.selects RX0 yX0_isTraveller yX0_isTraveller, Cond.code yX0_isTraveller cX0_isTraveller 2 (some .boolean), Cond.methodLink RX0 93 yX0_searchOn, Cond.instanceMethod yX0_searchOn, Cond.selects RX0 yX0_searchOn yX0_searchOn, Cond.code yX0_searchOn cX0_searchOn 3 none, Cond.methodLink RX0 58 Lib.Math.max.name, Cond.static Lib.Math.max.name, Cond.code Lib.Math.max.name Lib.Math.max.code 2 (some .int)]
def wsL_asleepIn_r4 : List Cond := [Cond.methodLink RX0 109 yX0_finds, Cond.instanceMethod yX0_finds, Cond.selects RX0 yX0_finds yX0_finds, Cond.code yX0_finds cX0_finds 4 (some .boolean), Cond.methodLink RX0 68 yX0_hiddenDreams, Cond.instanceMethod yX0_hiddenDreams, Cond.selects RX0 yX0_hiddenDreams yX0_hiddenDreams, Cond.code yX0_hiddenDreams cX0_hiddenDreams 2 (some .int), Cond.methodLink RX0 97 yX0_firstWaiting, Cond.instanceMethod yX0_firstWaiting, Cond.selects RX0 yX0_firstWaiting yX0_firstWaiting, Cond.code yX0_firstWaiting cX0_firstWaiting 2 (some .int), Cond.methodLink RX0 100 yX0_beginSearch, Cond.instanceMethod yX0_beginSearch, Cond.selects RX0 yX0_beginSearch yX0_beginSearch, Cond.code yX0_beginSearch cX0_beginSearch 3 none, Cond.methodLink RX0 106 yX0_searchMinutes, Cond.instanceMethod yX0_searchMinutes, Cond.selects RX0 yX0_searchMinutes yX0_searchMinutes, Cond.code yX0_searchMinutes cX0_searchMinutes 2 (some .int), Cond.methodLink RX0 64 yX0_addedSnores, Cond.instanceMethod yX0_addedSnores, Cond.selects RX0 yX0_addedSnores yX0_addedSnores, Cond.code yX0_addedSnores cX0_addedSnores 3 (some .int)]
def wsL_asleepIn_r5 : List Cond := [Cond.methodLink RX1 68 yX0_countIn, Cond.instanceMethod yX0_countIn, Cond.selects RX0 yX0_countIn yX0_countIn, Cond.code yX0_countIn cX0_countIn 4 (some .int)]
def wsL_asleepIn : List Cond := .codeWith yL_asleepIn cL_asleepIn 4 (some .int) [(0, 9, 12, 19)] :: ((wsL_asleepIn_r1 ++ (wsL_asleepIn_r2 ++ (wsL_asleepIn_r3 ++ (wsL_asleepIn_r4 ++ wsL_asleepIn_r5)))) ++ wsX10 ++ wsX00 ++ (vx_atS RX1 222 "java/lang/IllegalArgumentException" ["java/lang/RuntimeException", "java/lang/Exception"]).filter goodWord)
def wsL_bestToDeclare_r1 : List Cond := [Cond.classLink RL 25 "java/lang/IndexOutOfBoundsException", Cond.methodLink RL 71 yX1_bestToDeclare, Cond.instanceMethod yX1_bestToDeclare, Cond.selects RX1 yX1_bestToDeclare yX1_bestToDeclare, Cond.initialized RX1, Cond.code yX1_bestToDeclare cX1_bestToDeclare 6 (some .int), Cond.fieldLink RX1 10 "SleepBorder" "now" "LSleepBorder$Border;", Cond.fieldLink RX1 91 "SleepBorder$Border" "state" "[I", Cond.fieldLink RX1 16 "SleepBorder" "trial" "LSleepBorder$Border;", Cond.fieldLink RX1 55 "SleepBorder$Border" "declared" "[I", Cond.methodLink RX1 49 yX1_requireTraveller, Cond.instanceMethod yX1_requireTraveller, Cond.selects RX1 yX1_requireTraveller yX1_requireTraveller, Cond.code yX1_requireTraveller cX1_requireTraveller 2 none, Cond.classLink RX1 208 "java/lang/IndexOutOfBoundsException", Cond.initialized "java/lang/IndexOutOfBoundsException", Cond.methodLink RX1 204 yX0_isTraveller, Cond.instanceMethod yX0_isTraveller, Cond.selects RX0 yX0_isTraveller yX0_isTraveller, Cond.initialized RX0, Cond.code yX0_isTraveller cX0_isTraveller 2 (some .boolean), Cond.fieldLink RX0 21 "SleepBorder$Border" "travellerCount" "I", Cond.methodLink RX1 113 yX0_become, Cond.instanceMethod yX0_become]
def wsL_bestToDeclare_r2 : List Cond := [Cond.selects RX0 yX0_become yX0_become, Cond.code yX0_become cX0_become 3 none, Cond.fieldLink RX0 9 "SleepBorder$Border" "clock" "I", Cond.fieldLink RX0 15 "SleepBorder$Border" "expiredCount" "I", Cond.fieldLink RX0 18 "SleepBorder$Border" "till" "I", Cond.fieldLink RX0 24 "SleepBorder$Border" "dreams" "[I", Cond.fieldLink RX0 28 "SleepBorder$Border" "declared" "[I", Cond.fieldLink RX0 31 "SleepBorder$Border" "snore" "[I", Cond.fieldLink RX0 34 "SleepBorder$Border" "lullaby" "[I", Cond.fieldLink RX0 37 "SleepBorder$Border" "state" "[I", Cond.fieldLink RX0 40 "SleepBorder$Border" "transitLeft" "[I", Cond.fieldLink RX0 43 "SleepBorder$Border" "asleepSince" "[I", Cond.fieldLink RX0 46 "SleepBorder$Border" "guardCount" "I", Cond.fieldLink RX0 49 "SleepBorder$Border" "alertness" "[I", Cond.fieldLink RX0 52 "SleepBorder$Border" "searched" "[I", Cond.fieldLink RX0 55 "SleepBorder$Border" "searchLeft" "[I", Cond.methodLink RX1 117 yX0_goOn, Cond.instanceMethod yX0_goOn, Cond.selects RX0 yX0_goOn yX0_goOn, Cond.code yX0_goOn cX0_goOn 3 none, Cond.methodLink RX0 72 yX0_isSettled, Cond.instanceMethod yX0_isSettled, Cond.selects RX0 yX0_isSettled yX0_isSettled, Cond.code yX0_isSettled cX0_isSettled 2 (some .boolean)]
def wsL_bestToDeclare_r3 : List Cond := [Cond.methodLink RX0 76 yX0_goOneMinute, Cond.instanceMethod yX0_goOneMinute, Cond.selects RX0 yX0_goOneMinute yX0_goOneMinute, Cond.code yX0_goOneMinute cX0_goOneMinute 2 none, Cond.methodLink RX0 79 yX0_advanceTransits, Cond.instanceMethod yX0_advanceTransits, Cond.selects RX0 yX0_advanceTransits yX0_advanceTransits, Cond.code yX0_advanceTransits cX0_advanceTransits 2 none, Cond.methodLink RX0 82 yX0_shortenLullabies, Cond.instanceMethod yX0_shortenLullabies, Cond.selects RX0 yX0_shortenLullabies yX0_shortenLullabies, Cond.code yX0_shortenLullabies cX0_shortenLullabies 2 none, Cond.methodLink RX0 85 yX0_work, Cond.instanceMethod yX0_work, Cond.selects RX0 yX0_work yX0_work, Cond.code yX0_work cX0_work 4 none, Cond.methodLink RX0 103 Lib.Math.min.name, Cond.static Lib.Math.min.name, Cond.initialized "java/lang/Math", Cond.code Lib.Math.min.name Lib.Math.min.code 2 (some .int), Cond.methodLink RX0 89 yX0_isTraveller, Cond.methodLink RX0 93 yX0_searchOn, Cond.instanceMethod yX0_searchOn, Cond.selects RX0 yX0_searchOn yX0_searchOn]
def wsL_bestToDeclare_r4 : List Cond := [Cond.code yX0_searchOn cX0_searchOn 3 none, Cond.methodLink RX0 58 Lib.Math.max.name, Cond.static Lib.Math.max.name, Cond.code Lib.Math.max.name Lib.Math.max.code 2 (some .int), Cond.methodLink RX0 109 yX0_finds, Cond.instanceMethod yX0_finds, Cond.selects RX0 yX0_finds yX0_finds, Cond.code yX0_finds cX0_finds 4 (some .boolean), Cond.methodLink RX0 68 yX0_hiddenDreams, Cond.instanceMethod yX0_hiddenDreams, Cond.selects RX0 yX0_hiddenDreams yX0_hiddenDreams, Cond.code yX0_hiddenDreams cX0_hiddenDreams 2 (some .int), Cond.methodLink RX0 97 yX0_firstWaiting, Cond.instanceMethod yX0_firstWaiting, Cond.selects RX0 yX0_firstWaiting yX0_firstWaiting, Cond.code yX0_firstWaiting cX0_firstWaiting 2 (some .int), Cond.methodLink RX0 100 yX0_beginSearch, Cond.instanceMethod yX0_beginSearch, Cond.selects RX0 yX0_beginSearch yX0_beginSearch, Cond.code yX0_beginSearch cX0_beginSearch 3 none, Cond.methodLink RX0 106 yX0_searchMinutes, Cond.instanceMethod yX0_searchMinutes, Cond.selects RX0 yX0_searchMinutes yX0_searchMinutes, Cond.code yX0_searchMinutes cX0_searchMinutes 2 (some .int)]
def wsL_bestToDeclare_r5 : List Cond := [Cond.methodLink RX0 64 yX0_addedSnores, Cond.instanceMethod yX0_addedSnores, Cond.selects RX0 yX0_addedSnores yX0_addedSnores, Cond.code yX0_addedSnores cX0_addedSnores 3 (some .int), Cond.methodLink RX1 120 yX1_foreseenSleep, Cond.instanceMethod yX1_foreseenSleep, Cond.selects RX1 yX1_foreseenSleep yX1_foreseenSleep, Cond.code yX1_foreseenSleep cX1_foreseenSleep 2 (some .int), Cond.fieldLink RX1 201 "SleepBorder$Border" "asleepSince" "[I", Cond.fieldLink RX1 75 "SleepBorder$Border" "clock" "I"]
def wsL_bestToDeclare : List Cond := .codeWith yL_bestToDeclare cL_bestToDeclare 4 (some .int) [(0, 9, 12, 25)] :: ((wsL_bestToDeclare_r1 ++ (wsL_bestToDeclare_r2 ++ (wsL_bestToDeclare_r3 ++ (wsL_bestToDeclare_r4 ++ wsL_bestToDeclare_r5)))) ++ wsX10 ++ wsX00 ++ (vx_atS RX1 212 "java/lang/IndexOutOfBoundsException" ["java/lang/RuntimeException", "java/lang/Exception"]).filter goodWord)
def wsL_law0_r1 : List Cond := [Cond.classLink RL 8 RX1, Cond.instantiable RX1 2, Cond.initialized RX1, Cond.classLink RL 75 RX2, Cond.instantiable RX2 7, Cond.initialized RX2, Cond.arrayClass .long, Cond.methodLink RL 74 yX1_init, Cond.instanceMethod yX1_init, Cond.code yX1_init cX1_init 1 none, Cond.methodLink RX1 1 objectInit, Cond.instanceMethod objectInit, Cond.code objectInit ⟨#[0xb1]⟩ 1 none, Cond.classLink RX1 7 RX0, Cond.instantiable RX0 15, Cond.initialized RX0, Cond.fieldLink RX1 10 "SleepBorder" "now" "LSleepBorder$Border;", Cond.fieldLink RX1 16 "SleepBorder" "trial" "LSleepBorder$Border;", Cond.instanceMethod yX0_init, Cond.code yX0_init cX0_init 1 none, Cond.methodLink RX0 3 objectInit, Cond.fieldLink RX0 9 "SleepBorder$Border" "clock" "I", Cond.fieldLink RX0 15 "SleepBorder$Border" "expiredCount" "I", Cond.fieldLink RX0 18 "SleepBorder$Border" "till" "I"]
def wsL_law0_r2 : List Cond := [Cond.fieldLink RX0 21 "SleepBorder$Border" "travellerCount" "I", Cond.arrayClass .int, Cond.fieldLink RX0 24 "SleepBorder$Border" "dreams" "[I", Cond.fieldLink RX0 28 "SleepBorder$Border" "declared" "[I", Cond.fieldLink RX0 31 "SleepBorder$Border" "snore" "[I", Cond.fieldLink RX0 34 "SleepBorder$Border" "lullaby" "[I", Cond.fieldLink RX0 37 "SleepBorder$Border" "state" "[I", Cond.fieldLink RX0 40 "SleepBorder$Border" "transitLeft" "[I", Cond.fieldLink RX0 43 "SleepBorder$Border" "asleepSince" "[I", Cond.fieldLink RX0 46 "SleepBorder$Border" "guardCount" "I", Cond.fieldLink RX0 49 "SleepBorder$Border" "alertness" "[I", Cond.fieldLink RX0 52 "SleepBorder$Border" "searched" "[I", Cond.fieldLink RX0 55 "SleepBorder$Border" "searchLeft" "[I", Cond.methodLink RL 77 yX2_init, Cond.instanceMethod yX2_init, Cond.code yX2_init cX2_init 1 none, Cond.methodLink RX2 1 objectInit, Cond.fieldLink RX2 9 "SleepBorderModel" "dreams" "[I", Cond.fieldLink RX2 13 "SleepBorderModel" "snore" "[I", Cond.fieldLink RX2 16 "SleepBorderModel" "now" "[I", Cond.fieldLink RX2 19 "SleepBorderModel" "kept" "[I", Cond.arrayClass .boolean, Cond.fieldLink RX2 22 "SleepBorderModel" "free" "[Z", Cond.methodLink RL 78 yL_addGuard]
def wsL_law0_r3 : List Cond := [Cond.static yL_addGuard, Cond.initialized RL, Cond.codeWith yL_addGuard cL_addGuard 3 (some .int) [(0, 8, 11, 13)], Cond.classLink RL 13 "java/lang/IllegalStateException", Cond.methodLink RL 7 yX1_addGuard, Cond.instanceMethod yX1_addGuard, Cond.selects RX1 yX1_addGuard yX1_addGuard, Cond.code yX1_addGuard cX1_addGuard 1 (some .int), Cond.classLink RX1 23 "java/lang/IllegalStateException", Cond.initialized "java/lang/IllegalStateException", Cond.fieldLink RX1 19 "SleepBorder$Border" "guardCount" "I", Cond.methodLink RX1 30 yX0_admitGuard, Cond.instanceMethod yX0_admitGuard, Cond.selects RX0 yX0_admitGuard yX0_admitGuard, Cond.code yX0_admitGuard cX0_admitGuard 1 none, Cond.methodLink RL 83 yX2_addGuard, Cond.instanceMethod yX2_addGuard, Cond.selects RX2 yX2_addGuard yX2_addGuard, Cond.code yX2_addGuard cX2_addGuard 1 (some .int), Cond.fieldLink RX2 26 "SleepBorderModel" "thrown" "I", Cond.methodLink RX2 99 yX2_fail, Cond.instanceMethod yX2_fail, Cond.selects RX2 yX2_fail yX2_fail, Cond.code yX2_fail cX2_fail 2 (some .int)]
def wsL_law0_r4 : List Cond := [Cond.methodLink RX2 102 yX2_hire, Cond.instanceMethod yX2_hire, Cond.selects RX2 yX2_hire yX2_hire, Cond.code yX2_hire cX2_hire 2 none, Cond.methodLink RX2 67 yX2_post, Cond.instanceMethod yX2_post, Cond.selects RX2 yX2_post yX2_post, Cond.code yX2_post cX2_post 4 none, Cond.methodLink RL 84 yX2_thrown, Cond.instanceMethod yX2_thrown, Cond.selects RX2 yX2_thrown yX2_thrown, Cond.code yX2_thrown cX2_thrown 1 (some .int), Cond.methodLink RL 87 yL_arrive, Cond.static yL_arrive, Cond.codeWith yL_arrive cL_arrive 7 (some .int) [(0, 14, 17, 19), (0, 14, 21, 13)], Cond.classLink RL 19 "java/lang/IllegalArgumentException", Cond.methodLink RL 15 yX1_arrive, Cond.instanceMethod yX1_arrive, Cond.selects RX1 yX1_arrive yX1_arrive, Cond.code yX1_arrive cX1_arrive 5 (some .int), Cond.fieldLink RX1 40 "SleepBorder$Border" "travellerCount" "I", Cond.methodLink RX1 33 yX1_requireDigit, Cond.static yX1_requireDigit, Cond.code yX1_requireDigit cX1_requireDigit 1 none]
def wsL_law0_r5 : List Cond := [Cond.classLink RX1 218 "java/lang/IllegalArgumentException", Cond.initialized "java/lang/IllegalArgumentException", Cond.methodLink RX1 37 yX1_requireMinutes, Cond.static yX1_requireMinutes, Cond.code yX1_requireMinutes cX1_requireMinutes 1 none, Cond.methodLink RX1 45 yX0_admitTraveller, Cond.instanceMethod yX0_admitTraveller, Cond.selects RX0 yX0_admitTraveller yX0_admitTraveller, Cond.code yX0_admitTraveller cX0_admitTraveller 5 none, Cond.methodLink RL 90 yX2_arrive, Cond.instanceMethod yX2_arrive, Cond.selects RX2 yX2_arrive yX2_arrive, Cond.code yX2_arrive cX2_arrive 5 (some .int), Cond.fieldLink RX2 30 "SleepBorderModel" "travellers" "I", Cond.methodLink RX2 33 yX2_isIn, Cond.static yX2_isIn, Cond.code yX2_isIn cX2_isIn 3 (some .boolean), Cond.methodLink RX2 63 yX2_let, Cond.instanceMethod yX2_let, Cond.selects RX2 yX2_let yX2_let, Cond.code yX2_let cX2_let 4 none, Cond.methodLink RL 91 yL_declare, Cond.static yL_declare, Cond.codeWith yL_declare cL_declare 5 (some .int) [(0, 10, 13, 25), (0, 10, 17, 19), (0, 10, 21, 13)]]
def wsL_law0_r6 : List Cond := [Cond.classLink RL 25 "java/lang/IndexOutOfBoundsException", Cond.methodLink RL 21 yX1_declare, Cond.instanceMethod yX1_declare, Cond.selects RX1 yX1_declare yX1_declare, Cond.code yX1_declare cX1_declare 4 (some .int), Cond.fieldLink RX1 55 "SleepBorder$Border" "declared" "[I", Cond.methodLink RX1 49 yX1_requireTraveller, Cond.instanceMethod yX1_requireTraveller, Cond.selects RX1 yX1_requireTraveller yX1_requireTraveller, Cond.code yX1_requireTraveller cX1_requireTraveller 2 none, Cond.classLink RX1 208 "java/lang/IndexOutOfBoundsException", Cond.initialized "java/lang/IndexOutOfBoundsException", Cond.methodLink RX1 204 yX0_isTraveller, Cond.instanceMethod yX0_isTraveller, Cond.selects RX0 yX0_isTraveller yX0_isTraveller, Cond.code yX0_isTraveller cX0_isTraveller 2 (some .boolean), Cond.methodLink RX1 52 yX1_requireWaiting, Cond.instanceMethod yX1_requireWaiting, Cond.selects RX1 yX1_requireWaiting yX1_requireWaiting, Cond.code yX1_requireWaiting cX1_requireWaiting 2 none, Cond.fieldLink RX1 91 "SleepBorder$Border" "state" "[I", Cond.methodLink RL 94 yX2_declare, Cond.instanceMethod yX2_declare, Cond.selects RX2 yX2_declare yX2_declare]
def wsL_law0_r7 : List Cond := [Cond.code yX2_declare cX2_declare 3 (some .int), Cond.methodLink RX2 109 yX2_write, Cond.instanceMethod yX2_write, Cond.selects RX2 yX2_write yX2_write, Cond.code yX2_write cX2_write 7 (some .int), Cond.methodLink RX2 105 yX2_isTraveller, Cond.instanceMethod yX2_isTraveller, Cond.selects RX2 yX2_isTraveller yX2_isTraveller, Cond.code yX2_isTraveller cX2_isTraveller 2 (some .boolean), Cond.methodLink RX2 43 yX2_tr, Cond.instanceMethod yX2_tr, Cond.selects RX2 yX2_tr yX2_tr, Cond.code yX2_tr cX2_tr 3 (some .int), Cond.methodLink RL 95 yL_sing, Cond.static yL_sing, Cond.codeWith yL_sing cL_sing 5 (some .int) [(0, 10, 13, 25), (0, 10, 17, 19), (0, 10, 21, 13)], Cond.methodLink RL 27 yX1_sing, Cond.instanceMethod yX1_sing, Cond.selects RX1 yX1_sing yX1_sing, Cond.code yX1_sing cX1_sing 4 (some .int), Cond.fieldLink RX1 59 "SleepBorder$Border" "lullaby" "[I", Cond.methodLink RL 97 yX2_sing, Cond.instanceMethod yX2_sing, Cond.selects RX2 yX2_sing yX2_sing]
def wsL_law0_r8 : List Cond := [Cond.code yX2_sing cX2_sing 3 (some .int), Cond.methodLink RL 98 yL_wake, Cond.static yL_wake, Cond.codeWith yL_wake cL_wake 4 (some .int) [(0, 9, 12, 25)], Cond.methodLink RL 30 yX1_wake, Cond.instanceMethod yX1_wake, Cond.selects RX1 yX1_wake yX1_wake, Cond.code yX1_wake cX1_wake 3 (some .int), Cond.fieldLink RX1 65 "SleepBorder$Border" "alertness" "[I", Cond.methodLink RX1 62 yX1_requireGuard, Cond.instanceMethod yX1_requireGuard, Cond.selects RX1 yX1_requireGuard yX1_requireGuard, Cond.code yX1_requireGuard cX1_requireGuard 2 none, Cond.methodLink RX1 213 yX0_isGuard, Cond.instanceMethod yX0_isGuard, Cond.selects RX0 yX0_isGuard yX0_isGuard, Cond.code yX0_isGuard cX0_isGuard 2 (some .boolean), Cond.methodLink RL 101 yX2_wake, Cond.instanceMethod yX2_wake, Cond.selects RX2 yX2_wake yX2_wake, Cond.code yX2_wake cX2_wake 3 (some .int), Cond.methodLink RX2 113 yX2_isGuard, Cond.instanceMethod yX2_isGuard, Cond.selects RX2 yX2_isGuard yX2_isGuard]
def wsL_law0_r9 : List Cond := [Cond.code yX2_isGuard cX2_isGuard 2 (some .boolean), Cond.methodLink RX2 56 yX2_gu, Cond.instanceMethod yX2_gu, Cond.selects RX2 yX2_gu yX2_gu, Cond.code yX2_gu cX2_gu 3 (some .int), Cond.methodLink RL 102 yL_pass, Cond.static yL_pass, Cond.codeWith yL_pass cL_pass 4 (some .int) [(0, 9, 12, 19)], Cond.methodLink RL 34 yX1_pass, Cond.instanceMethod yX1_pass, Cond.selects RX1 yX1_pass yX1_pass, Cond.code yX1_pass cX1_pass 4 (some .int), Cond.methodLink RX1 68 yX0_countIn, Cond.instanceMethod yX0_countIn, Cond.selects RX0 yX0_countIn yX0_countIn, Cond.code yX0_countIn cX0_countIn 4 (some .int), Cond.methodLink RX1 72 yX0_goOneMinute, Cond.instanceMethod yX0_goOneMinute, Cond.selects RX0 yX0_goOneMinute yX0_goOneMinute, Cond.code yX0_goOneMinute cX0_goOneMinute 2 none, Cond.methodLink RX0 79 yX0_advanceTransits, Cond.instanceMethod yX0_advanceTransits, Cond.selects RX0 yX0_advanceTransits yX0_advanceTransits, Cond.code yX0_advanceTransits cX0_advanceTransits 2 none]
def wsL_law0_r10 : List Cond := [Cond.methodLink RX0 82 yX0_shortenLullabies, Cond.instanceMethod yX0_shortenLullabies, Cond.selects RX0 yX0_shortenLullabies yX0_shortenLullabies, Cond.code yX0_shortenLullabies cX0_shortenLullabies 2 none, Cond.methodLink RX0 85 yX0_work, Cond.instanceMethod yX0_work, Cond.selects RX0 yX0_work yX0_work, Cond.code yX0_work cX0_work 4 none, Cond.methodLink RX0 103 Lib.Math.min.name, Cond.static Lib.Math.min.name, Cond.initialized "java/lang/Math", Cond.code Lib.Math.min.name Lib.Math.min.code 2 (some .int), Cond.methodLink RX0 89 yX0_isTraveller, Cond.methodLink RX0 93 yX0_searchOn, Cond.instanceMethod yX0_searchOn, Cond.selects RX0 yX0_searchOn yX0_searchOn, Cond.code yX0_searchOn cX0_searchOn 3 none, Cond.methodLink RX0 58 Lib.Math.max.name, Cond.static Lib.Math.max.name, Cond.code Lib.Math.max.name Lib.Math.max.code 2 (some .int), Cond.methodLink RX0 109 yX0_finds, Cond.instanceMethod yX0_finds, Cond.selects RX0 yX0_finds yX0_finds, Cond.code yX0_finds cX0_finds 4 (some .boolean)]
def wsL_law0_r11 : List Cond := [Cond.methodLink RX0 68 yX0_hiddenDreams, Cond.instanceMethod yX0_hiddenDreams, Cond.selects RX0 yX0_hiddenDreams yX0_hiddenDreams, Cond.code yX0_hiddenDreams cX0_hiddenDreams 2 (some .int), Cond.methodLink RX0 97 yX0_firstWaiting, Cond.instanceMethod yX0_firstWaiting, Cond.selects RX0 yX0_firstWaiting yX0_firstWaiting, Cond.code yX0_firstWaiting cX0_firstWaiting 2 (some .int), Cond.methodLink RX0 100 yX0_beginSearch, Cond.instanceMethod yX0_beginSearch, Cond.selects RX0 yX0_beginSearch yX0_beginSearch, Cond.code yX0_beginSearch cX0_beginSearch 3 none, Cond.methodLink RX0 106 yX0_searchMinutes, Cond.instanceMethod yX0_searchMinutes, Cond.selects RX0 yX0_searchMinutes yX0_searchMinutes, Cond.code yX0_searchMinutes cX0_searchMinutes 2 (some .int), Cond.methodLink RX0 64 yX0_addedSnores, Cond.instanceMethod yX0_addedSnores, Cond.selects RX0 yX0_addedSnores yX0_addedSnores, Cond.code yX0_addedSnores cX0_addedSnores 3 (some .int), Cond.methodLink RL 104 yX2_pass, Cond.instanceMethod yX2_pass, Cond.selects RX2 yX2_pass yX2_pass, Cond.code yX2_pass cX2_pass 3 (some .int)]
def wsL_law0_r12 : List Cond := [Cond.methodLink RX2 116 yX2_count, Cond.instanceMethod yX2_count, Cond.selects RX2 yX2_count yX2_count, Cond.code yX2_count cX2_count 4 (some .int), Cond.methodLink RX2 119 yX2_minutesOn, Cond.instanceMethod yX2_minutesOn, Cond.selects RX2 yX2_minutesOn yX2_minutesOn, Cond.code yX2_minutesOn cX2_minutesOn 3 none, Cond.methodLink RX2 96 yX2_minuteOn, Cond.instanceMethod yX2_minuteOn, Cond.selects RX2 yX2_minuteOn yX2_minuteOn, Cond.code yX2_minuteOn cX2_minuteOn 2 none, Cond.methodLink RX2 83 yX2_travel, Cond.instanceMethod yX2_travel, Cond.selects RX2 yX2_travel yX2_travel, Cond.code yX2_travel cX2_travel 2 none, Cond.methodLink RX2 87 yX2_listen, Cond.instanceMethod yX2_listen, Cond.selects RX2 yX2_listen yX2_listen, Cond.code yX2_listen cX2_listen 2 none, Cond.methodLink RX2 90 yX2_begin, Cond.instanceMethod yX2_begin, Cond.selects RX2 yX2_begin yX2_begin, Cond.code yX2_begin cX2_begin 3 none]
def wsL_law0_r13 : List Cond := [Cond.methodLink RX2 77 Lib.Math.min.name, Cond.methodLink RX2 74 yX2_first, Cond.instanceMethod yX2_first, Cond.selects RX2 yX2_first yX2_first, Cond.code yX2_first cX2_first 2 (some .int), Cond.methodLink RX2 80 yX2_takes, Cond.instanceMethod yX2_takes, Cond.selects RX2 yX2_takes yX2_takes, Cond.code yX2_takes cX2_takes 2 (some .int), Cond.methodLink RX2 59 yX2_loud, Cond.instanceMethod yX2_loud, Cond.selects RX2 yX2_loud yX2_loud, Cond.code yX2_loud cX2_loud 3 (some .int), Cond.methodLink RX2 93 yX2_searchOn, Cond.instanceMethod yX2_searchOn, Cond.selects RX2 yX2_searchOn yX2_searchOn, Cond.code yX2_searchOn cX2_searchOn 4 none, Cond.methodLink RX2 47 Lib.Math.max.name, Cond.methodLink RX2 70 yX2_finds, Cond.instanceMethod yX2_finds, Cond.selects RX2 yX2_finds yX2_finds, Cond.code yX2_finds cX2_finds 3 (some .boolean), Cond.methodLink RX2 52 yX2_hidden, Cond.instanceMethod yX2_hidden]
def wsL_law0_r14 : List Cond := [Cond.selects RX2 yX2_hidden yX2_hidden, Cond.code yX2_hidden cX2_hidden 2 (some .int), Cond.methodLink RL 105 yX1_minute, Cond.instanceMethod yX1_minute, Cond.selects RX1 yX1_minute yX1_minute, Cond.code yX1_minute cX1_minute 1 (some .int), Cond.fieldLink RX1 75 "SleepBorder$Border" "clock" "I", Cond.methodLink RL 108 yX2_minute, Cond.instanceMethod yX2_minute, Cond.selects RX2 yX2_minute yX2_minute, Cond.code yX2_minute cX2_minute 1 (some .int), Cond.methodLink RX2 122 yX2_told, Cond.instanceMethod yX2_told, Cond.selects RX2 yX2_told yX2_told, Cond.code yX2_told cX2_told 2 (some .int), Cond.methodLink RL 109 yX1_travellers, Cond.instanceMethod yX1_travellers, Cond.selects RX1 yX1_travellers yX1_travellers, Cond.code yX1_travellers cX1_travellers 1 (some .int), Cond.methodLink RL 112 yX2_travellers, Cond.instanceMethod yX2_travellers, Cond.selects RX2 yX2_travellers yX2_travellers, Cond.code yX2_travellers cX2_travellers 1 (some .int), Cond.methodLink RL 113 yX1_waiting]
def wsL_law0_r15 : List Cond := [Cond.instanceMethod yX1_waiting, Cond.selects RX1 yX1_waiting yX1_waiting, Cond.code yX1_waiting cX1_waiting 1 (some .int), Cond.methodLink RL 116 yX2_waiting, Cond.instanceMethod yX2_waiting, Cond.selects RX2 yX2_waiting yX2_waiting, Cond.code yX2_waiting cX2_waiting 1 (some .int), Cond.methodLink RL 117 yX1_asleep, Cond.instanceMethod yX1_asleep, Cond.selects RX1 yX1_asleep yX1_asleep, Cond.code yX1_asleep cX1_asleep 1 (some .int), Cond.methodLink RL 120 yX2_asleep, Cond.instanceMethod yX2_asleep, Cond.selects RX2 yX2_asleep yX2_asleep, Cond.code yX2_asleep cX2_asleep 1 (some .int), Cond.methodLink RL 121 yX1_sentBack, Cond.instanceMethod yX1_sentBack, Cond.selects RX1 yX1_sentBack yX1_sentBack, Cond.code yX1_sentBack cX1_sentBack 1 (some .int), Cond.methodLink RL 124 yX2_sentBack, Cond.instanceMethod yX2_sentBack, Cond.selects RX2 yX2_sentBack yX2_sentBack, Cond.code yX2_sentBack cX2_sentBack 1 (some .int), Cond.methodLink RL 125 yX1_expired]
def wsL_law0_r16 : List Cond := [Cond.instanceMethod yX1_expired, Cond.selects RX1 yX1_expired yX1_expired, Cond.code yX1_expired cX1_expired 1 (some .int), Cond.fieldLink RX1 78 "SleepBorder$Border" "expiredCount" "I", Cond.methodLink RL 128 yX2_expired, Cond.instanceMethod yX2_expired, Cond.selects RX2 yX2_expired yX2_expired, Cond.code yX2_expired cX2_expired 1 (some .int), Cond.methodLink RL 129 yX1_paid, Cond.instanceMethod yX1_paid, Cond.selects RX1 yX1_paid yX1_paid, Cond.code yX1_paid cX1_paid 1 (some .int), Cond.fieldLink RX1 81 "SleepBorder$Border" "till" "I", Cond.methodLink RL 132 yX2_paid, Cond.instanceMethod yX2_paid, Cond.selects RX2 yX2_paid yX2_paid, Cond.code yX2_paid cX2_paid 1 (some .int), Cond.methodLink RL 133 yX1_noise, Cond.instanceMethod yX1_noise, Cond.selects RX1 yX1_noise yX1_noise, Cond.code yX1_noise cX1_noise 1 (some .int), Cond.methodLink RX1 84 yX0_addedSnores, Cond.methodLink RL 136 yX2_noise, Cond.instanceMethod yX2_noise]
def wsL_law0_r17 : List Cond := [Cond.selects RX2 yX2_noise yX2_noise, Cond.code yX2_noise cX2_noise 1 (some .int), Cond.methodLink RL 137 yX1_nextInLine, Cond.instanceMethod yX1_nextInLine, Cond.selects RX1 yX1_nextInLine yX1_nextInLine, Cond.code yX1_nextInLine cX1_nextInLine 1 (some .int), Cond.methodLink RX1 88 yX0_firstWaiting, Cond.methodLink RL 140 yX2_nextInLine, Cond.instanceMethod yX2_nextInLine, Cond.selects RX2 yX2_nextInLine yX2_nextInLine, Cond.code yX2_nextInLine cX2_nextInLine 1 (some .int), Cond.methodLink RL 141 yL_stateOf, Cond.static yL_stateOf, Cond.codeWith yL_stateOf cL_stateOf 4 (some .int) [(0, 9, 12, 25)], Cond.methodLink RL 37 yX1_stateOf, Cond.instanceMethod yX1_stateOf, Cond.selects RX1 yX1_stateOf yX1_stateOf, Cond.code yX1_stateOf cX1_stateOf 2 (some .int), Cond.methodLink RL 143 yX2_stateOf, Cond.instanceMethod yX2_stateOf, Cond.selects RX2 yX2_stateOf yX2_stateOf, Cond.code yX2_stateOf cX2_stateOf 2 (some .int), Cond.methodLink RL 144 yL_hiddenOf, Cond.static yL_hiddenOf]
def wsL_law0_r18 : List Cond := [Cond.codeWith yL_hiddenOf cL_hiddenOf 4 (some .int) [(0, 9, 12, 25)], Cond.methodLink RL 40 yX1_hiddenOf, Cond.instanceMethod yX1_hiddenOf, Cond.selects RX1 yX1_hiddenOf yX1_hiddenOf, Cond.code yX1_hiddenOf cX1_hiddenOf 2 (some .int), Cond.methodLink RX1 94 yX0_hiddenDreams, Cond.methodLink RL 146 yX2_hiddenOf, Cond.instanceMethod yX2_hiddenOf, Cond.selects RX2 yX2_hiddenOf yX2_hiddenOf, Cond.code yX2_hiddenOf cX2_hiddenOf 2 (some .int), Cond.methodLink RL 147 yL_lullabyOf, Cond.static yL_lullabyOf, Cond.codeWith yL_lullabyOf cL_lullabyOf 4 (some .int) [(0, 9, 12, 25)], Cond.methodLink RL 43 yX1_lullabyOf, Cond.instanceMethod yX1_lullabyOf, Cond.selects RX1 yX1_lullabyOf yX1_lullabyOf, Cond.code yX1_lullabyOf cX1_lullabyOf 2 (some .int), Cond.methodLink RL 149 yX2_lullabyOf, Cond.instanceMethod yX2_lullabyOf, Cond.selects RX2 yX2_lullabyOf yX2_lullabyOf, Cond.code yX2_lullabyOf cX2_lullabyOf 2 (some .int), Cond.methodLink RL 150 yL_placeInLine, Cond.static yL_placeInLine, Cond.codeWith yL_placeInLine cL_placeInLine 4 (some .int) [(0, 9, 12, 25)]]
def wsL_law0_r19 : List Cond := [Cond.methodLink RL 46 yX1_placeInLine, Cond.instanceMethod yX1_placeInLine, Cond.selects RX1 yX1_placeInLine yX1_placeInLine, Cond.code yX1_placeInLine cX1_placeInLine 2 (some .int), Cond.methodLink RX1 97 yX0_waitingAhead, Cond.instanceMethod yX0_waitingAhead, Cond.selects RX0 yX0_waitingAhead yX0_waitingAhead, Cond.code yX0_waitingAhead cX0_waitingAhead 4 (some .int), Cond.methodLink RL 152 yX2_placeInLine, Cond.instanceMethod yX2_placeInLine, Cond.selects RX2 yX2_placeInLine yX2_placeInLine, Cond.code yX2_placeInLine cX2_placeInLine 2 (some .int), Cond.methodLink RX2 125 yX2_place, Cond.instanceMethod yX2_place, Cond.selects RX2 yX2_place yX2_place, Cond.code yX2_place cX2_place 4 (some .int), Cond.methodLink RL 153 yL_searchTime, Cond.static yL_searchTime, Cond.codeWith yL_searchTime cL_searchTime 4 (some .int) [(0, 9, 12, 25)], Cond.methodLink RL 49 yX1_searchTime, Cond.instanceMethod yX1_searchTime, Cond.selects RX1 yX1_searchTime yX1_searchTime, Cond.code yX1_searchTime cX1_searchTime 2 (some .int), Cond.methodLink RX1 100 yX0_searchMinutes]
def wsL_law0_r20 : List Cond := [Cond.methodLink RL 155 yX2_searchTime, Cond.instanceMethod yX2_searchTime, Cond.selects RX2 yX2_searchTime yX2_searchTime, Cond.code yX2_searchTime cX2_searchTime 2 (some .int), Cond.methodLink RL 156 yX1_guards, Cond.instanceMethod yX1_guards, Cond.selects RX1 yX1_guards yX1_guards, Cond.code yX1_guards cX1_guards 1 (some .int), Cond.methodLink RL 159 yX2_guards, Cond.instanceMethod yX2_guards, Cond.selects RX2 yX2_guards yX2_guards, Cond.code yX2_guards cX2_guards 1 (some .int), Cond.methodLink RL 160 yL_alertnessOf, Cond.static yL_alertnessOf, Cond.codeWith yL_alertnessOf cL_alertnessOf 4 (some .int) [(0, 9, 12, 25)], Cond.methodLink RL 52 yX1_alertnessOf, Cond.instanceMethod yX1_alertnessOf, Cond.selects RX1 yX1_alertnessOf yX1_alertnessOf, Cond.code yX1_alertnessOf cX1_alertnessOf 2 (some .int), Cond.methodLink RL 162 yX2_alertnessOf, Cond.instanceMethod yX2_alertnessOf, Cond.selects RX2 yX2_alertnessOf yX2_alertnessOf, Cond.code yX2_alertnessOf cX2_alertnessOf 2 (some .int), Cond.methodLink RX2 128 yX2_guard]
def wsL_law0_r21 : List Cond := [Cond.instanceMethod yX2_guard, Cond.selects RX2 yX2_guard yX2_guard, Cond.code yX2_guard cX2_guard 3 (some .int), Cond.methodLink RL 163 yL_searches, Cond.static yL_searches, Cond.codeWith yL_searches cL_searches 4 (some .int) [(0, 9, 12, 25)], Cond.methodLink RL 55 yX1_searches, Cond.instanceMethod yX1_searches, Cond.selects RX1 yX1_searches yX1_searches, Cond.code yX1_searches cX1_searches 2 (some .int), Cond.fieldLink RX1 103 "SleepBorder$Border" "searched" "[I", Cond.methodLink RL 165 yX2_searches, Cond.instanceMethod yX2_searches, Cond.selects RX2 yX2_searches yX2_searches, Cond.code yX2_searches cX2_searches 2 (some .int), Cond.methodLink RL 166 yL_minutesToGo, Cond.static yL_minutesToGo, Cond.codeWith yL_minutesToGo cL_minutesToGo 4 (some .int) [(0, 9, 12, 25)], Cond.methodLink RL 58 yX1_minutesToGo, Cond.instanceMethod yX1_minutesToGo, Cond.selects RX1 yX1_minutesToGo yX1_minutesToGo, Cond.code yX1_minutesToGo cX1_minutesToGo 2 (some .int), Cond.fieldLink RX1 106 "SleepBorder$Border" "searchLeft" "[I", Cond.methodLink RL 168 yX2_minutesToGo]
def wsL_law0_r22 : List Cond := [Cond.instanceMethod yX2_minutesToGo, Cond.selects RX2 yX2_minutesToGo yX2_minutesToGo, Cond.code yX2_minutesToGo cX2_minutesToGo 2 (some .int), Cond.methodLink RL 169 yL_wouldFind, Cond.static yL_wouldFind, Cond.codeWith yL_wouldFind cL_wouldFind 5 (some .int) [(0, 17, 20, 25)], Cond.methodLink RL 61 yX1_wouldFind, Cond.instanceMethod yX1_wouldFind, Cond.selects RX1 yX1_wouldFind yX1_wouldFind, Cond.code yX1_wouldFind cX1_wouldFind 3 (some .boolean), Cond.methodLink RX1 109 yX0_finds, Cond.methodLink RL 171 yX2_wouldFind, Cond.instanceMethod yX2_wouldFind, Cond.selects RX2 yX2_wouldFind yX2_wouldFind, Cond.code yX2_wouldFind cX2_wouldFind 3 (some .boolean), Cond.methodLink RL 172 yX1_mostAlert, Cond.instanceMethod yX1_mostAlert, Cond.selects RX1 yX1_mostAlert yX1_mostAlert, Cond.code yX1_mostAlert cX1_mostAlert 4 (some .int), Cond.methodLink RL 175 yX2_mostAlert, Cond.instanceMethod yX2_mostAlert, Cond.selects RX2 yX2_mostAlert yX2_mostAlert, Cond.code yX2_mostAlert cX2_mostAlert 1 (some .int), Cond.methodLink RX2 131 yX2_alertest]
def wsL_law0_r23 : List Cond := [Cond.instanceMethod yX2_alertest, Cond.selects RX2 yX2_alertest yX2_alertest, Cond.code yX2_alertest cX2_alertest 3 (some .int), Cond.methodLink RL 176 yL_minutesUntilAsleep, Cond.static yL_minutesUntilAsleep, Cond.codeWith yL_minutesUntilAsleep cL_minutesUntilAsleep 4 (some .int) [(0, 9, 12, 25)], Cond.methodLink RL 65 yX1_minutesUntilAsleep, Cond.instanceMethod yX1_minutesUntilAsleep, Cond.selects RX1 yX1_minutesUntilAsleep yX1_minutesUntilAsleep, Cond.code yX1_minutesUntilAsleep cX1_minutesUntilAsleep 2 (some .int), Cond.methodLink RX1 113 yX0_become, Cond.instanceMethod yX0_become, Cond.selects RX0 yX0_become yX0_become, Cond.code yX0_become cX0_become 3 none, Cond.methodLink RX1 117 yX0_goOn, Cond.instanceMethod yX0_goOn, Cond.selects RX0 yX0_goOn yX0_goOn, Cond.code yX0_goOn cX0_goOn 3 none, Cond.methodLink RX0 72 yX0_isSettled, Cond.instanceMethod yX0_isSettled, Cond.selects RX0 yX0_isSettled yX0_isSettled, Cond.code yX0_isSettled cX0_isSettled 2 (some .boolean), Cond.methodLink RX0 76 yX0_goOneMinute, Cond.methodLink RX1 120 yX1_foreseenSleep]
def wsL_law0_r24 : List Cond := [Cond.instanceMethod yX1_foreseenSleep, Cond.selects RX1 yX1_foreseenSleep yX1_foreseenSleep, Cond.code yX1_foreseenSleep cX1_foreseenSleep 2 (some .int), Cond.fieldLink RX1 201 "SleepBorder$Border" "asleepSince" "[I", Cond.methodLink RL 178 yX2_minutesUntilAsleep, Cond.instanceMethod yX2_minutesUntilAsleep, Cond.selects RX2 yX2_minutesUntilAsleep yX2_minutesUntilAsleep, Cond.code yX2_minutesUntilAsleep cX2_minutesUntilAsleep 2 (some .int), Cond.methodLink RX2 143 yX2_until, Cond.instanceMethod yX2_until, Cond.selects RX2 yX2_until yX2_until, Cond.code yX2_until cX2_until 3 (some .int), Cond.methodLink RX2 134 yX2_keep, Cond.instanceMethod yX2_keep, Cond.selects RX2 yX2_keep yX2_keep, Cond.code yX2_keep cX2_keep 1 none, Cond.methodLink RX2 37 arraycopyName, Cond.native arraycopyName, Cond.static arraycopyName, Cond.initialized "java/lang/System", Cond.methodLink RX2 137 yX2_run, Cond.instanceMethod yX2_run, Cond.selects RX2 yX2_run yX2_run, Cond.code yX2_run cX2_run 3 (some .int)]
def wsL_law0_r25 : List Cond := [Cond.methodLink RX2 140 yX2_bringBack, Cond.instanceMethod yX2_bringBack, Cond.selects RX2 yX2_bringBack yX2_bringBack, Cond.code yX2_bringBack cX2_bringBack 1 none, Cond.methodLink RL 179 yL_asleepIn, Cond.static yL_asleepIn, Cond.codeWith yL_asleepIn cL_asleepIn 4 (some .int) [(0, 9, 12, 19)], Cond.methodLink RL 68 yX1_asleepIn, Cond.instanceMethod yX1_asleepIn, Cond.selects RX1 yX1_asleepIn yX1_asleepIn, Cond.code yX1_asleepIn cX1_asleepIn 2 (some .int), Cond.methodLink RL 181 yX2_asleepIn, Cond.instanceMethod yX2_asleepIn, Cond.selects RX2 yX2_asleepIn yX2_asleepIn, Cond.code yX2_asleepIn cX2_asleepIn 2 (some .int), Cond.methodLink RX2 146 yX2_sleepers, Cond.instanceMethod yX2_sleepers, Cond.selects RX2 yX2_sleepers yX2_sleepers, Cond.code yX2_sleepers cX2_sleepers 3 (some .int), Cond.methodLink RL 182 yL_bestToDeclare, Cond.static yL_bestToDeclare, Cond.codeWith yL_bestToDeclare cL_bestToDeclare 4 (some .int) [(0, 9, 12, 25)], Cond.methodLink RL 71 yX1_bestToDeclare, Cond.instanceMethod yX1_bestToDeclare]
def wsL_law0_r26 : List Cond := [Cond.selects RX1 yX1_bestToDeclare yX1_bestToDeclare, Cond.code yX1_bestToDeclare cX1_bestToDeclare 6 (some .int), Cond.methodLink RL 184 yX2_bestToDeclare, Cond.instanceMethod yX2_bestToDeclare, Cond.selects RX2 yX2_bestToDeclare yX2_bestToDeclare, Cond.code yX2_bestToDeclare cX2_bestToDeclare 6 (some .int), Cond.methodLink RL 185 yX1_guardsWanted, Cond.instanceMethod yX1_guardsWanted, Cond.selects RX1 yX1_guardsWanted yX1_guardsWanted, Cond.code yX1_guardsWanted cX1_guardsWanted 3 (some .int), Cond.methodLink RL 188 yX2_guardsWanted, Cond.instanceMethod yX2_guardsWanted, Cond.selects RX2 yX2_guardsWanted yX2_guardsWanted, Cond.code yX2_guardsWanted cX2_guardsWanted 1 (some .int), Cond.methodLink RX2 149 yX2_wanted, Cond.instanceMethod yX2_wanted, Cond.selects RX2 yX2_wanted yX2_wanted, Cond.code yX2_wanted cX2_wanted 5 (some .int), Cond.methodLink RL 189 yX1_meanAlertness, Cond.instanceMethod yX1_meanAlertness, Cond.selects RX1 yX1_meanAlertness yX1_meanAlertness, Cond.code yX1_meanAlertness cX1_meanAlertness 3 (some .double), Cond.methodLink RL 193 yX2_meanAlertness, Cond.instanceMethod yX2_meanAlertness]
def wsL_law0_r27 : List Cond := [Cond.selects RX2 yX2_meanAlertness yX2_meanAlertness, Cond.code yX2_meanAlertness cX2_meanAlertness 3 (some .double), Cond.methodLink RL 194 yX1_digest, Cond.instanceMethod yX1_digest, Cond.selects RX1 yX1_digest yX1_digest, Cond.code yX1_digest cX1_digest 3 (some .long), Cond.constantLong RX1 123 (2131), Cond.methodLink RX1 125 yX1_minute, Cond.methodLink RX1 128 yX1_mix, Cond.static yX1_mix, Cond.code yX1_mix cX1_mix 3 (some .long), Cond.constantLong RX1 199 (31), Cond.methodLink RX1 132 yX1_travellers, Cond.methodLink RX1 135 yX1_waiting, Cond.methodLink RX1 138 yX1_asleep, Cond.methodLink RX1 141 yX1_sentBack, Cond.methodLink RX1 144 yX1_expired, Cond.methodLink RX1 147 yX1_paid, Cond.methodLink RX1 150 yX1_noise, Cond.methodLink RX1 153 yX1_nextInLine, Cond.methodLink RX1 156 yX1_guards, Cond.methodLink RX1 159 yX1_mostAlert, Cond.methodLink RX1 162 yX1_asleepIn, Cond.methodLink RX1 165 yX1_guardsWanted]
def wsL_law0_r28 : List Cond := [Cond.methodLink RX1 168 yX1_mixTravellers, Cond.instanceMethod yX1_mixTravellers, Cond.selects RX1 yX1_mixTravellers yX1_mixTravellers, Cond.code yX1_mixTravellers cX1_mixTravellers 6 (some .long), Cond.methodLink RX1 175 yX1_stateOf, Cond.methodLink RX1 178 yX1_hiddenOf, Cond.methodLink RX1 181 yX1_lullabyOf, Cond.methodLink RX1 184 yX1_placeInLine, Cond.methodLink RX1 187 yX1_searchTime, Cond.methodLink RX1 172 yX1_mixGuards, Cond.instanceMethod yX1_mixGuards, Cond.selects RX1 yX1_mixGuards yX1_mixGuards, Cond.code yX1_mixGuards cX1_mixGuards 6 (some .long), Cond.methodLink RX1 190 yX1_alertnessOf, Cond.methodLink RX1 193 yX1_searches, Cond.methodLink RX1 196 yX1_minutesToGo, Cond.methodLink RL 198 yX2_digest, Cond.instanceMethod yX2_digest, Cond.selects RX2 yX2_digest yX2_digest, Cond.code yX2_digest cX2_digest 10 (some .long), Cond.constantLong RX2 152 (2131), Cond.constantLong RX2 154 (31)]
def wsL_law0 : List Cond := (wsL_law0_r1 ++ (wsL_law0_r2 ++ (wsL_law0_r3 ++ (wsL_law0_r4 ++ (wsL_law0_r5 ++ (wsL_law0_r6 ++ (wsL_law0_r7 ++ (wsL_law0_r8 ++ (wsL_law0_r9 ++ (wsL_law0_r10 ++ (wsL_law0_r11 ++ (wsL_law0_r12 ++ (wsL_law0_r13 ++ (wsL_law0_r14 ++ (wsL_law0_r15 ++ (wsL_law0_r16 ++ (wsL_law0_r17 ++ (wsL_law0_r18 ++ (wsL_law0_r19 ++ (wsL_law0_r20 ++ (wsL_law0_r21 ++ (wsL_law0_r22 ++ (wsL_law0_r23 ++ (wsL_law0_r24 ++ (wsL_law0_r25 ++ (wsL_law0_r26 ++ (wsL_law0_r27 ++ wsL_law0_r28))))))))))))))))))))))))))) ++ wsX10 ++ wsX20 ++ wsX00 ++ ([] : List Cond)
def wsL_law : List Cond := wsL_law0 ++ (vx_atS RX1 27 "java/lang/IllegalStateException" ["java/lang/RuntimeException", "java/lang/Exception"]).filter goodWord ++ (vx_atS RX1 222 "java/lang/IllegalArgumentException" ["java/lang/RuntimeException", "java/lang/Exception"]).filter goodWord ++ (vx_atS RX1 212 "java/lang/IndexOutOfBoundsException" ["java/lang/RuntimeException", "java/lang/Exception"]).filter goodWord
abbrev vwCl : List vw_C := [(RX0, TX0, 15), (RX1, TX1, 2), (RX2, TX2, 7)]
end
section
/-! BASE: closed judgements over moving worlds (Gq: at an instruction; Gx: with an exception over it), contracts (Ct), a row an instruction. -/
theorem vpm {D : va_G} {cl : List vw_C} {ws : va_W} {H : Heap} : va_P D cl ws H ↔ ∀ q ∈ ws, va_at D cl q H := by
  constructor
  · intro h q hq
    obtain ⟨k, hk⟩ := List.getElem?_of_mem hq
    exact h k q hk
  · intro h k q hk
    exact h q (List.mem_of_getElem? hk)
theorem vdm {A : Nat → Prop} {ws : va_W} : va_D A ws ↔ (ws.map (fun q => q.1)).Nodup ∧ ∀ q ∈ ws, A q.1 := by
  constructor
  · intro h
    refine ⟨?_, fun q hq => ?_⟩
    · rw [List.Nodup, List.pairwise_iff_getElem]
      intro i j hi hj hij he
      rw [List.getElem_map, List.getElem_map] at he
      have hi' : i < ws.length := by simpa using hi
      have hj' : j < ws.length := by simpa using hj
      have := h.1 i j _ _ (List.getElem?_eq_getElem hi') (List.getElem?_eq_getElem hj') he
      omega
    · obtain ⟨k, hk⟩ := List.getElem?_of_mem hq
      exact h.2 k q hk
  · intro h
    refine ⟨fun i j p q hi hj he => ?_, fun k q hk => h.2 q (List.mem_of_getElem? hk)⟩
    obtain ⟨hi1, hi2⟩ := List.getElem?_eq_some_iff.mp hi
    obtain ⟨hj1, hj2⟩ := List.getElem?_eq_some_iff.mp hj
    have hn := h.1
    rw [List.Nodup, List.pairwise_iff_getElem] at hn
    rcases Nat.lt_trichotomy i j with g | g | g
    · exact absurd (by rw [List.getElem_map, List.getElem_map, hi2, hj2]; exact he) (hn i j (by simpa using hi1) (by simpa using hj1) g)
    · exact g
    · exact absurd (by rw [List.getElem_map, List.getElem_map, hi2, hj2]; exact he.symm) (hn j i (by simpa using hj1) (by simpa using hi1) g)
theorem vp_app {D : va_G} {cl : List vw_C} {a b : va_W} {H : Heap} : va_P D cl (a ++ b) H ↔ va_P D cl a H ∧ va_P D cl b H := by
  simp only [vpm, List.mem_append]
  exact ⟨fun h => ⟨fun q hq => h q (Or.inl hq), fun q hq => h q (Or.inr hq)⟩, fun h q hq => hq.elim (h.1 q) (h.2 q)⟩
theorem vd_app {A : Nat → Prop} {a b : va_W} : va_D A (a ++ b) ↔ va_D A a ∧ va_D A b ∧ ∀ p ∈ a, ∀ q ∈ b, p.1 ≠ q.1 := by
  simp only [vdm, List.map_append, List.nodup_append, List.mem_append, List.mem_map]
  constructor
  · rintro ⟨⟨h1, h2, h3⟩, h4⟩
    exact ⟨⟨h1, fun q hq => h4 q (Or.inl hq)⟩, ⟨h2, fun q hq => h4 q (Or.inr hq)⟩, fun p hp q hq => h3 _ ⟨p, hp, rfl⟩ _ ⟨q, hq, rfl⟩⟩
  · rintro ⟨⟨h1, h2⟩, ⟨h3, h4⟩, h5⟩
    refine ⟨⟨h1, h3, ?_⟩, fun q hq => hq.elim (h2 q) (h4 q)⟩
    rintro x ⟨p, hp, rfl⟩ y ⟨q, hq, rfl⟩
    exact h5 p hp q hq
theorem va_Am {ws : va_W} {sz q : Nat} : va_A ws sz q ↔ (∃ e ∈ ws, e.1 = q) ∨ sz ≤ q := by
  constructor
  · rintro (⟨k, e, h⟩ | h)
    · exact Or.inl ⟨_, List.mem_of_getElem? h, rfl⟩
    · exact Or.inr h
  · rintro (⟨e, h, rfl⟩ | h)
    · obtain ⟨k, hk⟩ := List.getElem?_of_mem h
      exact Or.inl ⟨k, e.2, hk⟩
    · exact Or.inr h
/-- behind a call: the callee's cells stand between the caller's others -/
theorem jn {A : Nat → Prop} {D : va_G} {cl : List vw_C} {wl wc wr w1 : va_W} {H H1 : Heap} (hP : va_P D cl (wl ++ (wc ++ wr)) H) (hD : va_D A (wl ++ (wc ++ wr)))
    (hk : ∀ q : Nat, q < H.size → ¬ va_A wc H.size q → H1[q]? = H[q]?) (hF : ∀ q, va_A wc H.size q → A q) (hP1 : va_P D cl w1 H1) (hD1 : va_D (va_A wc H.size) w1) : va_P D cl (wl ++ (w1 ++ wr)) H1 ∧ va_D A (wl ++ (w1 ++ wr)) := by
  obtain ⟨pl, pcr⟩ := vp_app.mp hP
  obtain ⟨pc, pr⟩ := vp_app.mp pcr
  obtain ⟨dl, dcr, dx⟩ := vd_app.mp hD
  obtain ⟨dc, dr, dy⟩ := vd_app.mp dcr
  have lt : ∀ {w : va_W}, va_P D cl w H → ∀ q ∈ w, q.1 < H.size := fun h q hq => (vpm.mp h q hq).lt
  have nl : ∀ q ∈ wl, ¬ va_A wc H.size q.1 := by
    intro q hq h
    rcases va_Am.mp h with ⟨e, he, h1⟩ | h
    · exact dx q hq e (List.mem_append_left _ he) h1.symm
    · exact absurd (lt pl q hq) (by omega)
  have nr : ∀ q ∈ wr, ¬ va_A wc H.size q.1 := by
    intro q hq h
    rcases va_Am.mp h with ⟨e, he, h1⟩ | h
    · exact dy e he q hq h1
    · exact absurd (lt pr q hq) (by omega)
  have kp : ∀ {w : va_W}, va_P D cl w H → (∀ q ∈ w, ¬ va_A wc H.size q.1) → va_P D cl w H1 := by
    intro w h hn
    rw [vpm] at h ⊢
    intro q hq
    exact (h q hq).kept (hk q.1 (h q hq).lt (hn q hq))
  have in1 : ∀ q ∈ w1, va_A wc H.size q.1 := (vdm.mp hD1).2
  refine ⟨vp_app.mpr ⟨kp pl nl, vp_app.mpr ⟨hP1, kp pr nr⟩⟩, vd_app.mpr ⟨dl, vd_app.mpr ⟨vdm.mpr ⟨(vdm.mp hD1).1, fun q hq => hF _ (in1 q hq)⟩, dr, ?_⟩, ?_⟩⟩
  · intro p hp q hq he
    exact nr q hq (by rw [← he]; exact in1 p hp)
  · intro p hp q hq he
    rcases List.mem_append.mp hq with h | h
    · exact nl p hp (by rw [he]; exact in1 q h)
    · exact dx p hp q (List.mem_append_right _ h) he
/-- the exceptions that the class throws, by a number -/
def xn (n : Nat) : String := match n with
  | 1 => "java/lang/IllegalStateException"
  | 2 => "java/lang/IllegalArgumentException"
  | _ => "java/lang/IndexOutOfBoundsException"
/-- what of the tables doesn't keep by itself, and what a throw needs of the heap -/
def ev_w : List Cond := [.castable (xn 1) (xn 1), .castable (xn 2) (xn 2), .castable (xn 3) (xn 3), .methodLinkNest RX1 9 yX0_init RX1]
def ev_n : List (String × String) := [(xn 1, xn 2), (xn 1, xn 3), (xn 2, xn 1), (xn 2, xn 3), (xn 3, xn 1), (xn 3, xn 2)]
def Env9 (ss : List (String × Nat × String)) (A : Nat → Prop) (U : State) : Prop :=
  vx_Zq Bundle.tN "UNASSIGNED_STACK" Bundle.steD A U U.heap ∧ vx_Zq Bundle.tN "SUPPRESSED_SENTINEL" Bundle.listD A U U.heap ∧ (∀ w ∈ ev_w, va_Nw w U) ∧ (∀ q ∈ ss, ∃ a, vk_R q.1 q.2.1 q.2.2 a U) ∧ (∀ q ∈ ev_n, va_Nc q.1 q.2 U)
theorem ev_on : ∀ w ∈ ev_w, w.onTables = true := by decide +kernel
theorem Env9.same {ss : List (String × Nat × String)} {A : Nat → Prop} {u U : State} (hv : u.vm = U.vm) (hh : u.heap = U.heap) (h : Env9 ss A u) : Env9 ss A U := by
  obtain ⟨h1, h2, h3, h4, h5⟩ := h
  have al : u.vm.Alike U.vm := by rw [hv]; exact Vm.Alike.refl _
  refine ⟨by rw [← hh]; exact h1.moved al, by rw [← hh]; exact h2.moved al, fun w hw => (h3 w hw).same (ev_on w hw) hv, fun q hq => ?_, fun q hq => (h5 q hq).moved al⟩
  obtain ⟨a, ha⟩ := h4 q hq
  exact ⟨a, vk_R.same hv.symm ha⟩
theorem ev_warm {s U : State} (hW : s.WarmedH U.vm) : ∀ w ∈ ev_w, va_Nw w s → va_Nw w U := by
  intro w hw
  simp only [ev_w, List.mem_cons, List.not_mem_nil, or_false] at hw
  rcases hw with rfl | rfl | rfl | rfl
  · exact va_Nw.warmC hW
  · exact va_Nw.warmC hW
  · exact va_Nw.warmC hW
  · exact va_Nw.warmM hW
theorem Env9.call {ss : List (String × Nat × String)} {A B : Nat → Prop} {s U : State} {H : Heap} {locs : List Loc} (h : Env9 ss A s) (hS : va_S A s.heap H locs) (hU : U.heap = H) (hW : s.WarmedH U.vm) (hF : ∀ q, B q → A q) : Env9 ss B U := by
  obtain ⟨h1, h2, h3, h4, h5⟩ := h
  refine ⟨?_, ?_, fun w hw => ev_warm hW w hw (h3 w hw), fun q hq => ?_, fun q hq => (h5 q hq).moved hW.alike⟩
  · rw [hU]
    exact ((h1.kept (fun a ha hn => hS.2.1 a ha hn)).narrow hF).moved hW.alike
  · rw [hU]
    exact ((h2.kept (fun a ha hn => hS.2.1 a ha hn)).narrow hF).moved hW.alike
  · obtain ⟨a, ha⟩ := h4 q hq
    exact ⟨a, vk_R.warm hW ha⟩
/-- what a call may come to: an exception by its number, or an answer and a world -/
abbrev Oc : Type := Nat ⊕ (Option Value × va_W)
def CtR (D : va_G) (Rr : Oc → Prop) (A : Nat → Prop) : Array Value → State → Outcome → State → Prop := fun _ st oc t => (∃ rv W1, Rr (.inr (rv, W1)) ∧ oc = .returned rv ∧ va_P D vwCl W1 t.heap ∧ va_D A W1) ∧ va_F A st t
def CtX (D : va_G) (W0 : va_W) (Rr : Oc → Prop) (A : Nat → Prop) : String → State → State → Prop := fun E st t => (∃ n, Rr (.inl n) ∧ E = xn n ∧ va_P D vwCl W0 t.heap ∧ va_D A W0) ∧ va_F A st t
def CtP (ss : List (String × Nat × String)) (D : va_G) (tys : List (ClassId × FieldType)) (W0 : va_W) (sz : Nat) (U : State) : Prop := U.heap.size = sz ∧ va_P D vwCl W0 U.heap ∧ va_K D vwCl tys U ∧ va_D (fun _ => True) W0 ∧ Env9 ss (va_A W0 sz) U
/-- a method's contract: from the world W0 it comes to an outcome of which Rr holds -/
def Ct (ss : List (String × Nat × String)) (l : Launch) (y : MethodName) (ws : List Cond) (rm : Room) (D : va_G) (tys : List (ClassId × FieldType)) (As : List Value) (W0 : va_W) (Rr : Oc → Prop) (mc ms : Nat) : Prop :=
  ∀ sz, vx_Met l y ws rm (va_Pc As (CtP ss D tys W0 sz)) (CtR D Rr (va_A W0 sz)) (CtX D W0 Rr (va_A W0 sz)) mc ms (va_A W0 sz)
/-- a method's plain facts, for its callers -/
def CF (y : MethodName) (ws : List Cond) (rm : Room) (bytes : ByteArray) (maxL : Nat) (ret : Option FieldType) (n mc ms : Nat) (Cn : String) : Prop :=
  (∃ ws', ws = Cond.code y bytes maxL ret :: ws') ∧ rm.cells = mc ∧ rm.slots = ms ∧ y.cls = Cn ∧ y.cls ≠ "java/lang/invoke/MethodHandle" ∧ y.cls ≠ "java/lang/invoke/VarHandle" ∧ (parseMethodDescriptor y.desc).map (fun d => d.parameters.length) = some n
section GB
variable {ss : List (String × Nat × String)} {p : Program} {l : Launch} {e : Env} {R : Room} {s : State} {m : MethodId} {args : Array Value} {below : List Frame} {meth : Method} {c : Code} {Q : State → Prop}
variable {D : va_G} {A : Nat → Prop} {tys : List (ClassId × FieldType)} {Ts : List Cond} {own : String} {cc : ByteArray} {nL : Nat} {tb : List ExceptionTableEntry} {ws ws' : va_W} {cells slots pc q : Nat} {lv lv' : List (Nat × Value)} {st : List Value}
/-- at an instruction, the world and the known locals -/
def Gq (p : Program) (l : Launch) (e : Env) (R : Room) (s : State) (m : MethodId) (args : Array Value) (below : List Frame) (meth : Method) (c : Code) (D : va_G) (A : Nat → Prop) (nL : Nat) (Q : State → Prop) (ws : va_W) (cells slots pc : Nat) (lv : List (Nat × Value)) (st : List Value) : Prop :=
  ∀ (H : Heap) (locs : List Loc) (ls : Array Slot), va_P D vwCl ws H → va_D A ws → va_S A s.heap H locs → lv_has ls nL lv → W p l e R s m args below meth c H locs cells slots Q (F0 m pc ls st)
/-- .. with the exception n thrown there -/
def Gx (p : Program) (l : Launch) (e : Env) (R : Room) (s : State) (m : MethodId) (args : Array Value) (below : List Frame) (meth : Method) (c : Code) (D : va_G) (A : Nat → Prop) (nL : Nat) (Q : State → Prop) (ws : va_W) (cells slots pc : Nat) (lv : List (Nat × Value)) (n : Nat) : Prop :=
  ∀ (H : Heap) (locs : List Loc) (ls : Array Slot) (rest : List Value) (q : Nat) (ce : Cell), va_P D vwCl ws H → va_D A ws → va_S A s.heap H locs → lv_has ls nL lv → H[q]? = some ce → ce.vm = .none → s.vm.findClass (xn n) = some ce.cls → vx_W p l e R s m args below meth c H locs cells slots Q (F0 m pc ls rest) q
/-- what stays in a method's walk -/
def Cx (ss : List (String × Nat × String)) (p : Program) (l : Launch) (s : State) (m : MethodId) (args : Array Value) (meth : Method) (c : Code) (cc : ByteArray) (nL : Nat) (Ts : List Cond) (own : String) (D : va_G) (tys : List (ClassId × FieldType)) (A : Nat → Prop) (tb : List ExceptionTableEntry) : Prop :=
  p.tables.exec = Jvm.exec ∧ c.code = cc ∧ c.maxLocals = nL ∧ s.vm.findClass own = some m.cls ∧ (∀ w ∈ Ts, w.before args s = true) ∧ va_K D vwCl tys s ∧ (∀ q, s.heap.size ≤ q → A q) ∧ meth.locks = false ∧ Env9 ss A s ∧ c.exceptionTable.toList = tb ∧ l.stackTraces = false
theorem Cx.w (C : Cx ss p l s m args meth c cc nL Ts own D tys A tb) (w : Cond) (h : w ∈ Ts) : w.before args s = true := C.2.2.2.2.1 w h
/-- what a body owes at its end -/
def CQ (below : List Frame) (D : va_G) (W0 : va_W) (Rr : Oc → Prop) (args : Array Value) (s : State) (mc ms : Nat) (A : Nat → Prop) : State → Prop := vx_MQ below (CtR D Rr A) (CtX D W0 Rr A) args s mc ms A
theorem ct_of {y : MethodName} {ws ws' : List Cond} {rm : Room} {As : List Value} {W0 : va_W} {Rr : Oc → Prop} {mc ms : Nat} {ret : Option FieldType} (hfl : l.stackTraces = false) (hy : plainName y.cls = true) (ho : y.cls = own) (hw : ws = Cond.code y cc nL ret :: ws') (hn : (lg_sl As).length ≤ nL)
    (k : ∀ (p : Program) (e : Env) (s : State) (m : MethodId) (args : Array Value) (below : List Frame) (meth : Method) (c : Code) (A : Nat → Prop), Cx ss p l s m args meth c cc nL ws own D tys A [] → meth.sig.returnType = ret → meth.name = y.name →
      Gq p l e rm s m args below meth c D A nL (CQ below D W0 Rr args s mc ms A) W0 0 0 0 (lv_args 0 As) []) : Ct ss l y ws rm D tys As W0 Rr mc ms := by
  intro sz
  refine vx_ofW (cc := cc) (maxL := nL) (ret := ret) hy hw ?_
  intro p e s m args below meth c s₁ B hml hxt hv
  obtain ⟨rfl, hsz, hP, hK, hD0, hE⟩ := hv
  subst hsz
  subst ho
  have hts := atoms_spec (ws := ws) B.pre
  have hown : s.vm.findClass y.cls = some m.cls := findClass_of_methodNamed B.named
  have hxl : c.exceptionTable.toList = [] := List.eq_nil_iff_forall_not_mem.mpr (fun x hx => hxt x hx)
  have C : Cx ss p l s m As.toArray meth c cc nL ws y.cls D tys (va_A W0 s.heap.size) [] := ⟨B.exec, B.bytes, hml, hown, hts, hK, fun q h => Or.inr h, B.notSynchronized, hE, hxl, hfl⟩
  have hl := lv_entry As (n := nL) hn
  rw [lg_entry_eq]
  exact k p e s m As.toArray below meth c _ C B.returns (name_of_methodNamed B.named B.method).1 s.heap [] _ hP hD0.self va_S.rf hl
theorem ct_ofH {y : MethodName} {ws ws' : List Cond} {rm : Room} {As : List Value} {W0 : va_W} {Rr : Oc → Prop} {mc ms : Nat} {ret : Option FieldType} {hh : List (Nat × Nat × Nat × Nat)} (hfl : l.stackTraces = false) (hy : plainName y.cls = true) (ho : y.cls = own) (hw : ws = Cond.codeWith y cc nL ret hh :: ws') (hn : (lg_sl As).length ≤ nL)
    (k : ∀ (p : Program) (e : Env) (s : State) (m : MethodId) (args : Array Value) (below : List Frame) (meth : Method) (c : Code) (A : Nat → Prop), Cx ss p l s m args meth c cc nL ws own D tys A (tableOf hh) → meth.sig.returnType = ret → meth.name = y.name →
      Gq p l e rm s m args below meth c D A nL (CQ below D W0 Rr args s mc ms A) W0 0 0 0 (lv_args 0 As) []) : Ct ss l y ws rm D tys As W0 Rr mc ms := by
  intro sz
  refine vx_ofWH (cc := cc) (maxL := nL) (ret := ret) (hh := hh) hy hw ?_
  intro p e s m args below meth c s₁ B hml hv
  obtain ⟨rfl, hsz, hP, hK, hD0, hE⟩ := hv
  subst hsz
  subst ho
  have hts := atoms_spec (ws := ws) B.pre
  have hown : s.vm.findClass y.cls = some m.cls := findClass_of_methodNamed B.named
  have hxl : c.exceptionTable.toList = tableOf hh := vx_table (x := y) B (hts _ (by rw [hw]; exact List.mem_cons_self))
  have C : Cx ss p l s m As.toArray meth c cc nL ws y.cls D tys (va_A W0 s.heap.size) (tableOf hh) := ⟨B.exec, B.bytes, hml, hown, hts, hK, fun q h => Or.inr h, B.notSynchronized, hE, hxl, hfl⟩
  have hl := lv_entry As (n := nL) hn
  rw [lg_entry_eq]
  exact k p e s m As.toArray below meth c _ C B.returns (name_of_methodNamed B.named B.method).1 s.heap [] _ hP hD0.self va_S.rf hl
/-! rows: constants, locals, arithmetic -/
theorem g_lv (ks : List Nat) (hk : lv_pick lv ks = lv') (kk : Gq p l e R s m args below meth c D A nL Q ws cells slots pc lv' st) : Gq p l e R s m args below meth c D A nL Q ws cells slots pc lv st := fun H locs ls hP hD hS hl => kk H locs ls hP hD hS (lv_sub hl ks hk)
theorem g_pc (h : pc = q) (kk : Gq p l e R s m args below meth c D A nL Q ws cells slots q lv st) : Gq p l e R s m args below meth c D A nL Q ws cells slots pc lv st := h ▸ kk
theorem g_wide {c2 s2 : Nat} (h1 : cells ≤ c2) (h2 : slots ≤ s2) (kk : Gq p l e R s m args below meth c D A nL Q ws c2 s2 pc lv st) : Gq p l e R s m args below meth c D A nL Q ws cells slots pc lv st := fun H locs ls hP hD hS hl => W.widen h1 h2 (kk H locs ls hP hD hS hl)
theorem g_left {wr : va_W} (hw : ws = ws' ++ wr) (kk : Gq p l e R s m args below meth c D A nL Q ws' cells slots pc lv st) : Gq p l e R s m args below meth c D A nL Q ws cells slots pc lv st := by
  subst hw
  exact fun H locs ls hP hD hS hl => kk H locs ls (vp_app.mp hP).1 (vd_app.mp hD).1 hS hl
theorem g_iconst (C : Cx ss p l s m args meth c cc nL Ts own D tys A tb) {n : Int} {v : Int32} (d : decode cc pc = .ok (.iconst n, 1)) (q : Nat) (hq : pc + 1 = q) (hv : Int32.ofInt n = v) (kk : Gq p l e R s m args below meth c D A nL Q ws cells slots q lv (.int v :: st)) : Gq p l e R s m args below meth c D A nL Q ws cells slots pc lv st := by
  subst hq
  exact fun H locs ls hP hD hS hl => lv_iconst C.1 C.2.1 d hv (kk H locs ls hP hD hS hl)
theorem g_bipush (C : Cx ss p l s m args meth c cc nL Ts own D tys A tb) {n : Int} {v : Int32} (d : decode cc pc = .ok (.bipush n, 2)) (q : Nat) (hq : pc + 2 = q) (hv : (Int8.ofInt n).toInt32 = v) (kk : Gq p l e R s m args below meth c D A nL Q ws cells slots q lv (.int v :: st)) : Gq p l e R s m args below meth c D A nL Q ws cells slots pc lv st := by
  subst hq
  exact fun H locs ls hP hD hS hl => lv_bipush C.1 C.2.1 d hv (kk H locs ls hP hD hS hl)
theorem g_lconst (C : Cx ss p l s m args meth c cc nL Ts own D tys A tb) {n : Fin 2} {v : Int64} (d : decode cc pc = .ok (.lconst n, 1)) (q : Nat) (hq : pc + 1 = q) (hv : Int64.ofNat (n : Nat) = v) (kk : Gq p l e R s m args below meth c D A nL Q ws cells slots q lv (.long v :: st)) : Gq p l e R s m args below meth c D A nL Q ws cells slots pc lv st := by
  subst hq
  exact fun H locs ls hP hD hS hl => lv_lconst C.1 C.2.1 d hv (kk H locs ls hP hD hS hl)
theorem g_dconst0 (C : Cx ss p l s m args meth c cc nL Ts own D tys A tb) (d : decode cc pc = .ok (.dconst 0, 1)) (q : Nat) (hq : pc + 1 = q) (kk : Gq p l e R s m args below meth c D A nL Q ws cells slots q lv (.double FP.dconst0 :: st)) : Gq p l e R s m args below meth c D A nL Q ws cells slots pc lv st := by
  subst hq
  exact fun H locs ls hP hD hS hl => lv_dconst0 C.1 C.2.1 d (kk H locs ls hP hD hS hl)
theorem g_ldc2 (C : Cx ss p l s m args meth c cc nL Ts own D tys A tb) {i : Nat} {v : Int64} (hw : (Cond.constantLong own i v).before args s = true) (d : decode cc pc = .ok (.ldc2_w i, 3)) (q : Nat) (hq : pc + 3 = q) (kk : Gq p l e R s m args below meth c D A nL Q ws cells slots q lv (.long v :: st)) : Gq p l e R s m args below meth c D A nL Q ws cells slots pc lv st := by
  subst hq
  exact fun H locs ls hP hD hS hl => lv_ldc2 C.1 C.2.1 C.2.2.2.1 hw d (kk H locs ls hP hD hS hl)
theorem g_iload_n (C : Cx ss p l s m args meth c cc nL Ts own D tys A tb) {k : Fin 4} {x : Int32} (d : decode cc pc = .ok (.iload_n k, 1)) (q : Nat) (hq : pc + 1 = q) (j : Nat) (hj : lv[j]? = some ((k : Nat), .int x)) (kk : Gq p l e R s m args below meth c D A nL Q ws cells slots q lv (.int x :: st)) : Gq p l e R s m args below meth c D A nL Q ws cells slots pc lv st := by
  subst hq
  exact fun H locs ls hP hD hS hl => lv_iload_n C.1 C.2.1 d rfl (lv_at hl j hj) (kk H locs ls hP hD hS hl)
theorem g_iload (C : Cx ss p l s m args meth c cc nL Ts own D tys A tb) {i : Nat} {x : Int32} (d : decode cc pc = .ok (.iload i, 2)) (q : Nat) (hq : pc + 2 = q) (j : Nat) (hj : lv[j]? = some (i, .int x)) (kk : Gq p l e R s m args below meth c D A nL Q ws cells slots q lv (.int x :: st)) : Gq p l e R s m args below meth c D A nL Q ws cells slots pc lv st := by
  subst hq
  exact fun H locs ls hP hD hS hl => lv_iload C.1 C.2.1 d (lv_at hl j hj) (kk H locs ls hP hD hS hl)
theorem g_aload_n (C : Cx ss p l s m args meth c cc nL Ts own D tys A tb) {k : Fin 4} {x : Nat} (d : decode cc pc = .ok (.aload_n k, 1)) (q : Nat) (hq : pc + 1 = q) (j : Nat) (hj : lv[j]? = some ((k : Nat), .ref x)) (kk : Gq p l e R s m args below meth c D A nL Q ws cells slots q lv (.ref x :: st)) : Gq p l e R s m args below meth c D A nL Q ws cells slots pc lv st := by
  subst hq
  exact fun H locs ls hP hD hS hl => lv_aload_n C.1 C.2.1 d rfl (lv_at hl j hj) (kk H locs ls hP hD hS hl)
theorem g_aload (C : Cx ss p l s m args meth c cc nL Ts own D tys A tb) {i : Nat} {x : Nat} (d : decode cc pc = .ok (.aload i, 2)) (q : Nat) (hq : pc + 2 = q) (j : Nat) (hj : lv[j]? = some (i, .ref x)) (kk : Gq p l e R s m args below meth c D A nL Q ws cells slots q lv (.ref x :: st)) : Gq p l e R s m args below meth c D A nL Q ws cells slots pc lv st := by
  subst hq
  exact fun H locs ls hP hD hS hl => lv_aload C.1 C.2.1 d (lv_at hl j hj) (kk H locs ls hP hD hS hl)
theorem g_lload_n (C : Cx ss p l s m args meth c cc nL Ts own D tys A tb) {k : Fin 4} {x : Int64} (d : decode cc pc = .ok (.lload_n k, 1)) (q : Nat) (hq : pc + 1 = q) (j : Nat) (hj : lv[j]? = some ((k : Nat), .long x)) (kk : Gq p l e R s m args below meth c D A nL Q ws cells slots q lv (.long x :: st)) : Gq p l e R s m args below meth c D A nL Q ws cells slots pc lv st := by
  subst hq
  exact fun H locs ls hP hD hS hl => lv_lload_n C.1 C.2.1 d rfl (lv_at hl j hj) (kk H locs ls hP hD hS hl)
theorem g_dload (C : Cx ss p l s m args meth c cc nL Ts own D tys A tb) {i : Nat} {x : UInt64} (d : decode cc pc = .ok (.dload i, 2)) (q : Nat) (hq : pc + 2 = q) (j : Nat) (hj : lv[j]? = some (i, .double x)) (kk : Gq p l e R s m args below meth c D A nL Q ws cells slots q lv (.double x :: st)) : Gq p l e R s m args below meth c D A nL Q ws cells slots pc lv st := by
  subst hq
  exact fun H locs ls hP hD hS hl => lv_dload C.1 C.2.1 d (lv_at hl j hj) (kk H locs ls hP hD hS hl)
theorem g_istore_n (C : Cx ss p l s m args meth c cc nL Ts own D tys A tb) {k : Fin 4} {x : Int32} (d : decode cc pc = .ok (.istore_n k, 1)) (q : Nat) (hq : pc + 1 = q) (hn : (k : Nat) < nL) (hl' : ((k : Nat), Value.int x) :: lv.filter (fun q => !(q.1 == (k : Nat)) && !(q.1 + 1 == (k : Nat) && q.2.category == 2)) = lv') (kk : Gq p l e R s m args below meth c D A nL Q ws cells slots q lv' st) : Gq p l e R s m args below meth c D A nL Q ws cells slots pc lv (.int x :: st) := by
  subst hq
  exact fun H locs ls hP hD hS hl => lv_istore_n C.1 C.2.1 d rfl hl hn hl' (fun ls hl => kk H locs ls hP hD hS hl)
theorem g_istore (C : Cx ss p l s m args meth c cc nL Ts own D tys A tb) {i : Nat} {x : Int32} (d : decode cc pc = .ok (.istore i, 2)) (q : Nat) (hq : pc + 2 = q) (hn : i < nL) (hl' : (i, Value.int x) :: lv.filter (fun q => !(q.1 == i) && !(q.1 + 1 == i && q.2.category == 2)) = lv') (kk : Gq p l e R s m args below meth c D A nL Q ws cells slots q lv' st) : Gq p l e R s m args below meth c D A nL Q ws cells slots pc lv (.int x :: st) := by
  subst hq
  exact fun H locs ls hP hD hS hl => lv_istore C.1 C.2.1 d hl hn hl' (fun ls hl => kk H locs ls hP hD hS hl)
theorem g_astore_n (C : Cx ss p l s m args meth c cc nL Ts own D tys A tb) {k : Fin 4} {x : Nat} (d : decode cc pc = .ok (.astore_n k, 1)) (q : Nat) (hq : pc + 1 = q) (hn : (k : Nat) < nL) (hl' : ((k : Nat), Value.ref x) :: lv.filter (fun q => !(q.1 == (k : Nat)) && !(q.1 + 1 == (k : Nat) && q.2.category == 2)) = lv') (kk : Gq p l e R s m args below meth c D A nL Q ws cells slots q lv' st) : Gq p l e R s m args below meth c D A nL Q ws cells slots pc lv (.ref x :: st) := by
  subst hq
  exact fun H locs ls hP hD hS hl => lv_astore_n C.1 C.2.1 d rfl hl hn hl' (fun ls hl => kk H locs ls hP hD hS hl)
theorem g_astore (C : Cx ss p l s m args meth c cc nL Ts own D tys A tb) {i : Nat} {x : Nat} (d : decode cc pc = .ok (.astore i, 2)) (q : Nat) (hq : pc + 2 = q) (hn : i < nL) (hl' : (i, Value.ref x) :: lv.filter (fun q => !(q.1 == i) && !(q.1 + 1 == i && q.2.category == 2)) = lv') (kk : Gq p l e R s m args below meth c D A nL Q ws cells slots q lv' st) : Gq p l e R s m args below meth c D A nL Q ws cells slots pc lv (.ref x :: st) := by
  subst hq
  exact fun H locs ls hP hD hS hl => lv_astore C.1 C.2.1 d hl hn hl' (fun ls hl => kk H locs ls hP hD hS hl)
theorem g_lstore_n (C : Cx ss p l s m args meth c cc nL Ts own D tys A tb) {k : Fin 4} {x : Int64} (d : decode cc pc = .ok (.lstore_n k, 1)) (q : Nat) (hq : pc + 1 = q) (hn : (k : Nat) + 1 < nL) (hl' : ((k : Nat), Value.long x) :: lv.filter (fun q => !(q.1 == (k : Nat)) && (!(q.1 == (k : Nat) + 1) && !(q.1 + 1 == (k : Nat) && q.2.category == 2))) = lv') (kk : Gq p l e R s m args below meth c D A nL Q ws cells slots q lv' st) : Gq p l e R s m args below meth c D A nL Q ws cells slots pc lv (.long x :: st) := by
  subst hq
  exact fun H locs ls hP hD hS hl => lv_lstore_n C.1 C.2.1 d rfl hl hn hl' (fun ls hl => kk H locs ls hP hD hS hl)
theorem g_dstore (C : Cx ss p l s m args meth c cc nL Ts own D tys A tb) {i : Nat} {x : UInt64} (d : decode cc pc = .ok (.dstore i, 2)) (q : Nat) (hq : pc + 2 = q) (hn : i + 1 < nL) (hl' : (i, Value.double x) :: lv.filter (fun q => !(q.1 == i) && (!(q.1 == i + 1) && !(q.1 + 1 == i && q.2.category == 2))) = lv') (kk : Gq p l e R s m args below meth c D A nL Q ws cells slots q lv' st) : Gq p l e R s m args below meth c D A nL Q ws cells slots pc lv (.double x :: st) := by
  subst hq
  exact fun H locs ls hP hD hS hl => lv_dstore C.1 C.2.1 d hl hn hl' (fun ls hl => kk H locs ls hP hD hS hl)
theorem g_iinc (C : Cx ss p l s m args meth c cc nL Ts own D tys A tb) {i : Nat} {n : Int} {x v : Int32} (d : decode cc pc = .ok (.iinc i n, 3)) (q : Nat) (hq : pc + 3 = q) (j : Nat) (hj : lv[j]? = some (i, .int x)) (hv : x + Int32.ofInt n = v) (hn : i < nL) (hl' : (i, Value.int v) :: lv.filter (fun q => !(q.1 == i) && !(q.1 + 1 == i && q.2.category == 2)) = lv') (kk : Gq p l e R s m args below meth c D A nL Q ws cells slots q lv' st) : Gq p l e R s m args below meth c D A nL Q ws cells slots pc lv st := by
  subst hq
  exact fun H locs ls hP hD hS hl => lv_iinc C.1 C.2.1 d hl hj hv hn hl' (fun ls hl => kk H locs ls hP hD hS hl)
theorem g_iadd (C : Cx ss p l s m args meth c cc nL Ts own D tys A tb) {x y : Int32} (d : decode cc pc = .ok (.iadd, 1)) (q : Nat) (hq : pc + 1 = q) (kk : Gq p l e R s m args below meth c D A nL Q ws cells slots q lv (.int (x + y) :: st)) : Gq p l e R s m args below meth c D A nL Q ws cells slots pc lv (.int y :: .int x :: st) := by
  subst hq
  exact fun H locs ls hP hD hS hl => lv_iadd C.1 C.2.1 d (kk H locs ls hP hD hS hl)
theorem g_isub (C : Cx ss p l s m args meth c cc nL Ts own D tys A tb) {x y : Int32} (d : decode cc pc = .ok (.isub, 1)) (q : Nat) (hq : pc + 1 = q) (kk : Gq p l e R s m args below meth c D A nL Q ws cells slots q lv (.int (x - y) :: st)) : Gq p l e R s m args below meth c D A nL Q ws cells slots pc lv (.int y :: .int x :: st) := by
  subst hq
  exact fun H locs ls hP hD hS hl => lv_isub C.1 C.2.1 d (kk H locs ls hP hD hS hl)
theorem g_imul (C : Cx ss p l s m args meth c cc nL Ts own D tys A tb) {x y : Int32} (d : decode cc pc = .ok (.imul, 1)) (q : Nat) (hq : pc + 1 = q) (kk : Gq p l e R s m args below meth c D A nL Q ws cells slots q lv (.int (x * y) :: st)) : Gq p l e R s m args below meth c D A nL Q ws cells slots pc lv (.int y :: .int x :: st) := by
  subst hq
  exact fun H locs ls hP hD hS hl => lv_imul C.1 C.2.1 d (kk H locs ls hP hD hS hl)
theorem g_idiv (C : Cx ss p l s m args meth c cc nL Ts own D tys A tb) {x y : Int32} (hy : ¬ y = 0) (d : decode cc pc = .ok (.idiv, 1)) (q : Nat) (hq : pc + 1 = q) (kk : Gq p l e R s m args below meth c D A nL Q ws cells slots q lv (.int (x / y) :: st)) : Gq p l e R s m args below meth c D A nL Q ws cells slots pc lv (.int y :: .int x :: st) := by
  subst hq
  exact fun H locs ls hP hD hS hl => lv_idiv C.1 C.2.1 d hy (kk H locs ls hP hD hS hl)
theorem g_iand (C : Cx ss p l s m args meth c cc nL Ts own D tys A tb) {x y : Int32} (d : decode cc pc = .ok (.iand, 1)) (q : Nat) (hq : pc + 1 = q) (kk : Gq p l e R s m args below meth c D A nL Q ws cells slots q lv (.int (x &&& y) :: st)) : Gq p l e R s m args below meth c D A nL Q ws cells slots pc lv (.int y :: .int x :: st) := by
  subst hq
  exact fun H locs ls hP hD hS hl => lv_iand C.1 C.2.1 d (kk H locs ls hP hD hS hl)
theorem g_ladd (C : Cx ss p l s m args meth c cc nL Ts own D tys A tb) {x y : Int64} (d : decode cc pc = .ok (.ladd, 1)) (q : Nat) (hq : pc + 1 = q) (kk : Gq p l e R s m args below meth c D A nL Q ws cells slots q lv (.long (x + y) :: st)) : Gq p l e R s m args below meth c D A nL Q ws cells slots pc lv (.long y :: .long x :: st) := by
  subst hq
  exact fun H locs ls hP hD hS hl => lv_ladd C.1 C.2.1 d (kk H locs ls hP hD hS hl)
theorem g_lmul (C : Cx ss p l s m args meth c cc nL Ts own D tys A tb) {x y : Int64} (d : decode cc pc = .ok (.lmul, 1)) (q : Nat) (hq : pc + 1 = q) (kk : Gq p l e R s m args below meth c D A nL Q ws cells slots q lv (.long (x * y) :: st)) : Gq p l e R s m args below meth c D A nL Q ws cells slots pc lv (.long y :: .long x :: st) := by
  subst hq
  exact fun H locs ls hP hD hS hl => lv_lmul C.1 C.2.1 d (kk H locs ls hP hD hS hl)
theorem g_lcmp (C : Cx ss p l s m args meth c cc nL Ts own D tys A tb) {x y : Int64} (d : decode cc pc = .ok (.lcmp, 1)) (q : Nat) (hq : pc + 1 = q) (kk : Gq p l e R s m args below meth c D A nL Q ws cells slots q lv (.int (lg_cmp x y) :: st)) : Gq p l e R s m args below meth c D A nL Q ws cells slots pc lv (.long y :: .long x :: st) := by
  subst hq
  exact fun H locs ls hP hD hS hl => W.lcmp C.1 C.2.1 d (kk H locs ls hP hD hS hl)
theorem g_dcmp (C : Cx ss p l s m args meth c cc nL Ts own D tys A tb) {x y : UInt64} {op : CmpOp} (d : decode cc pc = .ok (.dcmp op, 1)) (q : Nat) (hq : pc + 1 = q) (kk : Gq p l e R s m args below meth c D A nL Q ws cells slots q lv (.int (Op.cmpValue (FP.dcmp x y) op) :: st)) : Gq p l e R s m args below meth c D A nL Q ws cells slots pc lv (.double y :: .double x :: st) := by
  subst hq
  exact fun H locs ls hP hD hS hl => lv_dcmp C.1 C.2.1 d (kk H locs ls hP hD hS hl)
theorem g_ddiv (C : Cx ss p l s m args meth c cc nL Ts own D tys A tb) {x y : UInt64} (hne : vf_n64 (FP.ddiv x y)) (d : decode cc pc = .ok (.ddiv, 1)) (q : Nat) (hq : pc + 1 = q) (kk : Gq p l e R s m args below meth c D A nL Q ws cells slots q lv (.double (FP.ddiv x y) :: st)) : Gq p l e R s m args below meth c D A nL Q ws cells slots pc lv (.double y :: .double x :: st) := by
  subst hq
  exact fun H locs ls hP hD hS hl => lv_ddiv C.1 C.2.1 d hne (kk H locs ls hP hD hS hl)
theorem g_i2l (C : Cx ss p l s m args meth c cc nL Ts own D tys A tb) {x : Int32} (d : decode cc pc = .ok (.i2l, 1)) (q : Nat) (hq : pc + 1 = q) (kk : Gq p l e R s m args below meth c D A nL Q ws cells slots q lv (.long x.toInt64 :: st)) : Gq p l e R s m args below meth c D A nL Q ws cells slots pc lv (.int x :: st) := by
  subst hq
  exact fun H locs ls hP hD hS hl => lv_i2l C.1 C.2.1 d rfl (kk H locs ls hP hD hS hl)
theorem g_i2d (C : Cx ss p l s m args meth c cc nL Ts own D tys A tb) {x : Int32} (d : decode cc pc = .ok (.i2d, 1)) (q : Nat) (hq : pc + 1 = q) (kk : Gq p l e R s m args below meth c D A nL Q ws cells slots q lv (.double (FP.i2d x) :: st)) : Gq p l e R s m args below meth c D A nL Q ws cells slots pc lv (.int x :: st) := by
  subst hq
  exact fun H locs ls hP hD hS hl => lv_i2d C.1 C.2.1 d (kk H locs ls hP hD hS hl)
theorem g_dup (C : Cx ss p l s m args meth c cc nL Ts own D tys A tb) {va : Value} (d : decode cc pc = .ok (.dup, 1)) (q : Nat) (hq : pc + 1 = q) (hva : va.category = 1) (kk : Gq p l e R s m args below meth c D A nL Q ws cells slots q lv (va :: va :: st)) : Gq p l e R s m args below meth c D A nL Q ws cells slots pc lv (va :: st) := by
  subst hq
  exact fun H locs ls hP hD hS hl => lv_dup C.1 C.2.1 d hva (kk H locs ls hP hD hS hl)
theorem g_dup2 (C : Cx ss p l s m args meth c cc nL Ts own D tys A tb) {va vb : Value} (d : decode cc pc = .ok (.dup2, 1)) (q : Nat) (hq : pc + 1 = q) (hva : va.category = 1) (hvb : vb.category = 1) (kk : Gq p l e R s m args below meth c D A nL Q ws cells slots q lv (va :: vb :: va :: vb :: st)) : Gq p l e R s m args below meth c D A nL Q ws cells slots pc lv (va :: vb :: st) := by
  subst hq
  exact fun H locs ls hP hD hS hl => lv_dup2_11 C.1 C.2.1 d hva hvb (kk H locs ls hP hD hS hl)
/-! rows: branches -/
theorem g_goto (C : Cx ss p l s m args meth c cc nL Ts own D tys A tb) {off : Int} (d : decode cc pc = .ok (.goto off, 3)) (tgt : Nat) (ht : (pc : Int) + off = (tgt : Int)) (kk : Gq p l e R s m args below meth c D A nL Q ws cells slots tgt lv st) : Gq p l e R s m args below meth c D A nL Q ws cells slots pc lv st := fun H locs ls hP hD hS hl => lv_goto C.1 C.2.1 d ht (kk H locs ls hP hD hS hl)
theorem g_icmp_ge (C : Cx ss p l s m args meth c cc nL Ts own D tys A tb) {x y : Int32} {off : Int} (d : decode cc pc = .ok (.if_icmp .ge off, 3)) (tgt q : Nat) (ht : (pc : Int) + off = (tgt : Int)) (hq : pc + 3 = q) (kt : y ≤ x → Gq p l e R s m args below meth c D A nL Q ws cells slots tgt lv st) (kf : ¬ y ≤ x → Gq p l e R s m args below meth c D A nL Q ws cells slots q lv st) : Gq p l e R s m args below meth c D A nL Q ws cells slots pc lv (.int y :: .int x :: st) := by
  subst hq
  exact fun H locs ls hP hD hS hl => lv_icmp_ge C.1 C.2.1 d ht (fun h => kt h H locs ls hP hD hS hl) (fun h => kf h H locs ls hP hD hS hl)
theorem g_icmp_lt (C : Cx ss p l s m args meth c cc nL Ts own D tys A tb) {x y : Int32} {off : Int} (d : decode cc pc = .ok (.if_icmp .lt off, 3)) (tgt q : Nat) (ht : (pc : Int) + off = (tgt : Int)) (hq : pc + 3 = q) (kt : x < y → Gq p l e R s m args below meth c D A nL Q ws cells slots tgt lv st) (kf : ¬ x < y → Gq p l e R s m args below meth c D A nL Q ws cells slots q lv st) : Gq p l e R s m args below meth c D A nL Q ws cells slots pc lv (.int y :: .int x :: st) := by
  subst hq
  exact fun H locs ls hP hD hS hl => lv_icmp_lt C.1 C.2.1 d ht (fun h => kt h H locs ls hP hD hS hl) (fun h => kf h H locs ls hP hD hS hl)
theorem g_icmp_gt (C : Cx ss p l s m args meth c cc nL Ts own D tys A tb) {x y : Int32} {off : Int} (d : decode cc pc = .ok (.if_icmp .gt off, 3)) (tgt q : Nat) (ht : (pc : Int) + off = (tgt : Int)) (hq : pc + 3 = q) (kt : y < x → Gq p l e R s m args below meth c D A nL Q ws cells slots tgt lv st) (kf : ¬ y < x → Gq p l e R s m args below meth c D A nL Q ws cells slots q lv st) : Gq p l e R s m args below meth c D A nL Q ws cells slots pc lv (.int y :: .int x :: st) := by
  subst hq
  exact fun H locs ls hP hD hS hl => lv_icmp_gt C.1 C.2.1 d ht (fun h => kt h H locs ls hP hD hS hl) (fun h => kf h H locs ls hP hD hS hl)
theorem g_icmp_le (C : Cx ss p l s m args meth c cc nL Ts own D tys A tb) {x y : Int32} {off : Int} (d : decode cc pc = .ok (.if_icmp .le off, 3)) (tgt q : Nat) (ht : (pc : Int) + off = (tgt : Int)) (hq : pc + 3 = q) (kt : x ≤ y → Gq p l e R s m args below meth c D A nL Q ws cells slots tgt lv st) (kf : ¬ x ≤ y → Gq p l e R s m args below meth c D A nL Q ws cells slots q lv st) : Gq p l e R s m args below meth c D A nL Q ws cells slots pc lv (.int y :: .int x :: st) := by
  subst hq
  exact fun H locs ls hP hD hS hl => lv_icmp_le C.1 C.2.1 d ht (fun h => kt h H locs ls hP hD hS hl) (fun h => kf h H locs ls hP hD hS hl)
theorem g_icmp_eq (C : Cx ss p l s m args meth c cc nL Ts own D tys A tb) {x y : Int32} {off : Int} (d : decode cc pc = .ok (.if_icmp .eq off, 3)) (tgt q : Nat) (ht : (pc : Int) + off = (tgt : Int)) (hq : pc + 3 = q) (kt : x = y → Gq p l e R s m args below meth c D A nL Q ws cells slots tgt lv st) (kf : ¬ x = y → Gq p l e R s m args below meth c D A nL Q ws cells slots q lv st) : Gq p l e R s m args below meth c D A nL Q ws cells slots pc lv (.int y :: .int x :: st) := by
  subst hq
  exact fun H locs ls hP hD hS hl => lv_icmp_eq C.1 C.2.1 d ht (fun h => kt h H locs ls hP hD hS hl) (fun h => kf h H locs ls hP hD hS hl)
theorem g_icmp_ne (C : Cx ss p l s m args meth c cc nL Ts own D tys A tb) {x y : Int32} {off : Int} (d : decode cc pc = .ok (.if_icmp .ne off, 3)) (tgt q : Nat) (ht : (pc : Int) + off = (tgt : Int)) (hq : pc + 3 = q) (kt : ¬ x = y → Gq p l e R s m args below meth c D A nL Q ws cells slots tgt lv st) (kf : x = y → Gq p l e R s m args below meth c D A nL Q ws cells slots q lv st) : Gq p l e R s m args below meth c D A nL Q ws cells slots pc lv (.int y :: .int x :: st) := by
  subst hq
  exact fun H locs ls hP hD hS hl => lv_icmp_ne C.1 C.2.1 d ht (fun h => kt h H locs ls hP hD hS hl) (fun h => kf h H locs ls hP hD hS hl)
theorem g_if_eq (C : Cx ss p l s m args meth c cc nL Ts own D tys A tb) {x : Int32} {off : Int} (d : decode cc pc = .ok (.ifCond .eq off, 3)) (tgt q : Nat) (ht : (pc : Int) + off = (tgt : Int)) (hq : pc + 3 = q) (kt : x = 0 → Gq p l e R s m args below meth c D A nL Q ws cells slots tgt lv st) (kf : ¬ x = 0 → Gq p l e R s m args below meth c D A nL Q ws cells slots q lv st) : Gq p l e R s m args below meth c D A nL Q ws cells slots pc lv (.int x :: st) := by
  subst hq
  exact fun H locs ls hP hD hS hl => lv_if_eq C.1 C.2.1 d ht (fun h => kt h H locs ls hP hD hS hl) (fun h => kf h H locs ls hP hD hS hl)
theorem g_if_ne (C : Cx ss p l s m args meth c cc nL Ts own D tys A tb) {x : Int32} {off : Int} (d : decode cc pc = .ok (.ifCond .ne off, 3)) (tgt q : Nat) (ht : (pc : Int) + off = (tgt : Int)) (hq : pc + 3 = q) (kt : ¬ x = 0 → Gq p l e R s m args below meth c D A nL Q ws cells slots tgt lv st) (kf : x = 0 → Gq p l e R s m args below meth c D A nL Q ws cells slots q lv st) : Gq p l e R s m args below meth c D A nL Q ws cells slots pc lv (.int x :: st) := by
  subst hq
  exact fun H locs ls hP hD hS hl => lv_if_ne C.1 C.2.1 d ht (fun h => kt h H locs ls hP hD hS hl) (fun h => kf h H locs ls hP hD hS hl)
theorem g_if_lt (C : Cx ss p l s m args meth c cc nL Ts own D tys A tb) {x : Int32} {off : Int} (d : decode cc pc = .ok (.ifCond .lt off, 3)) (tgt q : Nat) (ht : (pc : Int) + off = (tgt : Int)) (hq : pc + 3 = q) (kt : x < 0 → Gq p l e R s m args below meth c D A nL Q ws cells slots tgt lv st) (kf : ¬ x < 0 → Gq p l e R s m args below meth c D A nL Q ws cells slots q lv st) : Gq p l e R s m args below meth c D A nL Q ws cells slots pc lv (.int x :: st) := by
  subst hq
  exact fun H locs ls hP hD hS hl => lv_if_lt C.1 C.2.1 d ht (fun h => kt h H locs ls hP hD hS hl) (fun h => kf h H locs ls hP hD hS hl)
theorem g_if_le (C : Cx ss p l s m args meth c cc nL Ts own D tys A tb) {x : Int32} {off : Int} (d : decode cc pc = .ok (.ifCond .le off, 3)) (tgt q : Nat) (ht : (pc : Int) + off = (tgt : Int)) (hq : pc + 3 = q) (kt : x ≤ 0 → Gq p l e R s m args below meth c D A nL Q ws cells slots tgt lv st) (kf : ¬ x ≤ 0 → Gq p l e R s m args below meth c D A nL Q ws cells slots q lv st) : Gq p l e R s m args below meth c D A nL Q ws cells slots pc lv (.int x :: st) := by
  subst hq
  exact fun H locs ls hP hD hS hl => lv_if_le C.1 C.2.1 d ht (fun h => kt h H locs ls hP hD hS hl) (fun h => kf h H locs ls hP hD hS hl)
theorem g_if_gt (C : Cx ss p l s m args meth c cc nL Ts own D tys A tb) {x : Int32} {off : Int} (d : decode cc pc = .ok (.ifCond .gt off, 3)) (tgt q : Nat) (ht : (pc : Int) + off = (tgt : Int)) (hq : pc + 3 = q) (kt : 0 < x → Gq p l e R s m args below meth c D A nL Q ws cells slots tgt lv st) (kf : ¬ 0 < x → Gq p l e R s m args below meth c D A nL Q ws cells slots q lv st) : Gq p l e R s m args below meth c D A nL Q ws cells slots pc lv (.int x :: st) := by
  subst hq
  exact fun H locs ls hP hD hS hl => lv_if_gt C.1 C.2.1 d ht (fun h => kt h H locs ls hP hD hS hl) (fun h => kf h H locs ls hP hD hS hl)
/-! rows: fields and arrays -/
theorem g_get (C : Cx ss p l s m args meth c cc nL Ts own D tys A tb) {ref Cn : String} {T : u_T} {N ci i a : Nat} {fs : List Value} {v : Value} (hin : ∀ w ∈ u_ws Cn T N, w ∈ Ts) (q0 : Nat) (he : ws[q0]? = some (a, .inr (ci, fs))) (hc : vwCl[ci]? = some (Cn, T, N)) (k : Nat) (hk : k < N) (hlink : (Cond.fieldLink own i ref (T k).2.1 (T k).2.2.1).before args s = true) (hsame : (T k).1 = ref) (hv : fs[k]? = some v) (d : decode cc pc = .ok (.getfield i, 3)) (q : Nat) (hq : pc + 3 = q)
    (kk : Gq p l e R s m args below meth c D A nL Q ws cells slots q lv (v :: st)) : Gq p l e R s m args below meth c D A nL Q ws cells slots pc lv (.ref a :: st) := by
  subst hq
  exact fun H locs ls hP hD hS hl => va_get C.1 C.2.1 C.2.2.2.2.1 hin C.2.2.2.1 C.2.2.2.2.2.1 hP q0 he hc k hk hlink (fun x h => by rw [← hsame]; exact h) hv d (kk H locs ls hP hD hS hl)
theorem g_put (C : Cx ss p l s m args meth c cc nL Ts own D tys A tb) {ref Cn : String} {T : u_T} {N ci i a : Nat} {fs : List Value} {x : Int32} (hin : ∀ w ∈ u_ws Cn T N, w ∈ Ts) (ty0 : Nat → FieldType) (hty : ∀ k, k < N → parseFieldDescriptor (T k).2.2.1 = some (ty0 k)) (hnm : ∀ a, a < N → ∀ b, b < N → a ≠ b → (T a).2.1 ≠ (T b).2.1) (q0 : Nat) (he : ws[q0]? = some (a, .inr (ci, fs))) (hc : vwCl[ci]? = some (Cn, T, N)) (k : Nat) (hk : k < N) (hlink : (Cond.fieldLink own i ref (T k).2.1 (T k).2.2.1).before args s = true) (hsame : (T k).1 = ref) (hfl : (T k).2.2.2 = false) (hti : ty0 k = .int) (hl0 : k < fs.length) (hw : ws.set q0 (a, .inr (ci, fs.set k (.int x))) = ws') (d : decode cc pc = .ok (.putfield i, 3)) (q : Nat) (hq : pc + 3 = q)
    (kk : Gq p l e R s m args below meth c D A nL Q ws' cells slots q lv st) : Gq p l e R s m args below meth c D A nL Q ws cells slots pc lv (.int x :: .ref a :: st) := by
  subst hq
  subst hw
  refine fun H locs ls hP hD hS hl => va_put (v := .int x) (ty := .int) C.1 C.2.1 C.2.2.2.2.1 hin ty0 hty hnm C.2.2.2.1 C.2.2.2.2.2.1 hP hD hS q0 he hc k hk hlink (fun x h => by rw [← hsame]; exact h) hfl ?_ ?_ ?_ hl0 d (fun H locs hP hD hS => kk H locs ls hP hD hS hl)
  all_goals first | exact hti | rfl | (rw [hti]; rfl) | (rw [hty k hk, hti]; done)
theorem g_newa (C : Cx ss p l s m args meth c cc nL Ts own D tys A tb) {atype : ArrayType} {ty : FieldType} {cA : ClassId} {a0 : vp_A} {n : Int32} (harr : (Cond.arrayClass (newarray.typeOf atype)).before args s = true) (hty : newarray.typeOf atype = ty) (hobj : ∀ C, ty ≠ .object C) (t0 : Nat) (ht : tys[t0]? = some (cA, ty)) (N : Nat) (ha : ∀ cA : ClassId, vp_cell cA a0 = arrV cA N (fun _ => defaultValue ty)) (hn : ¬ n < 0) (hN : n.toNatClampNeg = N) (hby : N * componentBytes ty ≤ 536870912) {c2 s2 : Nat} (hc2 : cells + 1 = c2) (hs2 : slots + N = s2) (hcells : c2 ≤ R.cells) (hslots : s2 ≤ R.slots) (d : decode cc pc = .ok (.newarray atype, 2)) (q : Nat) (hq : pc + 2 = q)
    (kk : ∀ z : Nat, Gq p l e R s m args below meth c D A nL Q (ws ++ [(z, .inl (cA, a0))]) c2 s2 q lv (.ref z :: st)) : Gq p l e R s m args below meth c D A nL Q ws cells slots pc lv (.int n :: st) := by
  subst hq; subst hc2; subst hs2
  refine fun H locs ls hP hD hS hl => va_newa C.1 C.2.1 (atype := atype) harr hty C.2.2.2.2.2.1 hP hD hS C.2.2.2.2.2.2.1 (n := n) (N' := N) (a0 := a0) ha hn hN hby hcells hslots d (fun z cB H1 hK1 hP1 hD1 hS1 => ?_)
  have h1 := (hK1.2 tys.length (cB, ty) (by rw [List.getElem?_append_right (Nat.le_refl _)]; simp)).2
  have h2 := (C.2.2.2.2.2.1.2 t0 _ ht).2
  have e : cB = cA := by
    cases ty with
    | object C => exact absurd rfl (hobj C)
    | _ => exact Option.some.inj (h1.symm.trans h2)
  subst e
  exact kk z H1 locs ls hP1 hD1 hS1 hl
def ldA (f : Nat → Int32) (n : Nat) (i : Int32) : Option Int32 := if i < 0 ∨ n ≤ i.toNatClampNeg then none else some (f i.toNatClampNeg)
def ldL (f : Nat → Int64) (n : Nat) (i : Int32) : Option Int64 := if i < 0 ∨ n ≤ i.toNatClampNeg then none else some (f i.toNatClampNeg)
theorem ldA_s {f : Nat → Int32} {n : Nat} {i x : Int32} (h : ldA f n i = some x) : vp_in i n ∧ f i.toNatClampNeg = x := by
  unfold ldA at h
  split at h
  · cases h
  · exact ⟨by assumption, Option.some.inj h⟩
theorem ldL_s {f : Nat → Int64} {n : Nat} {i : Int32} {x : Int64} (h : ldL f n i = some x) : vp_in i n ∧ f i.toNatClampNeg = x := by
  unfold ldL at h
  split at h
  · cases h
  · exact ⟨by assumption, Option.some.inj h⟩
theorem g_iald (C : Cx ss p l s m args meth c cc nL Ts own D tys A tb) {a n : Nat} {cA : ClassId} {f : Nat → Int32} {i x : Int32} (q0 t0 : Nat) (ha : ws[q0]? = some (a, .inl (cA, n, .inl f))) (ht : tys[t0]? = some (cA, .int)) (hld : ldA f n i = some x) (d : decode cc pc = .ok (.iaload, 1)) (q : Nat) (hq : pc + 1 = q) (kk : Gq p l e R s m args below meth c D A nL Q ws cells slots q lv (.int x :: st)) : Gq p l e R s m args below meth c D A nL Q ws cells slots pc lv (.int i :: .ref a :: st) := by
  subst hq
  obtain ⟨hin, rfl⟩ := ldA_s hld
  exact fun H locs ls hP hD hS hl => va_iald C.1 C.2.1 C.2.2.2.2.2.1 hP q0 t0 ha ht hin d (kk H locs ls hP hD hS hl)
theorem g_zald (C : Cx ss p l s m args meth c cc nL Ts own D tys A tb) {a n : Nat} {cA : ClassId} {f : Nat → Int32} {i x : Int32} (q0 t0 : Nat) (ha : ws[q0]? = some (a, .inl (cA, n, .inl f))) (ht : tys[t0]? = some (cA, .boolean)) (hld : ldA f n i = some x) (d : decode cc pc = .ok (.baload, 1)) (q : Nat) (hq : pc + 1 = q) (kk : Gq p l e R s m args below meth c D A nL Q ws cells slots q lv (.int x :: st)) : Gq p l e R s m args below meth c D A nL Q ws cells slots pc lv (.int i :: .ref a :: st) := by
  subst hq
  obtain ⟨hin, rfl⟩ := ldA_s hld
  exact fun H locs ls hP hD hS hl => va_zald C.1 C.2.1 C.2.2.2.2.2.1 hP q0 t0 ha ht hin d (kk H locs ls hP hD hS hl)
theorem g_lald (C : Cx ss p l s m args meth c cc nL Ts own D tys A tb) {a n : Nat} {cA : ClassId} {f : Nat → Int64} {i : Int32} {x : Int64} (q0 t0 : Nat) (ha : ws[q0]? = some (a, .inl (cA, n, .inr (.inl f)))) (ht : tys[t0]? = some (cA, .long)) (hld : ldL f n i = some x) (d : decode cc pc = .ok (.laload, 1)) (q : Nat) (hq : pc + 1 = q) (kk : Gq p l e R s m args below meth c D A nL Q ws cells slots q lv (.long x :: st)) : Gq p l e R s m args below meth c D A nL Q ws cells slots pc lv (.int i :: .ref a :: st) := by
  subst hq
  obtain ⟨hin, rfl⟩ := ldL_s hld
  exact fun H locs ls hP hD hS hl => va_lald C.1 C.2.1 C.2.2.2.2.2.1 hP q0 t0 ha ht hin d (kk H locs ls hP hD hS hl)
theorem g_iast (C : Cx ss p l s m args meth c cc nL Ts own D tys A tb) {a n : Nat} {cA : ClassId} {f : Nat → Int32} {i x : Int32} (q0 t0 : Nat) (ha : ws[q0]? = some (a, .inl (cA, n, .inl f))) (ht : tys[t0]? = some (cA, .int)) (hin : vp_in i n) (hw : ws.set q0 (a, .inl (cA, n, .inl (upd f i.toNatClampNeg x))) = ws') (d : decode cc pc = .ok (.iastore, 1)) (q : Nat) (hq : pc + 1 = q) (kk : Gq p l e R s m args below meth c D A nL Q ws' cells slots q lv st) : Gq p l e R s m args below meth c D A nL Q ws cells slots pc lv (.int x :: .int i :: .ref a :: st) := by
  subst hq; subst hw
  exact fun H locs ls hP hD hS hl => va_iast C.1 C.2.1 C.2.2.2.2.2.1 hP hD hS q0 t0 ha ht hin d (fun H locs hP hD hS => kk H locs ls hP hD hS hl)
theorem g_zast (C : Cx ss p l s m args meth c cc nL Ts own D tys A tb) {a n : Nat} {cA : ClassId} {f : Nat → Int32} {i x : Int32} (q0 t0 : Nat) (ha : ws[q0]? = some (a, .inl (cA, n, .inl f))) (ht : tys[t0]? = some (cA, .boolean)) (hin : vp_in i n) (hx : vp_nar .boolean x = x) (hw : ws.set q0 (a, .inl (cA, n, .inl (upd f i.toNatClampNeg x))) = ws') (d : decode cc pc = .ok (.bastore, 1)) (q : Nat) (hq : pc + 1 = q) (kk : Gq p l e R s m args below meth c D A nL Q ws' cells slots q lv st) : Gq p l e R s m args below meth c D A nL Q ws cells slots pc lv (.int x :: .int i :: .ref a :: st) := by
  subst hq; subst hw
  exact fun H locs ls hP hD hS hl => va_zast C.1 C.2.1 C.2.2.2.2.2.1 hP hD hS q0 t0 ha ht hin d (fun H locs hP hD hS => by
    rw [hx] at hP hD
    exact kk H locs ls hP hD hS hl)
theorem g_last (C : Cx ss p l s m args meth c cc nL Ts own D tys A tb) {a n : Nat} {cA : ClassId} {f : Nat → Int64} {i : Int32} {x : Int64} (q0 t0 : Nat) (ha : ws[q0]? = some (a, .inl (cA, n, .inr (.inl f)))) (ht : tys[t0]? = some (cA, .long)) (hin : vp_in i n) (hw : ws.set q0 (a, .inl (cA, n, .inr (.inl (vp_updL f i.toNatClampNeg x)))) = ws') (d : decode cc pc = .ok (.lastore, 1)) (q : Nat) (hq : pc + 1 = q) (kk : Gq p l e R s m args below meth c D A nL Q ws' cells slots q lv st) : Gq p l e R s m args below meth c D A nL Q ws cells slots pc lv (.long x :: .int i :: .ref a :: st) := by
  subst hq; subst hw
  exact fun H locs ls hP hD hS hl => va_last C.1 C.2.1 C.2.2.2.2.2.1 hP hD hS q0 t0 ha ht hin d (fun H locs hP hD hS => kk H locs ls hP hD hS hl)
theorem g_alen (C : Cx ss p l s m args meth c cc nL Ts own D tys A tb) {a : Nat} {cA : ClassId} {x : vp_A} {ty : FieldType} {v : Int32} (q0 t0 : Nat) (ha : ws[q0]? = some (a, .inl (cA, x))) (ht : tys[t0]? = some (cA, ty)) (hv : Int32.ofNat x.1 = v) (d : decode cc pc = .ok (.arraylength, 1)) (q : Nat) (hq : pc + 1 = q) (kk : Gq p l e R s m args below meth c D A nL Q ws cells slots q lv (.int v :: st)) : Gq p l e R s m args below meth c D A nL Q ws cells slots pc lv (.ref a :: st) := by
  subst hq
  exact fun H locs ls hP hD hS hl => va_alen C.1 C.2.1 C.2.2.2.2.2.1 hP q0 t0 ha ht hv d (kk H locs ls hP hD hS hl)
theorem g_mmax (C : Cx ss p l s m args meth c cc nL Ts own D tys A tb) {i : Nat} {x y : Int32} (h1 : (Cond.methodLink own i Lib.Math.max.name).before args s = true) (h2 : (Cond.static Lib.Math.max.name).before args s = true) (h3 : (Cond.initialized "java/lang/Math").before args s = true) (h4 : (Cond.code Lib.Math.max.name Lib.Math.max.code 2 (some .int)).before args s = true) (hf : 1 ≤ R.frames) (hlo : (st.map fun v => v.category).sum + 13 ≤ R.locals) (hc : cells ≤ R.cells) (hs : slots ≤ R.slots) (d : decode cc pc = .ok (.invokestatic i, 3)) (q : Nat) (hq : pc + 3 = q) (kk : Gq p l e R s m args below meth c D A nL Q ws cells slots q lv (.int (if x < y then y else x) :: st)) : Gq p l e R s m args below meth c D A nL Q ws cells slots pc lv (.int y :: .int x :: st) := by
  subst hq
  exact fun H locs ls hP hD hS hl => va_mmax C.1 C.2.1 (C.2.2.1.trans hl.1.symm) C.2.2.2.1 h1 h2 h3 h4 hf hlo hc hs d (kk H locs ls hP hD hS hl)
theorem g_mmin (C : Cx ss p l s m args meth c cc nL Ts own D tys A tb) {i : Nat} {x y : Int32} (h1 : (Cond.methodLink own i Lib.Math.min.name).before args s = true) (h2 : (Cond.static Lib.Math.min.name).before args s = true) (h3 : (Cond.initialized "java/lang/Math").before args s = true) (h4 : (Cond.code Lib.Math.min.name Lib.Math.min.code 2 (some .int)).before args s = true) (hf : 1 ≤ R.frames) (hlo : (st.map fun v => v.category).sum + 13 ≤ R.locals) (hc : cells ≤ R.cells) (hs : slots ≤ R.slots) (d : decode cc pc = .ok (.invokestatic i, 3)) (q : Nat) (hq : pc + 3 = q) (kk : Gq p l e R s m args below meth c D A nL Q ws cells slots q lv (.int (if y < x then y else x) :: st)) : Gq p l e R s m args below meth c D A nL Q ws cells slots pc lv (.int y :: .int x :: st) := by
  subst hq
  exact fun H locs ls hP hD hS hl => va_mmin C.1 C.2.1 (C.2.2.1.trans hl.1.symm) C.2.2.2.1 h1 h2 h3 h4 hf hlo hc hs d (kk H locs ls hP hD hS hl)
theorem g_copy (C : Cx ss p l s m args meth c cc nL Ts own D tys A tb) {i : Nat} {a a0 n0 n1 : Nat} {c0 c1 : ClassId} {f g : Nat → Int32} {sp dp n : Int32} (h1 : (Cond.methodLink own i arraycopyName).before args s = true) (h2 : (Cond.native arraycopyName).before args s = true) (h3 : (Cond.static arraycopyName).before args s = true) (h4 : (Cond.initialized "java/lang/System").before args s = true) (q0 q1 t0 t1 : Nat) (ha0 : ws[q0]? = some (a0, .inl (c0, n0, .inl f))) (ha1 : ws[q1]? = some (a, .inl (c1, n1, .inl g))) (ht0 : tys[t0]? = some (c0, .int)) (ht1 : tys[t1]? = some (c1, .int)) (b1 : ¬ sp < 0) (b2 : ¬ dp < 0) (b3 : ¬ n < 0) (b4 : sp.toNatClampNeg + n.toNatClampNeg ≤ n0) (b5 : dp.toNatClampNeg + n.toNatClampNeg ≤ n1) (hf : 1 ≤ R.frames) (hlo : (st.map fun v => v.category).sum + (nativeFrameWords "java/lang/System" "arraycopy" 5 + 11) ≤ R.locals) (hw : ws.set q1 (a, .inl (c1, n1, .inl (va_cpy f g sp.toNatClampNeg dp.toNatClampNeg n.toNatClampNeg))) = ws') (d : decode cc pc = .ok (.invokestatic i, 3)) (q : Nat) (hq : pc + 3 = q) (kk : Gq p l e R s m args below meth c D A nL Q ws' cells slots q lv st) : Gq p l e R s m args below meth c D A nL Q ws cells slots pc lv (.int n :: .int dp :: .ref a :: .int sp :: .ref a0 :: st) := by
  subst hq; subst hw
  exact fun H locs ls hP hD hS hl => va_copyi C.1 C.2.1 (C.2.2.1.trans hl.1.symm) C.2.2.2.1 h1 h2 h3 h4 C.2.2.2.2.2.1 hP hD hS q0 q1 t0 t1 ha0 ha1 ht0 ht1 rfl b1 b2 b3 b4 b5 (fun _ _ => rfl) hf hlo d (fun H locs hP hD hS => kk H locs ls hP hD hS hl)
/-! rows: ends -/
theorem g_iret (C : Cx ss p l s m args meth c cc nL Ts own D tys A tb) {W0 : va_W} {Rr : Oc → Prop} {mc ms : Nat} {v : Int32} (hr : meth.sig.returnType = some .int) (hR : Rr (.inr (some (.int v), ws))) (h1 : cells ≤ mc) (h2 : slots ≤ ms) (d : decode cc pc = .ok (.ireturn, 1)) : Gq p l e R s m args below meth c D A nL (CQ below D W0 Rr args s mc ms A) ws cells slots pc lv [.int v] :=
  fun H locs ls hP hD hS hl => W.widen h1 h2 (vx_ret (W.iret C.1 C.2.1 hr (fun t ht hW => ⟨⟨_, _, hR, rfl, by rw [ht]; exact hP, hD⟩, hS.F ht⟩) hS.2.2 d C.2.2.2.2.2.2.2.1))
theorem g_zret (C : Cx ss p l s m args meth c cc nL Ts own D tys A tb) {W0 : va_W} {Rr : Oc → Prop} {mc ms : Nat} {v : Int32} (hr : meth.sig.returnType = some .boolean) (hv : v = 0 ∨ v = 1) (hR : Rr (.inr (some (.int v), ws))) (h1 : cells ≤ mc) (h2 : slots ≤ ms) (d : decode cc pc = .ok (.ireturn, 1)) : Gq p l e R s m args below meth c D A nL (CQ below D W0 Rr args s mc ms A) ws cells slots pc lv [.int v] :=
  fun H locs ls hP hD hS hl => W.widen h1 h2 (vx_ret (W.zret C.1 C.2.1 hr (by rcases hv with rfl | rfl <;> rfl) (fun t ht hW => ⟨⟨_, _, hR, rfl, by rw [ht]; exact hP, hD⟩, hS.F ht⟩) hS.2.2 d C.2.2.2.2.2.2.2.1))
theorem g_lret (C : Cx ss p l s m args meth c cc nL Ts own D tys A tb) {W0 : va_W} {Rr : Oc → Prop} {mc ms : Nat} {v : Int64} (hr : meth.sig.returnType = some .long) (hR : Rr (.inr (some (.long v), ws))) (h1 : cells ≤ mc) (h2 : slots ≤ ms) (d : decode cc pc = .ok (.lreturn, 1)) : Gq p l e R s m args below meth c D A nL (CQ below D W0 Rr args s mc ms A) ws cells slots pc lv [.long v] :=
  fun H locs ls hP hD hS hl => W.widen h1 h2 (vx_ret (W.lret C.1 C.2.1 hr (fun t ht hW => ⟨⟨_, _, hR, rfl, by rw [ht]; exact hP, hD⟩, hS.F ht⟩) hS.2.2 d C.2.2.2.2.2.2.2.1))
theorem g_dret (C : Cx ss p l s m args meth c cc nL Ts own D tys A tb) {W0 : va_W} {Rr : Oc → Prop} {mc ms : Nat} {v : UInt64} (hr : meth.sig.returnType = some .double) (hR : Rr (.inr (some (.double v), ws))) (h1 : cells ≤ mc) (h2 : slots ≤ ms) (d : decode cc pc = .ok (.dreturn, 1)) : Gq p l e R s m args below meth c D A nL (CQ below D W0 Rr args s mc ms A) ws cells slots pc lv [.double v] :=
  fun H locs ls hP hD hS hl => W.widen h1 h2 (vx_ret (W.dret C.1 C.2.1 hr (fun t ht hW => ⟨⟨_, _, hR, rfl, by rw [ht]; exact hP, hD⟩, hS.F ht⟩) hS.2.2 d C.2.2.2.2.2.2.2.1))
theorem g_vret (C : Cx ss p l s m args meth c cc nL Ts own D tys A tb) {W0 : va_W} {Rr : Oc → Prop} {mc ms : Nat} (hr : meth.sig.returnType = none) (hR : Rr (.inr (none, ws))) (h1 : cells ≤ mc) (h2 : slots ≤ ms) (d : decode cc pc = .ok (.return_, 1)) : Gq p l e R s m args below meth c D A nL (CQ below D W0 Rr args s mc ms A) ws cells slots pc lv [] :=
  fun H locs ls hP hD hS hl => W.widen h1 h2 (vx_ret (W.vret C.1 C.2.1 hr (fun t ht hW => ⟨⟨_, _, hR, rfl, by rw [ht]; exact hP, hD⟩, hS.F ht⟩) hS.2.2 d C.2.2.2.2.2.2.2.1))
def nms : List String := ["java/lang/RuntimeException", "java/lang/Exception"]
theorem g_throw (C : Cx ss p l s m args meth c cc nL Ts own D tys A []) {W0 : va_W} {Rr : Oc → Prop} {mc ms ik is ic n : Nat} {text : String} (hss : (own, is, text) ∈ ss) (hk : (Cond.classLink own ik (xn n)).before args s = true) (hini : (Cond.initialized (xn n)).before args s = true) (hat : ∀ w ∈ (vx_atS own ic (xn n) nms).filter goodWord, w.before args s = true) (h2 : ∀ w ∈ (vx_atS own ic (xn n) nms).filter (fun w => !goodWord w), w ∈ ev_w) (hgood : ∀ w ∈ Cond.classLink own ik (xn n) :: Cond.initialized (xn n) :: vx_atS own ic (xn n) nms, vx_ot w = true) (hfit : Bundle.fit (xn n) = true) (hR : Rr (.inl n)) (hW0 : ws = W0) (hRf : 5 < R.frames) (hRl : (st.map fun v => v.category).sum + 82 ≤ R.locals) (hc : cells + 1 ≤ R.cells) (hs : slots + 6 ≤ R.slots) (hc1 : cells + 1 ≤ mc) (hs1 : slots + 6 ≤ ms)
    (d0 : decode cc pc = .ok (.new ik, 3)) (d3 : decode cc (pc + 3) = .ok (.dup, 1)) (d4 : decode cc (pc + 4) = .ok (.ldc is, 2)) (d6 : decode cc (pc + 6) = .ok (.invokespecial ic, 3)) (d9 : decode cc (pc + 9) = .ok (.athrow, 1)) : Gq p l e R s m args below meth c D A nL (CQ below D W0 Rr args s mc ms A) ws cells slots pc lv st := by
  subst hW0
  intro H locs ls hP hD hS hl
  obtain ⟨sa, hsa⟩ := C.2.2.2.2.2.2.2.2.1.2.2.2.1 _ hss
  have E := C.2.2.2.2.2.2.2.2.1
  have hxl : ∀ x ∈ c.exceptionTable.toList, covers x (pc + 9) = false := by
    rw [C.2.2.2.2.2.2.2.2.2.1]
    intro x hx
    cases hx
  refine vx_throwS (names := nms) C.1 C.2.1 C.2.2.2.2.2.2.2.2.2.2 C.2.2.2.1 hfit (by decide +kernel) hk hini hsa (vx_hat (B := ev_w) hat h2 (fun w hw => (E.2.2.1 w hw).use (ev_on w hw))) hgood E.1 E.2.1 hS (hl.1.trans C.2.2.1.symm) d0 d3 d4 d6 d9 hxl hRf hRl hc hs C.2.2.2.2.2.2.2.1 ?_ hS.2.2 hc1 hs1
  intro t hal hsz hk
  refine ⟨⟨n, hR, rfl, ?_, hD⟩, Nat.le_trans hS.1 hsz, fun q h1 h2 => by rw [hk q (Nat.lt_of_lt_of_le h1 hS.1)]; exact hS.2.1 q h1 h2⟩
  rw [vpm] at hP ⊢
  exact fun q hq => (hP q hq).kept (hk q.1 (hP q hq).lt)
/-- not caught: it goes on -/
theorem g_xout (C : Cx ss p l s m args meth c cc nL Ts own D tys A []) {W0 : va_W} {Rr : Oc → Prop} {mc ms n : Nat} (hR : Rr (.inl n)) (hW0 : ws = W0) (hc1 : cells ≤ mc) (hs1 : slots ≤ ms) : Gx p l e R s m args below meth c D A nL (CQ below D W0 Rr args s mc ms A) ws cells slots pc lv n := by
  subst hW0
  intro H locs ls rest q ce hP hD hS hl hce hcv hcl
  have hxl : ∀ x ∈ c.exceptionTable.toList, covers x pc = false := by
    rw [C.2.2.2.2.2.2.2.2.2.1]
    intro x hx
    cases hx
  exact vx_out hxl C.2.2.2.2.2.2.2.1 hce hcv hcl (fun t ht hal => ⟨⟨n, hR, rfl, by rw [ht]; exact hP, hD⟩, hS.F ht⟩) hS.2.2 hc1 hs1
/-- caught by the row x of the table -/
theorem g_xcatch (C : Cx ss p l s m args meth c cc nL Ts own D tys A tb) {n : Nat} (pre : List ExceptionTableEntry) (x : ExceptionTableEntry) (suf : List ExceptionTableEntry) (hsplit : tb = pre ++ x :: suf) (hpass : ∀ z ∈ pre, z.catchType ≠ 0 ∧ ∃ nm : String, (Cond.classLink own z.catchType nm).before args s = true ∧ (xn n, nm) ∈ ev_n) (hx : covers x pc = true) (h0 : x.catchType ≠ 0) (hlink : (Cond.classLink own x.catchType (xn n)).before args s = true) (hcast : Cond.castable (xn n) (xn n) ∈ ev_w) (q : Nat) (hq : x.handlerPc = q)
    (kk : ∀ z, Gq p l e R s m args below meth c D A nL Q ws cells slots q lv [.ref z]) : Gx p l e R s m args below meth c D A nL Q ws cells slots pc lv n := by
  subst hq
  intro H locs ls rest z ce hP hD hS hl hce hcv hcl
  have E := C.2.2.2.2.2.2.2.2.1
  exact vx_catch C.2.2.2.1 pre x suf (by rw [C.2.2.2.2.2.2.2.2.2.1]; exact hsplit) (fun y hy => Or.inr ⟨(hpass y hy).1, by
    obtain ⟨nm, h1, h2⟩ := (hpass y hy).2
    exact ⟨nm, h1, E.2.2.2.2 _ h2⟩⟩) hx h0 hlink ((E.2.2.1 _ hcast).use rfl) hce hcv hcl (kk z H locs ls hP hD hS hl)
/-! rows: calls -/
theorem ct_blind {As : List Value} {W0 : va_W} {sz : Nat} : FrameBlind (va_Pc As (CtP ss D tys W0 sz)) := by
  intro a U g mk h
  obtain ⟨h1, h2, h3, h4, h5, h6⟩ := h
  exact ⟨h1, h2, h3, va_K.moved (u := U) (U := U.calling g mk a) (Vm.Alike.refl U.vm) h4, h5, Env9.same (u := U) (U := U.calling g mk a) rfl rfl h6⟩
theorem ct_pre (C : Cx ss p l s m args meth c cc nL Ts own D tys A tb) {As : List Value} {W0 : va_W} {H : Heap} {locs : List Loc} (hP : va_P D vwCl W0 H) (hD : va_D A W0) (hS : va_S A s.heap H locs) (hF : ∀ q, va_A W0 H.size q → A q) (U : State) (hU : U.heap = H) (hW : s.WarmedH U.vm) : va_Pc As (CtP ss D tys W0 H.size) As.toArray U :=
  ⟨rfl, by rw [hU], by rw [hU]; exact hP, va_K.moved hW.alike C.2.2.2.2.2.1, hD.weaken (fun _ _ _ _ => trivial), C.2.2.2.2.2.2.2.2.1.call hS hU hW hF⟩
theorem ct_free (C : Cx ss p l s m args meth c cc nL Ts own D tys A tb) {W0 : va_W} {H : Heap} {locs : List Loc} (hD : va_D A W0) (hS : va_S A s.heap H locs) : ∀ q, va_A W0 H.size q → A q := by
  intro q h
  rcases va_Am.mp h with ⟨e, he, rfl⟩ | h
  · exact (vdm.mp hD).2 e he
  · exact C.2.2.2.2.2.2.1 q (Nat.le_trans hS.1 h)
/-- behind any run of a callee's contract -/
theorem g_run (C : Cx ss p l s m args meth c cc nL Ts own D tys A tb) {rest : List Value} {W0 wl wr : va_W} {Rr : Oc → Prop} {mc ms c2 s2 : Nat} {a : Array Value} {H : Heap} {locs : List Loc} {ls : Array Slot}
    (hP : va_P D vwCl (wl ++ (W0 ++ wr)) H) (hD : va_D A (wl ++ (W0 ++ wr))) (hS : va_S A s.heap H locs) (hl : lv_has ls nL lv) (hc2 : cells + mc = c2) (hs2 : slots + ms = s2) (hq : pc + 3 = q)
    (hr : vx_Run p l e R s m args below meth c H locs cells slots mc ms (F0 m pc ls st) rest (CtR D Rr (va_A W0 H.size) a) (CtX D W0 Rr (va_A W0 H.size)) (va_A W0 H.size))
    (kx : ∀ n, Rr (.inl n) → Gx p l e R s m args below meth c D A nL Q (wl ++ (W0 ++ wr)) c2 s2 pc lv n)
    (kk : ∀ rv W1, Rr (.inr (rv, W1)) → Gq p l e R s m args below meth c D A nL Q (wl ++ (W1 ++ wr)) c2 s2 q lv (rv.toList ++ rest)) : W p l e R s m args below meth c H locs cells slots Q (F0 m pc ls st) := by
  subst hc2; subst hs2; subst hq
  have hF := ct_free C (vd_app.mp (vd_app.mp hD).2.1).1 hS
  intro T hT X
  rcases hr T hT X with ⟨v, st₀, t, T', L, h0, X', hL, e1, e2, ⟨⟨rv, W1, hRr, hv, hP1, hD1⟩, hFr⟩, hgo⟩ | ⟨z, st₀, t, T', L, E, ce, h0, X', hL, e1, e2, ⟨⟨n, hRr, rfl, hP1, hD1⟩, hFr⟩, hce, hcv, hcl, hst⟩
  · obtain ⟨k1, k2, k3⟩ := vx_keep h0 e1 hS (fun q _ h => hF q h) hF hL hFr
    cases hv
    obtain ⟨hP2, hD2⟩ := jn hP hD k2 hF (by rw [e1]; exact hP1) hD1
    obtain ⟨t2, a1, b1⟩ := kk v W1 hRr T'.heap (locs ++ L) ls hP2 hD2 k3 hl T' rfl X'
    exact ⟨t2, hgo t2 a1, b1⟩
  · obtain ⟨k1, k2, k3⟩ := vx_keep h0 e1 hS (fun q _ h => hF q h) hF hL hFr
    obtain ⟨hP2, hD2⟩ := jn hP hD k2 hF (by rw [e1]; exact hP1) hD1
    obtain ⟨t2, a1, b1⟩ := kx n hRr T'.heap (locs ++ L) ls rest z ce hP2 hD2 k3 hl (by rw [e1]; exact hce) hcv hcl T' rfl X'
    exact ⟨t2, hst.trans a1, b1⟩
theorem g_callV (C : Cx ss p l s m args meth c cc nL Ts own D tys A tb) {y : MethodName} {w0 : List Cond} {rm : Room} {bytes : ByteArray} {maxL n mc ms i b ci q0 : Nat} {ret : Option FieldType} {Cn : String} {As rest : List Value} {W0 wl wr : va_W} {Rr : Oc → Prop} {fs : List Value} {qc : vw_C} {c2 s2 : Nat}
    (hct : Ct ss l y w0 rm D tys (.ref b :: As) W0 Rr mc ms) (cf : CF y w0 rm bytes maxL ret n mc ms Cn) (hg : GoodIn Ts (wsV own i Cn y w0)) (hR : rm.frames + 1 ≤ R.frames ∧ 8 + (maxL + 11) + rm.locals ≤ R.locals)
    (he : W0[q0]? = some (b, .inr (ci, fs))) (hc : vwCl[ci]? = some qc) (hcn : qc.1 = Cn) (hws : ws = wl ++ (W0 ++ wr)) (hst : st = As.reverse ++ .ref b :: rest) (hn : As.length = n) (hrest : (rest.map fun v => v.category).sum ≤ 8) (hc2 : cells + mc = c2) (hs2 : slots + ms = s2) (hf : c2 ≤ R.cells ∧ s2 ≤ R.slots) (d : decode cc pc = .ok (.invokevirtual i, 3)) (q : Nat) (hq : pc + 3 = q)
    (kx : ∀ n, Rr (.inl n) → Gx p l e R s m args below meth c D A nL Q ws c2 s2 pc lv n)
    (kk : ∀ rv W1, Rr (.inr (rv, W1)) → Gq p l e R s m args below meth c D A nL Q (wl ++ (W1 ++ wr)) c2 s2 q lv (rv.toList ++ rest)) : Gq p l e R s m args below meth c D A nL Q ws cells slots pc lv st := by
  subst hws
  intro H locs ls hP hD hS hl
  obtain ⟨⟨ws', hw⟩, hrc, hrs, hy, hy1, hy2, hdesc⟩ := cf
  have hP0 : va_P D vwCl W0 H := (vp_app.mp (vp_app.mp hP).2).1
  have hD0 : va_D A W0 := (vd_app.mp (vd_app.mp hD).2.1).1
  have hF := ct_free C hD0 hS
  have cw := cwV (R := R) (s := s) (args := args) (own := own) (index := i) (C := Cn) (y := y) (ret := ret) (maxL := maxL) (bytes := bytes) (rm := rm) (mc := mc) (ms := ms) n C.2.2.2.2.1 hg hw hrc hrs ⟨hy, hy1, hy2, hdesc⟩ hR
  have hrcv := va_recv C.2.2.2.2.2.1 hP0 hc he
  rw [hcn] at hrcv
  exact g_run C hP hD hS hl hc2 hs2 hq (vx_runV (As := As) (rest := rest) ⟨C.1, C.2.1, C.2.2.1, C.2.2.2.1, C.2.2.2.2.1⟩ (hct H.size) cw ⟨ct_blind, hrcv, fun U hU hW => ct_pre C hP0 hD0 hS hF U hU hW⟩ rfl hn hl.1 hst (lv_room hrest) d ⟨by omega, by omega⟩) kx kk
theorem g_callS (C : Cx ss p l s m args meth c cc nL Ts own D tys A tb) {y : MethodName} {w0 : List Cond} {rm : Room} {bytes : ByteArray} {maxL n mc ms i : Nat} {ret : Option FieldType} {Cn : String} {As rest : List Value} {W0 wl wr : va_W} {Rr : Oc → Prop} {c2 s2 : Nat}
    (hct : Ct ss l y w0 rm D tys As W0 Rr mc ms) (cf : CF y w0 rm bytes maxL ret n mc ms Cn) (hg : GoodIn Ts (va_wsS own i y w0)) (hR : rm.frames + 1 ≤ R.frames ∧ 8 + (maxL + 11) + rm.locals ≤ R.locals)
    (hws : ws = wl ++ (W0 ++ wr)) (hst : st = As.reverse ++ rest) (hn : As.length = n) (hrest : (rest.map fun v => v.category).sum ≤ 8) (hc2 : cells + mc = c2) (hs2 : slots + ms = s2) (hf : c2 ≤ R.cells ∧ s2 ≤ R.slots) (d : decode cc pc = .ok (.invokestatic i, 3)) (q : Nat) (hq : pc + 3 = q)
    (kx : ∀ n, Rr (.inl n) → Gx p l e R s m args below meth c D A nL Q ws c2 s2 pc lv n)
    (kk : ∀ rv W1, Rr (.inr (rv, W1)) → Gq p l e R s m args below meth c D A nL Q (wl ++ (W1 ++ wr)) c2 s2 q lv (rv.toList ++ rest)) : Gq p l e R s m args below meth c D A nL Q ws cells slots pc lv st := by
  subst hws
  intro H locs ls hP hD hS hl
  obtain ⟨⟨ws', hw⟩, hrc, hrs, hy, hy1, hy2, hdesc⟩ := cf
  have hP0 : va_P D vwCl W0 H := (vp_app.mp (vp_app.mp hP).2).1
  have hD0 : va_D A W0 := (vd_app.mp (vd_app.mp hD).2.1).1
  have hF := ct_free C hD0 hS
  have cw := va_cwS (R := R) (s := s) (args := args) (own := own) (index := i) (y := y) (ret := ret) (maxL := maxL) (bytes := bytes) (rm := rm) (mc := mc) (ms := ms) n C.2.2.2.2.1 hg hw hrc hrs ⟨hy1, hy2, hdesc⟩ hR
  exact g_run C hP hD hS hl hc2 hs2 hq (vx_runS (As := As) (rest := rest) ⟨C.1, C.2.1, C.2.2.1, C.2.2.2.1, C.2.2.2.2.1⟩ (hct H.size) cw ⟨ct_blind, fun U hU hW => ct_pre C hP0 hD0 hS hF U hU hW⟩ rfl hn hl.1 hst (lv_room hrest) d ⟨by omega, by omega⟩) kx kk
/-- of a method with a table -/
def CFH (y : MethodName) (ws : List Cond) (rm : Room) (bytes : ByteArray) (maxL : Nat) (ret : Option FieldType) (hh : List (Nat × Nat × Nat × Nat)) (n mc ms : Nat) : Prop :=
  (∃ ws', ws = Cond.codeWith y bytes maxL ret hh :: ws') ∧ rm.cells = mc ∧ rm.slots = ms ∧ y.cls ≠ "java/lang/invoke/MethodHandle" ∧ y.cls ≠ "java/lang/invoke/VarHandle" ∧ (parseMethodDescriptor y.desc).map (fun d => d.parameters.length) = some n
theorem g_callSH (C : Cx ss p l s m args meth c cc nL Ts own D tys A tb) {y : MethodName} {w0 : List Cond} {rm : Room} {bytes : ByteArray} {maxL n mc ms i : Nat} {ret : Option FieldType} {hh : List (Nat × Nat × Nat × Nat)} {As rest : List Value} {W0 wl wr : va_W} {Rr : Oc → Prop} {c2 s2 : Nat}
    (hct : Ct ss l y w0 rm D tys As W0 Rr mc ms) (cf : CFH y w0 rm bytes maxL ret hh n mc ms) (hg : GoodIn Ts (va_wsS own i y w0)) (hR : rm.frames + 1 ≤ R.frames ∧ 8 + (maxL + 11) + rm.locals ≤ R.locals)
    (hws : ws = wl ++ (W0 ++ wr)) (hst : st = As.reverse ++ rest) (hn : As.length = n) (hrest : (rest.map fun v => v.category).sum ≤ 8) (hc2 : cells + mc = c2) (hs2 : slots + ms = s2) (hf : c2 ≤ R.cells ∧ s2 ≤ R.slots) (d : decode cc pc = .ok (.invokestatic i, 3)) (q : Nat) (hq : pc + 3 = q)
    (kx : ∀ n, Rr (.inl n) → Gx p l e R s m args below meth c D A nL Q ws c2 s2 pc lv n)
    (kk : ∀ rv W1, Rr (.inr (rv, W1)) → Gq p l e R s m args below meth c D A nL Q (wl ++ (W1 ++ wr)) c2 s2 q lv (rv.toList ++ rest)) : Gq p l e R s m args below meth c D A nL Q ws cells slots pc lv st := by
  subst hws
  intro H locs ls hP hD hS hl
  obtain ⟨⟨ws', hw⟩, hrc, hrs, hy1, hy2, hdesc⟩ := cf
  have hP0 : va_P D vwCl W0 H := (vp_app.mp (vp_app.mp hP).2).1
  have hD0 : va_D A W0 := (vd_app.mp (vd_app.mp hD).2.1).1
  have hF := ct_free C hD0 hS
  have cw := vx_cwSW (R := R) (s := s) (args := args) (own := own) (index := i) (y := y) (ret := ret) (hh := hh) (maxL := maxL) (bytes := bytes) (rm := rm) (mc := mc) (ms := ms) n C.2.2.2.2.1 hg hw hrc hrs ⟨hy1, hy2, hdesc⟩ hR
  exact g_run C hP hD hS hl hc2 hs2 hq (vx_runSX (As := As) (rest := rest) ⟨C.1, C.2.1, C.2.2.1, C.2.2.2.1, C.2.2.2.2.1⟩ (hct H.size) cw ⟨ct_blind, fun U hU hW => ct_pre C hP0 hD0 hS hF U hU hW⟩ rfl hn hl.1 hst (lv_room hrest) d ⟨by omega, by omega⟩) kx kk
theorem g_callV1 (C : Cx ss p l s m args meth c cc nL Ts own D tys A tb) {y : MethodName} {w0 : List Cond} {rm : Room} {bytes : ByteArray} {maxL n mc ms i b ci q0 : Nat} {ret : Option FieldType} {Cn : String} {As rest : List Value} {W0 wl wr : va_W} {rv : Option Value} {W1 ws2 : va_W} {st2 : List Value} {fs : List Value} {qc : vw_C} {c2 s2 : Nat}
    (hct : Ct ss l y w0 rm D tys (.ref b :: As) W0 (fun o => o = .inr (rv, W1)) mc ms) (cf : CF y w0 rm bytes maxL ret n mc ms Cn) (hg : GoodIn Ts (wsV own i Cn y w0)) (hR : rm.frames + 1 ≤ R.frames ∧ 8 + (maxL + 11) + rm.locals ≤ R.locals)
    (he : W0[q0]? = some (b, .inr (ci, fs))) (hc : vwCl[ci]? = some qc) (hcn : qc.1 = Cn) (hws : ws = wl ++ (W0 ++ wr)) (hst : st = As.reverse ++ .ref b :: rest) (hn : As.length = n) (hrest : (rest.map fun v => v.category).sum ≤ 8) (hc2 : cells + mc = c2) (hs2 : slots + ms = s2) (hf : c2 ≤ R.cells ∧ s2 ≤ R.slots) (d : decode cc pc = .ok (.invokevirtual i, 3)) (q : Nat) (hq : pc + 3 = q)
    (hw2 : wl ++ (W1 ++ wr) = ws2) (hs3 : rv.toList ++ rest = st2) (kk : Gq p l e R s m args below meth c D A nL Q ws2 c2 s2 q lv st2) : Gq p l e R s m args below meth c D A nL Q ws cells slots pc lv st := by
  subst hw2; subst hs3
  exact g_callV C hct cf hg hR he hc hcn hws hst hn hrest hc2 hs2 hf d q hq (fun _ h => by cases h) (fun rv W1 h => by cases h; exact kk)
theorem g_callVx (C : Cx ss p l s m args meth c cc nL Ts own D tys A tb) {y : MethodName} {w0 : List Cond} {rm : Room} {bytes : ByteArray} {maxL n mc ms i b ci q0 : Nat} {ret : Option FieldType} {Cn : String} {As rest : List Value} {W0 wl wr : va_W} {ne : Nat} {fs : List Value} {qc : vw_C} {c2 s2 : Nat}
    (hct : Ct ss l y w0 rm D tys (.ref b :: As) W0 (fun o => o = .inl ne) mc ms) (cf : CF y w0 rm bytes maxL ret n mc ms Cn) (hg : GoodIn Ts (wsV own i Cn y w0)) (hR : rm.frames + 1 ≤ R.frames ∧ 8 + (maxL + 11) + rm.locals ≤ R.locals)
    (he : W0[q0]? = some (b, .inr (ci, fs))) (hc : vwCl[ci]? = some qc) (hcn : qc.1 = Cn) (hws : ws = wl ++ (W0 ++ wr)) (hst : st = As.reverse ++ .ref b :: rest) (hn : As.length = n) (hrest : (rest.map fun v => v.category).sum ≤ 8) (hc2 : cells + mc = c2) (hs2 : slots + ms = s2) (hf : c2 ≤ R.cells ∧ s2 ≤ R.slots) (d : decode cc pc = .ok (.invokevirtual i, 3)) (q : Nat) (hq : pc + 3 = q)
    (kx : Gx p l e R s m args below meth c D A nL Q ws c2 s2 pc lv ne) : Gq p l e R s m args below meth c D A nL Q ws cells slots pc lv st := by
  exact g_callV C hct cf hg hR he hc hcn hws hst hn hrest hc2 hs2 hf d q hq (fun n h => by cases h; exact kx) (fun _ _ h => by cases h)
theorem g_callS1 (C : Cx ss p l s m args meth c cc nL Ts own D tys A tb) {y : MethodName} {w0 : List Cond} {rm : Room} {bytes : ByteArray} {maxL n mc ms i : Nat} {ret : Option FieldType} {Cn : String} {As rest : List Value} {W0 wl wr : va_W} {rv : Option Value} {W1 ws2 : va_W} {st2 : List Value} {c2 s2 : Nat}
    (hct : Ct ss l y w0 rm D tys As W0 (fun o => o = .inr (rv, W1)) mc ms) (cf : CF y w0 rm bytes maxL ret n mc ms Cn) (hg : GoodIn Ts (va_wsS own i y w0)) (hR : rm.frames + 1 ≤ R.frames ∧ 8 + (maxL + 11) + rm.locals ≤ R.locals)
    (hws : ws = wl ++ (W0 ++ wr)) (hst : st = As.reverse ++ rest) (hn : As.length = n) (hrest : (rest.map fun v => v.category).sum ≤ 8) (hc2 : cells + mc = c2) (hs2 : slots + ms = s2) (hf : c2 ≤ R.cells ∧ s2 ≤ R.slots) (d : decode cc pc = .ok (.invokestatic i, 3)) (q : Nat) (hq : pc + 3 = q)
    (hw2 : wl ++ (W1 ++ wr) = ws2) (hs3 : rv.toList ++ rest = st2) (kk : Gq p l e R s m args below meth c D A nL Q ws2 c2 s2 q lv st2) : Gq p l e R s m args below meth c D A nL Q ws cells slots pc lv st := by
  subst hw2; subst hs3
  exact g_callS C hct cf hg hR hws hst hn hrest hc2 hs2 hf d q hq (fun _ h => by cases h) (fun rv W1 h => by cases h; exact kk)
theorem g_callSx (C : Cx ss p l s m args meth c cc nL Ts own D tys A tb) {y : MethodName} {w0 : List Cond} {rm : Room} {bytes : ByteArray} {maxL n mc ms i : Nat} {ret : Option FieldType} {Cn : String} {As rest : List Value} {W0 wl wr : va_W} {ne : Nat} {c2 s2 : Nat}
    (hct : Ct ss l y w0 rm D tys As W0 (fun o => o = .inl ne) mc ms) (cf : CF y w0 rm bytes maxL ret n mc ms Cn) (hg : GoodIn Ts (va_wsS own i y w0)) (hR : rm.frames + 1 ≤ R.frames ∧ 8 + (maxL + 11) + rm.locals ≤ R.locals)
    (hws : ws = wl ++ (W0 ++ wr)) (hst : st = As.reverse ++ rest) (hn : As.length = n) (hrest : (rest.map fun v => v.category).sum ≤ 8) (hc2 : cells + mc = c2) (hs2 : slots + ms = s2) (hf : c2 ≤ R.cells ∧ s2 ≤ R.slots) (d : decode cc pc = .ok (.invokestatic i, 3)) (q : Nat) (hq : pc + 3 = q)
    (kx : Gx p l e R s m args below meth c D A nL Q ws c2 s2 pc lv ne) : Gq p l e R s m args below meth c D A nL Q ws cells slots pc lv st := by
  exact g_callS C hct cf hg hR hws hst hn hrest hc2 hs2 hf d q hq (fun n h => by cases h; exact kx) (fun _ _ h => by cases h)
theorem g_callSH1 (C : Cx ss p l s m args meth c cc nL Ts own D tys A tb) {y : MethodName} {w0 : List Cond} {rm : Room} {bytes : ByteArray} {maxL n mc ms i : Nat} {ret : Option FieldType} {hh : List (Nat × Nat × Nat × Nat)} {As rest : List Value} {W0 wl wr : va_W} {rv : Option Value} {W1 ws2 : va_W} {st2 : List Value} {c2 s2 : Nat}
    (hct : Ct ss l y w0 rm D tys As W0 (fun o => o = .inr (rv, W1)) mc ms) (cf : CFH y w0 rm bytes maxL ret hh n mc ms) (hg : GoodIn Ts (va_wsS own i y w0)) (hR : rm.frames + 1 ≤ R.frames ∧ 8 + (maxL + 11) + rm.locals ≤ R.locals)
    (hws : ws = wl ++ (W0 ++ wr)) (hst : st = As.reverse ++ rest) (hn : As.length = n) (hrest : (rest.map fun v => v.category).sum ≤ 8) (hc2 : cells + mc = c2) (hs2 : slots + ms = s2) (hf : c2 ≤ R.cells ∧ s2 ≤ R.slots) (d : decode cc pc = .ok (.invokestatic i, 3)) (q : Nat) (hq : pc + 3 = q)
    (hw2 : wl ++ (W1 ++ wr) = ws2) (hs3 : rv.toList ++ rest = st2) (kk : Gq p l e R s m args below meth c D A nL Q ws2 c2 s2 q lv st2) : Gq p l e R s m args below meth c D A nL Q ws cells slots pc lv st := by
  subst hw2; subst hs3
  exact g_callSH C hct cf hg hR hws hst hn hrest hc2 hs2 hf d q hq (fun _ h => by cases h) (fun rv W1 h => by cases h; exact kk)
theorem g_callSHx (C : Cx ss p l s m args meth c cc nL Ts own D tys A tb) {y : MethodName} {w0 : List Cond} {rm : Room} {bytes : ByteArray} {maxL n mc ms i : Nat} {ret : Option FieldType} {hh : List (Nat × Nat × Nat × Nat)} {As rest : List Value} {W0 wl wr : va_W} {ne : Nat} {c2 s2 : Nat}
    (hct : Ct ss l y w0 rm D tys As W0 (fun o => o = .inl ne) mc ms) (cf : CFH y w0 rm bytes maxL ret hh n mc ms) (hg : GoodIn Ts (va_wsS own i y w0)) (hR : rm.frames + 1 ≤ R.frames ∧ 8 + (maxL + 11) + rm.locals ≤ R.locals)
    (hws : ws = wl ++ (W0 ++ wr)) (hst : st = As.reverse ++ rest) (hn : As.length = n) (hrest : (rest.map fun v => v.category).sum ≤ 8) (hc2 : cells + mc = c2) (hs2 : slots + ms = s2) (hf : c2 ≤ R.cells ∧ s2 ≤ R.slots) (d : decode cc pc = .ok (.invokestatic i, 3)) (q : Nat) (hq : pc + 3 = q)
    (kx : Gx p l e R s m args below meth c D A nL Q ws c2 s2 pc lv ne) : Gq p l e R s m args below meth c D A nL Q ws cells slots pc lv st := by
  exact g_callSH C hct cf hg hR hws hst hn hrest hc2 hs2 hf d q hq (fun n h => by cases h; exact kx) (fun _ _ h => by cases h)
end GB
end
