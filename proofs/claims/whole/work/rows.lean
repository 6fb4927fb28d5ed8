section
-- ===== PART A: goes FIRST, ahead of the names: the tables' words, and 'selects' of the private methods out of them =====
/-- a private method of a class that the tables say can be made, by its rows of tables_1 -/
def lw_okq (q : MethodName × Nat) : Prop := (q.1.cls ≠ "java/lang/invoke/MethodHandle" ∧ q.1.cls ≠ "java/lang/invoke/VarHandle") ∧ Cond.instantiable q.1.cls q.2 ∈ tables_1 ∧ Cond.privateMethod q.1 ∈ tables_1 ∧ Cond.instanceMethod q.1 ∈ tables_1
theorem lw_p0 : lw_okq (⟨"SleepBorder$Border", "isSettled", "()Z"⟩, 15) := ⟨⟨by decide +kernel, by decide +kernel⟩, List.mem_of_getElem? (i := 21) (by decide +kernel), List.mem_of_getElem? (i := 165) (by decide +kernel), List.mem_of_getElem? (i := 166) (by decide +kernel)⟩
theorem lw_p1 : lw_okq (⟨"SleepBorder$Border", "advanceTransits", "()V"⟩, 15) := ⟨⟨by decide +kernel, by decide +kernel⟩, List.mem_of_getElem? (i := 21) (by decide +kernel), List.mem_of_getElem? (i := 173) (by decide +kernel), List.mem_of_getElem? (i := 174) (by decide +kernel)⟩
theorem lw_p2 : lw_okq (⟨"SleepBorder$Border", "shortenLullabies", "()V"⟩, 15) := ⟨⟨by decide +kernel, by decide +kernel⟩, List.mem_of_getElem? (i := 21) (by decide +kernel), List.mem_of_getElem? (i := 177) (by decide +kernel), List.mem_of_getElem? (i := 178) (by decide +kernel)⟩
theorem lw_p3 : lw_okq (⟨"SleepBorder$Border", "work", "(I)V"⟩, 15) := ⟨⟨by decide +kernel, by decide +kernel⟩, List.mem_of_getElem? (i := 21) (by decide +kernel), List.mem_of_getElem? (i := 181) (by decide +kernel), List.mem_of_getElem? (i := 182) (by decide +kernel)⟩
theorem lw_p4 : lw_okq (⟨"SleepBorder$Border", "searchOn", "(II)V"⟩, 15) := ⟨⟨by decide +kernel, by decide +kernel⟩, List.mem_of_getElem? (i := 21) (by decide +kernel), List.mem_of_getElem? (i := 189) (by decide +kernel), List.mem_of_getElem? (i := 190) (by decide +kernel)⟩
theorem lw_p5 : lw_okq (⟨"SleepBorder$Border", "beginSearch", "(II)V"⟩, 15) := ⟨⟨by decide +kernel, by decide +kernel⟩, List.mem_of_getElem? (i := 21) (by decide +kernel), List.mem_of_getElem? (i := 205) (by decide +kernel), List.mem_of_getElem? (i := 206) (by decide +kernel)⟩
theorem lw_p6 : lw_okq (⟨"java/lang/Throwable", "fillInStackTrace", "(I)Ljava/lang/Throwable;"⟩, 6) := ⟨⟨by decide +kernel, by decide +kernel⟩, List.mem_of_getElem? (i := 286) (by decide +kernel), List.mem_of_getElem? (i := 284) (by decide +kernel), List.mem_of_getElem? (i := 285) (by decide +kernel)⟩
theorem lw_p7 : lw_okq (⟨"SleepBorder", "mixTravellers", "(J)J"⟩, 2) := ⟨⟨by decide +kernel, by decide +kernel⟩, List.mem_of_getElem? (i := 13) (by decide +kernel), List.mem_of_getElem? (i := 317) (by decide +kernel), List.mem_of_getElem? (i := 318) (by decide +kernel)⟩
theorem lw_p8 : lw_okq (⟨"SleepBorder", "requireTraveller", "(I)V"⟩, 2) := ⟨⟨by decide +kernel, by decide +kernel⟩, List.mem_of_getElem? (i := 13) (by decide +kernel), List.mem_of_getElem? (i := 325) (by decide +kernel), List.mem_of_getElem? (i := 326) (by decide +kernel)⟩
theorem lw_p9 : lw_okq (⟨"SleepBorder", "foreseenSleep", "(I)I"⟩, 2) := ⟨⟨by decide +kernel, by decide +kernel⟩, List.mem_of_getElem? (i := 13) (by decide +kernel), List.mem_of_getElem? (i := 368) (by decide +kernel), List.mem_of_getElem? (i := 369) (by decide +kernel)⟩
theorem lw_p10 : lw_okq (⟨"SleepBorder", "mixGuards", "(J)J"⟩, 2) := ⟨⟨by decide +kernel, by decide +kernel⟩, List.mem_of_getElem? (i := 13) (by decide +kernel), List.mem_of_getElem? (i := 372) (by decide +kernel), List.mem_of_getElem? (i := 373) (by decide +kernel)⟩
theorem lw_p11 : lw_okq (⟨"SleepBorder", "requireGuard", "(I)V"⟩, 2) := ⟨⟨by decide +kernel, by decide +kernel⟩, List.mem_of_getElem? (i := 13) (by decide +kernel), List.mem_of_getElem? (i := 380) (by decide +kernel), List.mem_of_getElem? (i := 381) (by decide +kernel)⟩
theorem lw_p12 : lw_okq (⟨"SleepBorder", "requireWaiting", "(I)V"⟩, 2) := ⟨⟨by decide +kernel, by decide +kernel⟩, List.mem_of_getElem? (i := 13) (by decide +kernel), List.mem_of_getElem? (i := 446) (by decide +kernel), List.mem_of_getElem? (i := 447) (by decide +kernel)⟩
theorem lw_p13 : lw_okq (⟨"SleepBorderModel", "fail", "(I)I"⟩, 7) := ⟨⟨by decide +kernel, by decide +kernel⟩, List.mem_of_getElem? (i := 531) (by decide +kernel), List.mem_of_getElem? (i := 568) (by decide +kernel), List.mem_of_getElem? (i := 569) (by decide +kernel)⟩
theorem lw_p14 : lw_okq (⟨"SleepBorderModel", "hire", "()V"⟩, 7) := ⟨⟨by decide +kernel, by decide +kernel⟩, List.mem_of_getElem? (i := 531) (by decide +kernel), List.mem_of_getElem? (i := 572) (by decide +kernel), List.mem_of_getElem? (i := 573) (by decide +kernel)⟩
theorem lw_p15 : lw_okq (⟨"SleepBorderModel", "post", "(III)V"⟩, 7) := ⟨⟨by decide +kernel, by decide +kernel⟩, List.mem_of_getElem? (i := 531) (by decide +kernel), List.mem_of_getElem? (i := 576) (by decide +kernel), List.mem_of_getElem? (i := 577) (by decide +kernel)⟩
def lw_privs_1 : List (MethodName × Nat) := [(⟨"SleepBorder$Border", "isSettled", "()Z"⟩, 15), (⟨"SleepBorder$Border", "advanceTransits", "()V"⟩, 15), (⟨"SleepBorder$Border", "shortenLullabies", "()V"⟩, 15), (⟨"SleepBorder$Border", "work", "(I)V"⟩, 15), (⟨"SleepBorder$Border", "searchOn", "(II)V"⟩, 15), (⟨"SleepBorder$Border", "beginSearch", "(II)V"⟩, 15), (⟨"java/lang/Throwable", "fillInStackTrace", "(I)Ljava/lang/Throwable;"⟩, 6), (⟨"SleepBorder", "mixTravellers", "(J)J"⟩, 2), (⟨"SleepBorder", "requireTraveller", "(I)V"⟩, 2), (⟨"SleepBorder", "foreseenSleep", "(I)I"⟩, 2), (⟨"SleepBorder", "mixGuards", "(J)J"⟩, 2), (⟨"SleepBorder", "requireGuard", "(I)V"⟩, 2), (⟨"SleepBorder", "requireWaiting", "(I)V"⟩, 2), (⟨"SleepBorderModel", "fail", "(I)I"⟩, 7), (⟨"SleepBorderModel", "hire", "()V"⟩, 7), (⟨"SleepBorderModel", "post", "(III)V"⟩, 7)]
theorem lw_r1 : ∀ q ∈ lw_privs_1, lw_okq q := List.forall_mem_cons.mpr ⟨lw_p0, List.forall_mem_cons.mpr ⟨lw_p1, List.forall_mem_cons.mpr ⟨lw_p2, List.forall_mem_cons.mpr ⟨lw_p3, List.forall_mem_cons.mpr ⟨lw_p4, List.forall_mem_cons.mpr ⟨lw_p5, List.forall_mem_cons.mpr ⟨lw_p6, List.forall_mem_cons.mpr ⟨lw_p7, List.forall_mem_cons.mpr ⟨lw_p8, List.forall_mem_cons.mpr ⟨lw_p9, List.forall_mem_cons.mpr ⟨lw_p10, List.forall_mem_cons.mpr ⟨lw_p11, List.forall_mem_cons.mpr ⟨lw_p12, List.forall_mem_cons.mpr ⟨lw_p13, List.forall_mem_cons.mpr ⟨lw_p14, List.forall_mem_cons.mpr ⟨lw_p15, fun _ h => absurd h List.not_mem_nil⟩⟩⟩⟩⟩⟩⟩⟩⟩⟩⟩⟩⟩⟩⟩⟩
theorem lw_p16 : lw_okq (⟨"SleepBorderModel", "let", "(III)V"⟩, 7) := ⟨⟨by decide +kernel, by decide +kernel⟩, List.mem_of_getElem? (i := 531) (by decide +kernel), List.mem_of_getElem? (i := 587) (by decide +kernel), List.mem_of_getElem? (i := 588) (by decide +kernel)⟩
theorem lw_p17 : lw_okq (⟨"SleepBorderModel", "write", "(IIIII)I"⟩, 7) := ⟨⟨by decide +kernel, by decide +kernel⟩, List.mem_of_getElem? (i := 531) (by decide +kernel), List.mem_of_getElem? (i := 595) (by decide +kernel), List.mem_of_getElem? (i := 596) (by decide +kernel)⟩
theorem lw_p18 : lw_okq (⟨"SleepBorderModel", "isTraveller", "(I)Z"⟩, 7) := ⟨⟨by decide +kernel, by decide +kernel⟩, List.mem_of_getElem? (i := 531) (by decide +kernel), List.mem_of_getElem? (i := 599) (by decide +kernel), List.mem_of_getElem? (i := 600) (by decide +kernel)⟩
theorem lw_p19 : lw_okq (⟨"SleepBorderModel", "tr", "(II)I"⟩, 7) := ⟨⟨by decide +kernel, by decide +kernel⟩, List.mem_of_getElem? (i := 531) (by decide +kernel), List.mem_of_getElem? (i := 603) (by decide +kernel), List.mem_of_getElem? (i := 604) (by decide +kernel)⟩
theorem lw_p20 : lw_okq (⟨"SleepBorderModel", "isGuard", "(I)Z"⟩, 7) := ⟨⟨by decide +kernel, by decide +kernel⟩, List.mem_of_getElem? (i := 531) (by decide +kernel), List.mem_of_getElem? (i := 615) (by decide +kernel), List.mem_of_getElem? (i := 616) (by decide +kernel)⟩
theorem lw_p21 : lw_okq (⟨"SleepBorderModel", "gu", "(II)I"⟩, 7) := ⟨⟨by decide +kernel, by decide +kernel⟩, List.mem_of_getElem? (i := 531) (by decide +kernel), List.mem_of_getElem? (i := 619) (by decide +kernel), List.mem_of_getElem? (i := 620) (by decide +kernel)⟩
theorem lw_p22 : lw_okq (⟨"SleepBorderModel", "count", "(I)I"⟩, 7) := ⟨⟨by decide +kernel, by decide +kernel⟩, List.mem_of_getElem? (i := 531) (by decide +kernel), List.mem_of_getElem? (i := 627) (by decide +kernel), List.mem_of_getElem? (i := 628) (by decide +kernel)⟩
theorem lw_p23 : lw_okq (⟨"SleepBorderModel", "minutesOn", "(I)V"⟩, 7) := ⟨⟨by decide +kernel, by decide +kernel⟩, List.mem_of_getElem? (i := 531) (by decide +kernel), List.mem_of_getElem? (i := 631) (by decide +kernel), List.mem_of_getElem? (i := 632) (by decide +kernel)⟩
theorem lw_p24 : lw_okq (⟨"SleepBorderModel", "minuteOn", "()V"⟩, 7) := ⟨⟨by decide +kernel, by decide +kernel⟩, List.mem_of_getElem? (i := 531) (by decide +kernel), List.mem_of_getElem? (i := 635) (by decide +kernel), List.mem_of_getElem? (i := 636) (by decide +kernel)⟩
theorem lw_p25 : lw_okq (⟨"SleepBorderModel", "travel", "(I)V"⟩, 7) := ⟨⟨by decide +kernel, by decide +kernel⟩, List.mem_of_getElem? (i := 531) (by decide +kernel), List.mem_of_getElem? (i := 639) (by decide +kernel), List.mem_of_getElem? (i := 640) (by decide +kernel)⟩
theorem lw_p26 : lw_okq (⟨"SleepBorderModel", "listen", "(I)V"⟩, 7) := ⟨⟨by decide +kernel, by decide +kernel⟩, List.mem_of_getElem? (i := 531) (by decide +kernel), List.mem_of_getElem? (i := 643) (by decide +kernel), List.mem_of_getElem? (i := 644) (by decide +kernel)⟩
theorem lw_p27 : lw_okq (⟨"SleepBorderModel", "begin", "(I)V"⟩, 7) := ⟨⟨by decide +kernel, by decide +kernel⟩, List.mem_of_getElem? (i := 531) (by decide +kernel), List.mem_of_getElem? (i := 647) (by decide +kernel), List.mem_of_getElem? (i := 648) (by decide +kernel)⟩
theorem lw_p28 : lw_okq (⟨"SleepBorderModel", "first", "()I"⟩, 7) := ⟨⟨by decide +kernel, by decide +kernel⟩, List.mem_of_getElem? (i := 531) (by decide +kernel), List.mem_of_getElem? (i := 651) (by decide +kernel), List.mem_of_getElem? (i := 652) (by decide +kernel)⟩
theorem lw_p29 : lw_okq (⟨"SleepBorderModel", "takes", "(I)I"⟩, 7) := ⟨⟨by decide +kernel, by decide +kernel⟩, List.mem_of_getElem? (i := 531) (by decide +kernel), List.mem_of_getElem? (i := 656) (by decide +kernel), List.mem_of_getElem? (i := 657) (by decide +kernel)⟩
theorem lw_p30 : lw_okq (⟨"SleepBorderModel", "loud", "()I"⟩, 7) := ⟨⟨by decide +kernel, by decide +kernel⟩, List.mem_of_getElem? (i := 531) (by decide +kernel), List.mem_of_getElem? (i := 660) (by decide +kernel), List.mem_of_getElem? (i := 661) (by decide +kernel)⟩
theorem lw_p31 : lw_okq (⟨"SleepBorderModel", "searchOn", "(I)V"⟩, 7) := ⟨⟨by decide +kernel, by decide +kernel⟩, List.mem_of_getElem? (i := 531) (by decide +kernel), List.mem_of_getElem? (i := 664) (by decide +kernel), List.mem_of_getElem? (i := 665) (by decide +kernel)⟩
def lw_privs_2 : List (MethodName × Nat) := [(⟨"SleepBorderModel", "let", "(III)V"⟩, 7), (⟨"SleepBorderModel", "write", "(IIIII)I"⟩, 7), (⟨"SleepBorderModel", "isTraveller", "(I)Z"⟩, 7), (⟨"SleepBorderModel", "tr", "(II)I"⟩, 7), (⟨"SleepBorderModel", "isGuard", "(I)Z"⟩, 7), (⟨"SleepBorderModel", "gu", "(II)I"⟩, 7), (⟨"SleepBorderModel", "count", "(I)I"⟩, 7), (⟨"SleepBorderModel", "minutesOn", "(I)V"⟩, 7), (⟨"SleepBorderModel", "minuteOn", "()V"⟩, 7), (⟨"SleepBorderModel", "travel", "(I)V"⟩, 7), (⟨"SleepBorderModel", "listen", "(I)V"⟩, 7), (⟨"SleepBorderModel", "begin", "(I)V"⟩, 7), (⟨"SleepBorderModel", "first", "()I"⟩, 7), (⟨"SleepBorderModel", "takes", "(I)I"⟩, 7), (⟨"SleepBorderModel", "loud", "()I"⟩, 7), (⟨"SleepBorderModel", "searchOn", "(I)V"⟩, 7)]
theorem lw_r2 : ∀ q ∈ lw_privs_2, lw_okq q := List.forall_mem_cons.mpr ⟨lw_p16, List.forall_mem_cons.mpr ⟨lw_p17, List.forall_mem_cons.mpr ⟨lw_p18, List.forall_mem_cons.mpr ⟨lw_p19, List.forall_mem_cons.mpr ⟨lw_p20, List.forall_mem_cons.mpr ⟨lw_p21, List.forall_mem_cons.mpr ⟨lw_p22, List.forall_mem_cons.mpr ⟨lw_p23, List.forall_mem_cons.mpr ⟨lw_p24, List.forall_mem_cons.mpr ⟨lw_p25, List.forall_mem_cons.mpr ⟨lw_p26, List.forall_mem_cons.mpr ⟨lw_p27, List.forall_mem_cons.mpr ⟨lw_p28, List.forall_mem_cons.mpr ⟨lw_p29, List.forall_mem_cons.mpr ⟨lw_p30, List.forall_mem_cons.mpr ⟨lw_p31, fun _ h => absurd h List.not_mem_nil⟩⟩⟩⟩⟩⟩⟩⟩⟩⟩⟩⟩⟩⟩⟩⟩
theorem lw_p32 : lw_okq (⟨"SleepBorderModel", "finds", "(II)Z"⟩, 7) := ⟨⟨by decide +kernel, by decide +kernel⟩, List.mem_of_getElem? (i := 531) (by decide +kernel), List.mem_of_getElem? (i := 668) (by decide +kernel), List.mem_of_getElem? (i := 669) (by decide +kernel)⟩
theorem lw_p33 : lw_okq (⟨"SleepBorderModel", "hidden", "(I)I"⟩, 7) := ⟨⟨by decide +kernel, by decide +kernel⟩, List.mem_of_getElem? (i := 531) (by decide +kernel), List.mem_of_getElem? (i := 672) (by decide +kernel), List.mem_of_getElem? (i := 673) (by decide +kernel)⟩
theorem lw_p34 : lw_okq (⟨"SleepBorderModel", "told", "(I)I"⟩, 7) := ⟨⟨by decide +kernel, by decide +kernel⟩, List.mem_of_getElem? (i := 531) (by decide +kernel), List.mem_of_getElem? (i := 681) (by decide +kernel), List.mem_of_getElem? (i := 682) (by decide +kernel)⟩
theorem lw_p35 : lw_okq (⟨"SleepBorderModel", "place", "(I)I"⟩, 7) := ⟨⟨by decide +kernel, by decide +kernel⟩, List.mem_of_getElem? (i := 531) (by decide +kernel), List.mem_of_getElem? (i := 733) (by decide +kernel), List.mem_of_getElem? (i := 734) (by decide +kernel)⟩
theorem lw_p36 : lw_okq (⟨"SleepBorderModel", "guard", "(II)I"⟩, 7) := ⟨⟨by decide +kernel, by decide +kernel⟩, List.mem_of_getElem? (i := 531) (by decide +kernel), List.mem_of_getElem? (i := 749) (by decide +kernel), List.mem_of_getElem? (i := 750) (by decide +kernel)⟩
theorem lw_p37 : lw_okq (⟨"SleepBorderModel", "alertest", "()I"⟩, 7) := ⟨⟨by decide +kernel, by decide +kernel⟩, List.mem_of_getElem? (i := 531) (by decide +kernel), List.mem_of_getElem? (i := 769) (by decide +kernel), List.mem_of_getElem? (i := 770) (by decide +kernel)⟩
theorem lw_p38 : lw_okq (⟨"SleepBorderModel", "until", "(I)I"⟩, 7) := ⟨⟨by decide +kernel, by decide +kernel⟩, List.mem_of_getElem? (i := 531) (by decide +kernel), List.mem_of_getElem? (i := 777) (by decide +kernel), List.mem_of_getElem? (i := 778) (by decide +kernel)⟩
theorem lw_p39 : lw_okq (⟨"SleepBorderModel", "keep", "()V"⟩, 7) := ⟨⟨by decide +kernel, by decide +kernel⟩, List.mem_of_getElem? (i := 531) (by decide +kernel), List.mem_of_getElem? (i := 781) (by decide +kernel), List.mem_of_getElem? (i := 782) (by decide +kernel)⟩
theorem lw_p40 : lw_okq (⟨"SleepBorderModel", "run", "(I)I"⟩, 7) := ⟨⟨by decide +kernel, by decide +kernel⟩, List.mem_of_getElem? (i := 531) (by decide +kernel), List.mem_of_getElem? (i := 788) (by decide +kernel), List.mem_of_getElem? (i := 789) (by decide +kernel)⟩
theorem lw_p41 : lw_okq (⟨"SleepBorderModel", "bringBack", "()V"⟩, 7) := ⟨⟨by decide +kernel, by decide +kernel⟩, List.mem_of_getElem? (i := 531) (by decide +kernel), List.mem_of_getElem? (i := 792) (by decide +kernel), List.mem_of_getElem? (i := 793) (by decide +kernel)⟩
theorem lw_p42 : lw_okq (⟨"SleepBorderModel", "sleepers", "(I)I"⟩, 7) := ⟨⟨by decide +kernel, by decide +kernel⟩, List.mem_of_getElem? (i := 531) (by decide +kernel), List.mem_of_getElem? (i := 800) (by decide +kernel), List.mem_of_getElem? (i := 801) (by decide +kernel)⟩
theorem lw_p43 : lw_okq (⟨"SleepBorderModel", "wanted", "()I"⟩, 7) := ⟨⟨by decide +kernel, by decide +kernel⟩, List.mem_of_getElem? (i := 531) (by decide +kernel), List.mem_of_getElem? (i := 812) (by decide +kernel), List.mem_of_getElem? (i := 813) (by decide +kernel)⟩
def lw_privs_3 : List (MethodName × Nat) := [(⟨"SleepBorderModel", "finds", "(II)Z"⟩, 7), (⟨"SleepBorderModel", "hidden", "(I)I"⟩, 7), (⟨"SleepBorderModel", "told", "(I)I"⟩, 7), (⟨"SleepBorderModel", "place", "(I)I"⟩, 7), (⟨"SleepBorderModel", "guard", "(II)I"⟩, 7), (⟨"SleepBorderModel", "alertest", "()I"⟩, 7), (⟨"SleepBorderModel", "until", "(I)I"⟩, 7), (⟨"SleepBorderModel", "keep", "()V"⟩, 7), (⟨"SleepBorderModel", "run", "(I)I"⟩, 7), (⟨"SleepBorderModel", "bringBack", "()V"⟩, 7), (⟨"SleepBorderModel", "sleepers", "(I)I"⟩, 7), (⟨"SleepBorderModel", "wanted", "()I"⟩, 7)]
theorem lw_r3 : ∀ q ∈ lw_privs_3, lw_okq q := List.forall_mem_cons.mpr ⟨lw_p32, List.forall_mem_cons.mpr ⟨lw_p33, List.forall_mem_cons.mpr ⟨lw_p34, List.forall_mem_cons.mpr ⟨lw_p35, List.forall_mem_cons.mpr ⟨lw_p36, List.forall_mem_cons.mpr ⟨lw_p37, List.forall_mem_cons.mpr ⟨lw_p38, List.forall_mem_cons.mpr ⟨lw_p39, List.forall_mem_cons.mpr ⟨lw_p40, List.forall_mem_cons.mpr ⟨lw_p41, List.forall_mem_cons.mpr ⟨lw_p42, List.forall_mem_cons.mpr ⟨lw_p43, fun _ h => absurd h List.not_mem_nil⟩⟩⟩⟩⟩⟩⟩⟩⟩⟩⟩⟩
def lw_privs : List (MethodName × Nat) := lw_privs_1 ++ (lw_privs_2 ++ (lw_privs_3))
def lw_tbl : List Cond := k2_sels lw_privs ++ tables_1
theorem lw_privs_ok : ∀ q ∈ lw_privs, lw_okq q := by
  show ∀ q ∈ lw_privs_1 ++ (lw_privs_2 ++ (lw_privs_3)), lw_okq q
  exact List.forall_mem_append.mpr ⟨lw_r1, List.forall_mem_append.mpr ⟨lw_r2, lw_r3⟩⟩
/-- the streams that the claim lets the run draw from -/
abbrev lw_cs : List Choice := [Jvm.Choice.named "NaN.bits"]
theorem lw_bits : nanBits ∈ lw_cs := by first | decide | exact List.mem_cons_self | simp [lw_cs, nanBits]
-- ===== end of PART A; then your names; then what follows =====
end
section
/-! ===== BEGIN words of one list among another's, by their places ===== -/
theorem goodIn_r {big : List Cond} (ws : List Cond) (ps : List Nat) (hp : ws = ps.filterMap (fun i => big[i]?)) (h : ws.all goodWord = true) : GoodIn big ws := by
  intro w hw
  have h1 := List.all_eq_true.mp h w hw
  rw [hp] at hw
  obtain ⟨i, -, hi⟩ := List.mem_filterMap.mp hw
  have hm : w ∈ big := by first | exact List.mem_of_getElem? hi | exact List.getElem?_mem hi
  exact ⟨hm, good_of_word h1⟩
theorem goodIn_app {big a b : List Cond} (ha : GoodIn big a) (hb : GoodIn big b) : GoodIn big (a ++ b) := fun w h => (List.mem_append.mp h).elim (ha w) (hb w)
theorem goodIn_ca {big a b : List Cond} {c : Cond} (ha : GoodIn big (c :: a)) (hb : GoodIn big b) : GoodIn big (c :: (a ++ b)) := fun w h => (List.mem_cons.mp h).elim (fun e => ha w (List.mem_cons.mpr (Or.inl e))) (fun h => (List.mem_append.mp h).elim (fun h => ha w (List.mem_cons.mpr (Or.inr h))) (hb w))
theorem goodIn_sub {big ws : List Cond} (hm : ∀ w ∈ ws, w ∈ big) (h : ws.all goodWord = true) : GoodIn big ws := fun w hw => ⟨hm w hw, good_of_word (List.all_eq_true.mp h w hw)⟩
/-! ===== END ===== -/

/-! ===== BEGIN exceptions that leave a method, and their catching by the caller (launches without stack traces) ===== -/
section VXA
/-! The laws vx_back, vx_callV, vx_callS, vx_callSW, vx_throw0, vx_throwS follow proofs of the library, with one case more: JvmDerived/Free/Laws.lean (Back.of_free), Shelf42/LK1.lean (callV, callS), Shelf/KitTraced.lean (throwNew0V, throwNewS). -/
/-- where a method has thrown q: the class by its name, the cell, what was written, the world -/
def vx_T (XC : String → State → State → Prop) (st : State) (q : Addr) (t : State) (mc ms : Nat) (free : Addr → Prop) : Prop :=
  ∃ (E : String) (ce : Cell) (L : List Loc), XC E st t ∧ t.heap[q]? = some ce ∧ ce.vm = .none ∧ st.vm.findClass E = some ce.cls ∧ st.WarmedH t.vm ∧ st.sameButNew ({ t with vm := st.vm } : State) L mc ms ∧ ∀ z ∈ L, free z.base
def vx_Q (Qc : Array Value → State → Outcome → State → Prop) (XC : String → State → State → Prop) (mc ms : Nat) (free : Addr → Prop) : Array Value → State → Outcome → State → Prop := fun a st o t =>
  (Qc a st o t ∧ ∃ L, FrameEnd st o t L mc ms ∧ ∀ q ∈ L, free q.base) ∨ ∃ q, o = .threw q ∧ vx_T XC st q t mc ms free
/-- a callee that returns or throws -/
def vx_Met (l : Launch) (y : MethodName) (ws : List Cond) (rm : Room) (Pc : Array Value → State → Prop) (Qc : Array Value → State → Outcome → State → Prop) (XC : String → State → State → Prop) (mc ms : Nat) (free : Addr → Prop) : Prop :=
  MetFree l y (headSpec ws rm) Pc (fun _ _ _ _ _ => True) (vx_Q Qc XC mc ms free)
def vx_Post (XC : String → State → State → Prop) (mc ms : Nat) (free : Addr → Prop) : Pt → Array Value → Addr → Pt → Prop := fun A a q B =>
  ∃ (g : JFrame) (mk : MethodId) (t : State) (L : List Loc) (E : String) (ce : Cell), B.U.heap = t.heap ∧ B.U.vm = t.vm ∧ XC E (A.U.calling g mk a) t ∧ t.heap[q]? = some ce ∧ ce.vm = .none ∧ A.U.vm.findClass E = some ce.cls ∧ B.locs = A.locs ++ L ∧ (∀ z ∈ L, free z.base) ∧ B.cells = A.cells + mc ∧ B.slots = A.slots + ms
def vx_Back (l : Launch) (R : Room) (p : Program) (e : Env) (below : List Frame) (s : State) (sargs : Array Value) (y : MethodName) (len W9 : Nat)
    (Pre : Pt → Array Value → Prop) (Post : Pt → Array Value → Option Value → Pt → Prop) (PostX : Pt → Array Value → Addr → Pt → Prop) : Prop :=
  ∀ (m : MethodId) (meth : Method) (c : Code) (A : Pt) (g : JFrame) (ig : Instr) (mk : MethodId) (a : Array Value),
    Stand p l e R s m sargs below meth c A.U A.locs A.cells A.slots → g.method = m → g.locals.size = c.maxLocals → decode c.code g.pc = .ok (ig, len) →
    2 * g.monitorRoom + (g.stack.map fun v => v.category).sum ≤ W9 → A.U.methodNamed? y = some mk → Pre A a →
    (∃ (v : Option Value) (B : Pt), Stand p l e R s m sargs below meth c B.U B.locs B.cells B.slots ∧ Post A a v B ∧
      Steps p.tables e below (doInvoke e (A.U.setTop g) [] mk a).1 (B.U.setTop { g with pc := g.pc + len, stack := v.toList ++ g.stack })) ∨
    (∃ (q : Addr) (B : Pt), Stand p l e R s m sargs below meth c B.U B.locs B.cells B.slots ∧ PostX A a q B ∧
      Steps p.tables e below (doInvoke e (A.U.setTop g) [] mk a).1 ((B.U.setTop g).pushFrame (.throwing q)))
section Payer
variable {l : Launch} {R : Room} {p : Program} {e : Env} {below : List Frame} {s : State} {sargs : Array Value} {y : MethodName} {len W9 : Nat}
theorem vx_back {ws : List Cond} {rm : Room} {Pc : Array Value → State → Prop} {Qc : Array Value → State → Outcome → State → Prop} {XC : String → State → State → Prop} {mc ms : Nat} {free : Addr → Prop} {bytes : ByteArray} {maxL : Nat} {ret : Option FieldType}
    (hM : vx_Met l y ws rm Pc Qc XC mc ms free) (hblind : FrameBlind Pc) (hrc : rm.cells = mc) (hrs : rm.slots = ms)
    (hframes : rm.frames + 1 ≤ R.frames) (hlocals : W9 + (maxL + 11) + rm.locals ≤ R.locals)
    (hws : ∀ w ∈ ws, ∀ a' U, s.WarmedH U.vm → w.before a' U = true) (hcode : Cond.code y bytes maxL ret ∈ ws) (hinit : ∀ a' U, s.WarmedH U.vm → (Cond.initialized y.cls).before a' U = true) :
    vx_Back l R p e below s sargs y len W9 (PreOf R mc ms Pc) (PostOf Qc mc ms free) (vx_Post XC mc ms free) := by
  intro m meth c A g ig mk a X hg hsize hdg hW hn hp
  have h1 : (headSpec ws rm).pre.before a A.U = true := atoms_intro fun w hw => hws w hw _ _ X.warmed
  have h2 : (Cond.code y bytes maxL ret).before a A.U = true := hws _ hcode _ _ X.warmed
  have h3 : (Cond.initialized y.cls).before a A.U = true := hinit _ _ X.warmed
  have h4 : A.cells + (headSpec ws rm).room.cells ≤ R.cells := by rw [show (headSpec ws rm).room.cells = mc from hrc]; exact hp.1
  have h5 : A.slots + (headSpec ws rm).room.slots ≤ R.slots := by rw [show (headSpec ws rm).room.slots = ms from hrs]; exact hp.2.1
  have hPc : Pc a (A.U.calling g mk a) := hblind _ _ _ _ hp.2.2
  obtain ⟨U, Ls, c0, s0⟩ := A
  dsimp only [Pt.U, Pt.locs, Pt.cells, Pt.slots] at h1 h2 h3 h4 h5 X hn hPc ⊢
  obtain ⟨methY, cY, hmY, hcY, -, hlY, -, -, -, -⟩ := Cond.code_spec hn h2
  obtain ⟨kY, hkY, -⟩ := className_of_methodNamed hn
  have hinitY : kY.init = .initialized := Cond.initialized_spec (findClass_of_methodNamed hn) hkY h3
  have h : At U g.method c below := by rw [hg]; exact X.here
  have hlocals9 : W9 + (maxL + 11) + (headSpec ws rm).room.locals ≤ R.locals := hlocals
  have happ : (headSpec ws rm).appliesLoose y e.platform (U.calling g mk a) = true :=
    Spec.appliesLoose_calling (g := g) h hdg hn hkY hinitY
      (X.room_calling (g := g) (R' := (headSpec ws rm).room) hsize hmY hcY hframes (by rw [hlY]; omega) h4 h5) h1
  obtain ⟨mid, hmid⟩ := h.above
  have hfr : (U.setTop g).frames = (.java g :: mid) ++ below := by rw [State.frames_setTop' g h.top, hmid]; rfl
  obtain ⟨o, s₂, hsteps, -, hend, hq⟩ := Steps.callFree hM p X.admits X.cas X.clock (acts := []) hfr happ hPc trivial
  have hq' : vx_Q Qc XC mc ms free a (U.calling g mk a) o s₂ := hq
  rw [State.frames_setTop' g h.top] at hend
  obtain ⟨g₀, hg0⟩ := Option.isSome_iff_exists.mp h.top
  obtain ⟨r, hr⟩ := State.topJava?_eq_some.mp hg0
  have hr' : (({ U with heap := s₂.heap, slotsUsed := s₂.slotsUsed } : State).setVm s₂.vm).frames = .java g₀ :: r := hr
  rcases hq' with ⟨hqc, L, hfe, hL⟩ | ⟨q, rfl, E, ce, L, hx, hce, hcv, hcl, hW₂, hsm, hL⟩
  · obtain ⟨⟨v, rfl⟩, hW₂, e2, q2, q3, q4, q5, q6⟩ := id hfe
    have e3 : s₂ = ({ (U.calling g mk a).setFrames s₂.frames with heap := s₂.heap, slotsUsed := s₂.slotsUsed } : State).setVm s₂.vm := by
      have : s₂ = ({ s₂ with vm := (U.calling g mk a).vm } : State).setVm s₂.vm := rfl
      rw [e2] at this
      exact this
    obtain ⟨c₂, i₂, len₂, hc₂, hd₂, hf₂⟩ := hend
    have hW' : U.WarmedH s₂.vm := hW₂
    have hcc : c₂ = c := by
      have h1 : s₂.code? g.method = U.code? g.method := by
        rw [State.code?_eq, State.code?_eq, hW'.alike.method?]
      exact Option.some.inj (hc₂.symm.trans (h1.trans h.code))
    subst hcc
    have hlen : len₂ = len := by rw [hdg] at hd₂; cases hd₂; rfl
    subst hlen
    have hs₂ : s₂ = (({ U with heap := s₂.heap, slotsUsed := s₂.slotsUsed } : State).setVm s₂.vm).setTop { g with pc := g.pc + len₂, stack := v.toList ++ g.stack } := by
      refine e3.trans ?_
      rw [hf₂, State.calling_eq h.top, State.setFrames_setFrames, State.setTop_of_frames _ hr', hr]
      rfl
    have hsame : U.sameButNew ({ U with heap := s₂.heap, slotsUsed := s₂.slotsUsed } : State) L mc ms := by
      refine ⟨?_, q2, q3, q4, q5, q6⟩
      obtain ⟨t, ht, -⟩ := State.frames_cons hr
      show ({ U with heap := s₂.heap, slotsUsed := s₂.slotsUsed } : State) = { U.setFrames U.frames with heap := s₂.heap, slotsUsed := s₂.slotsUsed }
      rw [State.setFrames_self ht]
    subst hg
    refine Or.inl ⟨v, ⟨(({ U with heap := s₂.heap, slotsUsed := s₂.slotsUsed } : State).setVm s₂.vm), Ls ++ L, c0 + mc, s0 + ms⟩,
      ⟨X.admits, X.cas, X.clock, X.frames, X.room, X.hears, X.method, X.code, (X.here.setHeapUsed s₂.heap s₂.slotsUsed).setVm hW'.alike, X.tail, State.WarmedH.trans X.warmed hW', X.limits, X.bytes, X.same.trans (hsame.setVm s.vm)⟩,
      ⟨g, mk, s₂, L, rfl, rfl, hqc, rfl, hL, rfl, rfl⟩, ?_⟩
    show Steps p.tables e below _ ((({ U with heap := s₂.heap, slotsUsed := s₂.slotsUsed } : State).setVm s₂.vm).setTop { g with pc := g.pc + len₂, stack := v.toList ++ g.stack })
    rw [← hs₂]
    exact hsteps
  · obtain ⟨e2, q2, q3, q4, q5, q6⟩ := id hsm
    have e3 : s₂ = ({ (U.calling g mk a).setFrames s₂.frames with heap := s₂.heap, slotsUsed := s₂.slotsUsed } : State).setVm s₂.vm := by
      have : s₂ = ({ s₂ with vm := (U.calling g mk a).vm } : State).setVm s₂.vm := rfl
      rw [e2] at this
      exact this
    have hf₂ : s₂.frames = .throwing q :: .java g :: U.frames.tail := hend
    have hW' : U.WarmedH s₂.vm := hW₂
    have hs₂ : s₂ = ((({ U with heap := s₂.heap, slotsUsed := s₂.slotsUsed } : State).setVm s₂.vm).setTop g).pushFrame (.throwing q) := by
      refine e3.trans ?_
      rw [hf₂, State.calling_eq h.top, State.setFrames_setFrames, State.pushFrame, State.frames_setTop _ hr', State.setTop_of_frames _ hr', State.setFrames_setFrames, hr]
      rfl
    have hsame : U.sameButNew ({ U with heap := s₂.heap, slotsUsed := s₂.slotsUsed } : State) L mc ms := by
      refine ⟨?_, q2, q3, q4, q5, q6⟩
      obtain ⟨t, ht, -⟩ := State.frames_cons hr
      show ({ U with heap := s₂.heap, slotsUsed := s₂.slotsUsed } : State) = { U.setFrames U.frames with heap := s₂.heap, slotsUsed := s₂.slotsUsed }
      rw [State.setFrames_self ht]
    subst hg
    refine Or.inr ⟨q, ⟨(({ U with heap := s₂.heap, slotsUsed := s₂.slotsUsed } : State).setVm s₂.vm), Ls ++ L, c0 + mc, s0 + ms⟩,
      ⟨X.admits, X.cas, X.clock, X.frames, X.room, X.hears, X.method, X.code, (X.here.setHeapUsed s₂.heap s₂.slotsUsed).setVm hW'.alike, X.tail, State.WarmedH.trans X.warmed hW', X.limits, X.bytes, X.same.trans (hsame.setVm s.vm)⟩,
      ⟨g, mk, s₂, L, E, ce, rfl, rfl, hx, hce, hcv, hcl, rfl, hL, rfl, rfl⟩, ?_⟩
    show Steps p.tables e below _ (((({ U with heap := s₂.heap, slotsUsed := s₂.slotsUsed } : State).setVm s₂.vm).setTop g).pushFrame (.throwing q))
    rw [← hs₂]
    exact hsteps
end Payer
section Calls
variable {p : Program} {l : Launch} {e : Env} {R : Room} {s : State} {m : MethodId} {args : Array Value} {below : List Frame} {meth : Method} {c : Code} {T : State} {locs : List Loc} {cells slots : Nat}
theorem vx_callV (X : Stand p l e R s m args below meth c T locs cells slots) (hexec : p.tables.exec = Jvm.exec) {own C : String} {index : Nat} {y : MethodName} {bytes : ByteArray} {maxL : Nat} {ret : Option FieldType}
    (hown : s.vm.findClass own = some m.cls) (hlink : (Cond.methodLink own index y).before args s = true) (hinst : (Cond.instanceMethod y).before args s = true) (hsel : (Cond.selects C y y).before args s = true)
    (hcode : (Cond.code y bytes maxL ret).before args s = true) (hy : y.cls ≠ "java/lang/invoke/MethodHandle" ∧ y.cls ≠ "java/lang/invoke/VarHandle")
    {W9 : Nat} {Pre : Pt → Array Value → Prop} {Post : Pt → Array Value → Option Value → Pt → Prop} {PostX : Pt → Array Value → Addr → Pt → Prop} (hK : vx_Back l R p e below s args y 3 W9 Pre Post PostX)
    {b : Addr} {cellB : Cell} (hcell : T.heap[b]? = some cellB) (hobj : cellB.vm.isStatics = false) (hcls : s.vm.findClass C = some cellB.cls)
    {g : JFrame} (hg : g.method = m) (hsize : g.locals.size = c.maxLocals) {argsL rest : List Value} (hlen : ∀ sig, parseMethodDescriptor y.desc = some sig → argsL.length = sig.parameters.length)
    (hstack : g.stack = argsL.reverse ++ .ref b :: rest) (hW : 2 * g.monitorRoom + (rest.map fun v => v.category).sum ≤ W9) (hdg : decode c.code g.pc = .ok (.invokevirtual index, 3))
    (hpre : ∀ vm₁, s.WarmedH vm₁ → Pre ⟨T.setVm vm₁, locs, cells, slots⟩ (Value.ref b :: argsL).toArray) :
    (∃ (v : Option Value) (vm₁ : Vm) (B : Pt), s.WarmedH vm₁ ∧ Stand p l e R s m args below meth c B.U B.locs B.cells B.slots ∧ Post ⟨T.setVm vm₁, locs, cells, slots⟩ (Value.ref b :: argsL).toArray v B ∧
      ∀ target, Steps p.tables e below (B.U.setTop { g with pc := g.pc + 3, stack := v.toList ++ rest }) target → Steps p.tables e below (T.setTop g) target) ∨
    (∃ (q : Addr) (vm₁ : Vm) (B : Pt), s.WarmedH vm₁ ∧ Stand p l e R s m args below meth c B.U B.locs B.cells B.slots ∧ PostX ⟨T.setVm vm₁, locs, cells, slots⟩ (Value.ref b :: argsL).toArray q B ∧
      Steps p.tables e below (T.setTop g) ((B.U.setTop { g with stack := rest }).pushFrame (.throwing q))) := by
  obtain ⟨mk, methM, hnamed, hmethM, hstM, habM⟩ := Cond.instanceMethod_spec hinst
  obtain ⟨methM', cM, hmethM', -, -, -, -, -, -, hsigM⟩ := Cond.code_spec hnamed hcode
  cases hmethM.symm.trans hmethM'
  obtain ⟨c2, r2, m2, q1, q2, q3, q4, kP, hkP, hkPi⟩ := Cond.selects_spec hsel
  cases hcls.symm.trans q1
  cases (State.methodFound?_of_named hnamed hy).symm.trans q2
  cases hnamed.symm.trans q3
  have hselP : selectMethod e.platform s.vm cellB.cls mk = .method mk := by rw [Launch.admits_selectMethod X.admits]; exact q4
  obtain ⟨vm₁, X₁, hstep₁⟩ := X.invokevirtual hexec hown hlink hnamed hmethM hstM hkP hkPi hy (a := b) (cell := cellB) hcell
    (fun z h => by rw [h] at hobj; cases hobj) hselP hmethM habM hkP hkPi (g := g) hg (argsL := argsL) (rest := rest) (hlen _ hsigM) hstack hdg
  rcases hK m meth c ⟨T.setVm vm₁, locs, cells, slots⟩ { g with stack := rest } (.invokevirtual index) mk (Value.ref b :: argsL).toArray X₁ hg hsize hdg hW (X₁.named hnamed) (hpre vm₁ X₁.warmed) with ⟨v, B, X', hpost, hsteps⟩ | ⟨q, B, X', hpost, hsteps⟩
  · exact Or.inl ⟨v, vm₁, B, X₁.warmed, X', hpost, fun target h => hstep₁ _ fun acts => by rw [doInvoke_state]; exact hsteps.trans h⟩
  · exact Or.inr ⟨q, vm₁, B, X₁.warmed, X', hpost, hstep₁ _ fun acts => by rw [doInvoke_state]; exact hsteps⟩
theorem vx_callS (X : Stand p l e R s m args below meth c T locs cells slots) (hexec : p.tables.exec = Jvm.exec) {own : String} {index : Nat} {y : MethodName} {bytes : ByteArray} {maxL : Nat} {ret : Option FieldType}
    (hown : s.vm.findClass own = some m.cls) (hlink : (Cond.methodLink own index y).before args s = true) (hstat : (Cond.static y).before args s = true) (hinit : (Cond.initialized y.cls).before args s = true)
    (hcode : (Cond.code y bytes maxL ret).before args s = true) (hy : y.cls ≠ "java/lang/invoke/MethodHandle" ∧ y.cls ≠ "java/lang/invoke/VarHandle")
    {W9 : Nat} {Pre : Pt → Array Value → Prop} {Post : Pt → Array Value → Option Value → Pt → Prop} {PostX : Pt → Array Value → Addr → Pt → Prop} (hK : vx_Back l R p e below s args y 3 W9 Pre Post PostX)
    {g : JFrame} (hg : g.method = m) (hsize : g.locals.size = c.maxLocals) {argsL rest : List Value} (hlen : ∀ sig, parseMethodDescriptor y.desc = some sig → argsL.length = sig.parameters.length)
    (hstack : g.stack = argsL.reverse ++ rest) (hW : 2 * g.monitorRoom + (rest.map fun v => v.category).sum ≤ W9) (hdg : decode c.code g.pc = .ok (.invokestatic index, 3))
    (hpre : ∀ vm₁, s.WarmedH vm₁ → Pre ⟨T.setVm vm₁, locs, cells, slots⟩ argsL.toArray) :
    (∃ (v : Option Value) (vm₁ : Vm) (B : Pt), s.WarmedH vm₁ ∧ Stand p l e R s m args below meth c B.U B.locs B.cells B.slots ∧ Post ⟨T.setVm vm₁, locs, cells, slots⟩ argsL.toArray v B ∧
      ∀ target, Steps p.tables e below (B.U.setTop { g with pc := g.pc + 3, stack := v.toList ++ rest }) target → Steps p.tables e below (T.setTop g) target) ∨
    (∃ (q : Addr) (vm₁ : Vm) (B : Pt), s.WarmedH vm₁ ∧ Stand p l e R s m args below meth c B.U B.locs B.cells B.slots ∧ PostX ⟨T.setVm vm₁, locs, cells, slots⟩ argsL.toArray q B ∧
      Steps p.tables e below (T.setTop g) ((B.U.setTop { g with stack := rest }).pushFrame (.throwing q))) := by
  obtain ⟨mk, hnamed⟩ := Cond.code_named hcode
  obtain ⟨methM, cM, hmethM, -, -, -, -, -, -, hsigM⟩ := Cond.code_spec hnamed hcode
  have hstatic : methM.isStatic = true := Cond.static_spec hnamed hmethM hstat
  obtain ⟨kP, hkP, -⟩ := className_of_methodNamed hnamed
  have hinitP : kP.init = .initialized := Cond.initialized_spec (findClass_of_methodNamed hnamed) hkP hinit
  obtain ⟨vm₁, X₁, hstep₁⟩ := X.invokestatic hexec hown hlink hnamed hmethM hstatic hkP hinitP hy (g := g) hg (argsL := argsL) (rest := rest) (hlen _ hsigM) hstack hdg
  rcases hK m meth c ⟨T.setVm vm₁, locs, cells, slots⟩ { g with stack := rest } (.invokestatic index) mk argsL.toArray X₁ hg hsize hdg hW (X₁.named hnamed) (hpre vm₁ X₁.warmed) with ⟨v, B, X', hpost, hsteps⟩ | ⟨q, B, X', hpost, hsteps⟩
  · exact Or.inl ⟨v, vm₁, B, X₁.warmed, X', hpost, fun target h => hstep₁ _ fun acts => by rw [doInvoke_state]; exact hsteps.trans h⟩
  · exact Or.inr ⟨q, vm₁, B, X₁.warmed, X', hpost, hstep₁ _ fun acts => by rw [doInvoke_state]; exact hsteps⟩
end Calls
theorem vx_cls {s : State} {T : State} {vm₁ : Vm} {E : String} {k : ClassId} (hW : s.WarmedH vm₁) (h : (T.setVm vm₁).vm.findClass E = some k) : s.vm.findClass E = some k := by
  have h1 : vm₁.findClass E = some k := h
  rw [hW.alike.findClass] at h1
  exact h1
/-- the method's frame g, with q thrown over it -/
def vx_W (p : Program) (l : Launch) (e : Env) (R : Room) (s : State) (m : MethodId) (args : Array Value) (below : List Frame) (meth : Method) (c : Code) (H : Heap) (locs : List Loc) (cells slots : Nat) (Q : State → Prop) (g : JFrame) (q : Addr) : Prop :=
  ∀ T : State, T.heap = H → Stand p l e R s m args below meth c T locs cells slots → ∃ t, Steps p.tables e below ((T.setTop g).pushFrame (.throwing q)) t ∧ Q t
def vx_Run (p : Program) (l : Launch) (e : Env) (R : Room) (s : State) (m : MethodId) (args : Array Value) (below : List Frame) (meth : Method) (c : Code) (H : Heap) (locs : List Loc) (cells slots mc ms : Nat) (g : JFrame) (rest : List Value) (Qa : State → Outcome → State → Prop) (XC : String → State → State → Prop) (free : Addr → Prop) : Prop :=
  ∀ T : State, T.heap = H → Stand p l e R s m args below meth c T locs cells slots →
    (∃ (v : Option Value) (st₀ t T' : State) (L : List Loc), st₀.heap = H ∧ Stand p l e R s m args below meth c T' (locs ++ L) (cells + mc) (slots + ms) ∧ (∀ q ∈ L, free q.base) ∧ T'.heap = t.heap ∧ T'.vm = t.vm ∧ Qa st₀ (.returned v) t ∧
      Goes p e below T g T' { g with pc := g.pc + 3, stack := v.toList ++ rest }) ∨
    (∃ (q : Addr) (st₀ t T' : State) (L : List Loc) (E : String) (ce : Cell), st₀.heap = H ∧ Stand p l e R s m args below meth c T' (locs ++ L) (cells + mc) (slots + ms) ∧ (∀ z ∈ L, free z.base) ∧ T'.heap = t.heap ∧ T'.vm = t.vm ∧ XC E st₀ t ∧ t.heap[q]? = some ce ∧ ce.vm = .none ∧ s.vm.findClass E = some ce.cls ∧
      Steps p.tables e below (T.setTop g) ((T'.setTop { g with stack := rest }).pushFrame (.throwing q)))
def vx_X {S : Type} (px : S → Prop) (B : String → S → State → Prop) (A : Nat → Prop) : String → State → State → Prop := fun E st t => ∃ u : S, px u ∧ B E u t ∧ va_F A st t
section Runs
variable {p : Program} {l : Launch} {e : Env} {R : Room} {s : State} {m : MethodId} {args : Array Value} {below : List Frame} {meth : Method} {c : Code} {H : Heap} {locs : List Loc} {cells slots : Nat}
variable {y : MethodName} {bytes cc : ByteArray} {maxL nL mc ms n index : Nat} {ret : Option FieldType} {ws : List Cond} {rm : Room} {Pc : Array Value → State → Prop} {Qc : Array Value → State → Outcome → State → Prop} {XC : String → State → State → Prop} {free : Addr → Prop} {Ts : List Cond} {own C : String} {b : Addr} {As rest : List Value} {g : JFrame}
theorem vx_callBack (cb : CallB R s args own index y bytes maxL ret ws rm mc ms n) (hM : vx_Met l y ws rm Pc Qc XC mc ms free) (hbl : FrameBlind Pc) : vx_Back l R p e below s args y 3 8 (PreOf R mc ms Pc) (PostOf Qc mc ms free) (vx_Post XC mc ms free) := by
  obtain ⟨hrc, hrs, hfr, hlo, hws, hcw, -, hini, -⟩ := cb
  exact vx_back (bytes := bytes) (maxL := maxL) (ret := ret) hM hbl hrc hrs hfr hlo hws hcw (fun a' U hW => word_at hW (Or.inl (by first | rfl | simp [Cond.onTables, Cond.keeps, Cond.steady])) hini)
theorem vx_runV (S : CallFix p m c cc nL s args Ts own) (hM : vx_Met l y ws rm Pc Qc XC mc ms free) (cw : CallW R s args own C index y bytes maxL ret ws rm mc ms n) (hp : PreV s H C b Pc As)
    (hg : g.method = m) (hn : As.length = n) (hsize : g.locals.size = nL) (hstack : g.stack = As.reverse ++ .ref b :: rest) (hW : 2 * g.monitorRoom + (rest.map fun v => v.category).sum ≤ 8) (hdg : decode cc g.pc = .ok (.invokevirtual index, 3)) (hf : cells + mc ≤ R.cells ∧ slots + ms ≤ R.slots) :
    vx_Run p l e R s m args below meth c H locs cells slots mc ms g rest (Qc (Value.ref b :: As).toArray) XC free := by
  have hK : vx_Back l R p e below s args y 3 8 (PreOf R mc ms Pc) (PostOf Qc mc ms free) (vx_Post XC mc ms free) := vx_callBack cw.1 hM hp.1
  obtain ⟨⟨-, -, -, -, -, -, hcode, -, hy, hlen, hl⟩, hin, hse⟩ := cw
  obtain ⟨hx, hb, hml, ho, -⟩ := S
  obtain ⟨-, ⟨cellB, hcB, hoB, hclB⟩, hPc⟩ := hp
  intro T hT X
  rcases vx_callV X hx (C := C) (bytes := bytes) (maxL := maxL) (ret := ret) ho hl hin hse hcode hy hK (by rw [hT]; exact hcB) hoB hclB hg (hsize.trans hml.symm) (argsL := As) (rest := rest) (fun sig h => hn.trans (hlen sig h)) hstack hW (by rw [hb]; exact hdg)
    (fun vm₁ hW₁ => ⟨hf.1, hf.2, hPc (T.setVm vm₁) hT hW₁⟩) with ⟨v, vm₁, ⟨U', l2, c2, s2⟩, hW₁, X', ⟨g', mk, t, L, e1, e2, hq, h1, hL, h2, h3⟩, st⟩ | ⟨q, vm₁, ⟨U', l2, c2, s2⟩, hW₁, X', ⟨g', mk, t, L, E, ce, e1, e2, hq, hce, hcv, hcl, h1, hL, h2, h3⟩, st⟩
  · dsimp only [Pt.U, Pt.locs, Pt.cells, Pt.slots] at X' e1 e2 h1 h2 h3 st
    subst h1; subst h2; subst h3
    exact Or.inl ⟨v, (T.setVm vm₁).calling g' mk (Value.ref b :: As).toArray, t, U', L, hT, X', hL, e1, e2, hq, st⟩
  · dsimp only [Pt.U, Pt.locs, Pt.cells, Pt.slots] at X' e1 e2 h1 h2 h3 st hcl
    subst h1; subst h2; subst h3
    exact Or.inr ⟨q, (T.setVm vm₁).calling g' mk (Value.ref b :: As).toArray, t, U', L, E, ce, hT, X', hL, e1, e2, hq, hce, hcv, vx_cls hW₁ hcl, st⟩
theorem vx_runS (S : CallFix p m c cc nL s args Ts own) (hM : vx_Met l y ws rm Pc Qc XC mc ms free) (cw : CallB R s args own index y bytes maxL ret ws rm mc ms n ∧ (Cond.static y).before args s = true) (hp : PreS s H Pc As)
    (hg : g.method = m) (hn : As.length = n) (hsize : g.locals.size = nL) (hstack : g.stack = As.reverse ++ rest) (hW : 2 * g.monitorRoom + (rest.map fun v => v.category).sum ≤ 8) (hdg : decode cc g.pc = .ok (.invokestatic index, 3)) (hf : cells + mc ≤ R.cells ∧ slots + ms ≤ R.slots) :
    vx_Run p l e R s m args below meth c H locs cells slots mc ms g rest (Qc As.toArray) XC free := by
  have hK : vx_Back l R p e below s args y 3 8 (PreOf R mc ms Pc) (PostOf Qc mc ms free) (vx_Post XC mc ms free) := vx_callBack cw.1 hM hp.1
  obtain ⟨⟨-, -, -, -, -, -, hcode, hini, hy, hlen, hl⟩, hstt⟩ := cw
  obtain ⟨hx, hb, hml, ho, -⟩ := S
  intro T hT X
  rcases vx_callS X hx (bytes := bytes) (maxL := maxL) (ret := ret) ho hl hstt hini hcode hy hK hg (hsize.trans hml.symm) (argsL := As) (rest := rest) (fun sig h => hn.trans (hlen sig h)) hstack hW (by rw [hb]; exact hdg)
    (fun vm₁ hW₁ => ⟨hf.1, hf.2, hp.2 (T.setVm vm₁) hT hW₁⟩) with ⟨v, vm₁, ⟨U', l2, c2, s2⟩, hW₁, X', ⟨g', mk, t, L, e1, e2, hq, h1, hL, h2, h3⟩, st⟩ | ⟨q, vm₁, ⟨U', l2, c2, s2⟩, hW₁, X', ⟨g', mk, t, L, E, ce, e1, e2, hq, hce, hcv, hcl, h1, hL, h2, h3⟩, st⟩
  · dsimp only [Pt.U, Pt.locs, Pt.cells, Pt.slots] at X' e1 e2 h1 h2 h3 st
    subst h1; subst h2; subst h3
    exact Or.inl ⟨v, (T.setVm vm₁).calling g' mk As.toArray, t, U', L, hT, X', hL, e1, e2, hq, st⟩
  · dsimp only [Pt.U, Pt.locs, Pt.cells, Pt.slots] at X' e1 e2 h1 h2 h3 st hcl
    subst h1; subst h2; subst h3
    exact Or.inr ⟨q, (T.setVm vm₁).calling g' mk As.toArray, t, U', L, E, ce, hT, X', hL, e1, e2, hq, hce, hcv, vx_cls hW₁ hcl, st⟩
end Runs
section Rows
variable {p : Program} {l : Launch} {e : Env} {R : Room} {s : State} {m : MethodId} {args : Array Value} {below : List Frame} {meth : Method} {c : Code} {H : Heap} {locs : List Loc} {cells slots : Nat} {Q : State → Prop}
variable {mc ms : Nat} {free : Addr → Prop} {A0 A1 : Nat → Prop} {H0 : Heap} {a : Array Value} {pc : Nat} {ls : Array Slot} {st0 rest : List Value}
theorem vx_keep {st₀ t T' : State} {L : List Loc} (h0 : st₀.heap = H) (e1 : T'.heap = t.heap) (hS : va_S A0 H0 H locs) (hA : ∀ q, q < H.size → A1 q → A0 q) (hf : ∀ q, free q → A0 q) (hL : ∀ q ∈ L, free q.base) (hF : va_F A1 st₀ t) :
    H.size ≤ T'.heap.size ∧ (∀ q : Nat, q < H.size → ¬ A1 q → T'.heap[q]? = H[q]?) ∧ va_S A0 H0 T'.heap (locs ++ L) := by
  obtain ⟨hz, hk⟩ := hF
  rw [h0] at hz hk
  exact ⟨by rw [e1]; exact hz, fun q h1 h2 => by rw [e1]; exact hk q h1 h2,
    ⟨Nat.le_trans hS.1 (by rw [e1]; exact hz), fun q h1 h2 => by rw [e1, hk q (Nat.lt_of_lt_of_le h1 hS.1) (fun z => h2 (hA q (Nat.lt_of_lt_of_le h1 hS.1) z))]; exact hS.2.1 q h1 h2, fun q hq => by
      rcases List.mem_append.mp hq with h | h
      · exact hS.2.2 q h
      · exact hf _ (hL q h)⟩⟩
theorem vx_calli {S SX : Type} {post : Int32 → S → Prop} {px : SX → Prop} {B : S → State → Prop} {BX : String → SX → State → Prop} {AX : Nat → Prop} (hr : vx_Run p l e R s m args below meth c H locs cells slots mc ms (F0 m pc ls st0) rest (va_Qi post B A1 a) (vx_X px BX AX) free) (hS : va_S A0 H0 H locs) (hA : ∀ q, q < H.size → A1 q → A0 q) (hf : ∀ q, free q → A0 q) (hAX : ∀ q, q < H.size → AX q → A0 q)
    (kx : ∀ (E : String) (ce : Cell) (q9 : Addr) (u : SX) (t : State) (H1 : Heap) (locs1 : List Loc), t.heap = H1 → s.vm.Alike t.vm → px u → BX E u t → H.size ≤ H1.size → (∀ q : Nat, q < H.size → ¬ AX q → H1[q]? = H[q]?) → va_S A0 H0 H1 locs1 → H1[q9]? = some ce → ce.vm = .none → s.vm.findClass E = some ce.cls → vx_W p l e R s m args below meth c H1 locs1 (cells + mc) (slots + ms) Q (F0 m pc ls rest) q9)
    (kk : ∀ (r : Int32) (u : S) (t : State) (H1 : Heap) (locs1 : List Loc), t.heap = H1 → s.vm.Alike t.vm → post r u → B u t → H.size ≤ H1.size → (∀ q : Nat, q < H.size → ¬ A1 q → H1[q]? = H[q]?) → va_S A0 H0 H1 locs1 → W p l e R s m args below meth c H1 locs1 (cells + mc) (slots + ms) Q (F0 m (pc + 3) ls (.int r :: rest))) : W p l e R s m args below meth c H locs cells slots Q (F0 m pc ls st0) := by
  intro T hT X
  rcases hr T hT X with ⟨v, st₀, t, T', L, h0, X', hL, e1, e2, ⟨⟨r, u, hv, hp, hb⟩, hF⟩, st⟩ | ⟨q, st₀, t, T', L, E, ce, h0, X', hL, e1, e2, ⟨u, hp, hb, hF⟩, hce, hcv, hcl, st⟩
  · cases hv
    obtain ⟨k1, k2, k3⟩ := vx_keep h0 e1 hS hA hf hL hF
    obtain ⟨t2, a1, b1⟩ := kk r u t T'.heap (locs ++ L) e1.symm (by rw [← e2]; exact X'.warmed.alike) hp hb k1 k2 k3 T' rfl X'
    exact ⟨t2, st t2 a1, b1⟩
  · obtain ⟨k1, k2, k3⟩ := vx_keep h0 e1 hS hAX hf hL hF
    obtain ⟨t2, a1, b1⟩ := kx E ce q u t T'.heap (locs ++ L) e1.symm (by rw [← e2]; exact X'.warmed.alike) hp hb k1 k2 k3 (by rw [e1]; exact hce) hcv hcl T' rfl X'
    exact ⟨t2, st.trans a1, b1⟩
theorem vx_calll {S SX : Type} {post : Int64 → S → Prop} {px : SX → Prop} {B : S → State → Prop} {BX : String → SX → State → Prop} {AX : Nat → Prop} (hr : vx_Run p l e R s m args below meth c H locs cells slots mc ms (F0 m pc ls st0) rest (va_Ql post B A1 a) (vx_X px BX AX) free) (hS : va_S A0 H0 H locs) (hA : ∀ q, q < H.size → A1 q → A0 q) (hf : ∀ q, free q → A0 q) (hAX : ∀ q, q < H.size → AX q → A0 q)
    (kx : ∀ (E : String) (ce : Cell) (q9 : Addr) (u : SX) (t : State) (H1 : Heap) (locs1 : List Loc), t.heap = H1 → s.vm.Alike t.vm → px u → BX E u t → H.size ≤ H1.size → (∀ q : Nat, q < H.size → ¬ AX q → H1[q]? = H[q]?) → va_S A0 H0 H1 locs1 → H1[q9]? = some ce → ce.vm = .none → s.vm.findClass E = some ce.cls → vx_W p l e R s m args below meth c H1 locs1 (cells + mc) (slots + ms) Q (F0 m pc ls rest) q9)
    (kk : ∀ (r : Int64) (u : S) (t : State) (H1 : Heap) (locs1 : List Loc), t.heap = H1 → s.vm.Alike t.vm → post r u → B u t → H.size ≤ H1.size → (∀ q : Nat, q < H.size → ¬ A1 q → H1[q]? = H[q]?) → va_S A0 H0 H1 locs1 → W p l e R s m args below meth c H1 locs1 (cells + mc) (slots + ms) Q (F0 m (pc + 3) ls (.long r :: rest))) : W p l e R s m args below meth c H locs cells slots Q (F0 m pc ls st0) := by
  intro T hT X
  rcases hr T hT X with ⟨v, st₀, t, T', L, h0, X', hL, e1, e2, ⟨⟨r, u, hv, hp, hb⟩, hF⟩, st⟩ | ⟨q, st₀, t, T', L, E, ce, h0, X', hL, e1, e2, ⟨u, hp, hb, hF⟩, hce, hcv, hcl, st⟩
  · cases hv
    obtain ⟨k1, k2, k3⟩ := vx_keep h0 e1 hS hA hf hL hF
    obtain ⟨t2, a1, b1⟩ := kk r u t T'.heap (locs ++ L) e1.symm (by rw [← e2]; exact X'.warmed.alike) hp hb k1 k2 k3 T' rfl X'
    exact ⟨t2, st t2 a1, b1⟩
  · obtain ⟨k1, k2, k3⟩ := vx_keep h0 e1 hS hAX hf hL hF
    obtain ⟨t2, a1, b1⟩ := kx E ce q u t T'.heap (locs ++ L) e1.symm (by rw [← e2]; exact X'.warmed.alike) hp hb k1 k2 k3 (by rw [e1]; exact hce) hcv hcl T' rfl X'
    exact ⟨t2, st.trans a1, b1⟩
theorem vx_callf {S SX : Type} {post : UInt32 → S → Prop} {px : SX → Prop} {B : S → State → Prop} {BX : String → SX → State → Prop} {AX : Nat → Prop} (hr : vx_Run p l e R s m args below meth c H locs cells slots mc ms (F0 m pc ls st0) rest (va_Qf post B A1 a) (vx_X px BX AX) free) (hS : va_S A0 H0 H locs) (hA : ∀ q, q < H.size → A1 q → A0 q) (hf : ∀ q, free q → A0 q) (hAX : ∀ q, q < H.size → AX q → A0 q)
    (kx : ∀ (E : String) (ce : Cell) (q9 : Addr) (u : SX) (t : State) (H1 : Heap) (locs1 : List Loc), t.heap = H1 → s.vm.Alike t.vm → px u → BX E u t → H.size ≤ H1.size → (∀ q : Nat, q < H.size → ¬ AX q → H1[q]? = H[q]?) → va_S A0 H0 H1 locs1 → H1[q9]? = some ce → ce.vm = .none → s.vm.findClass E = some ce.cls → vx_W p l e R s m args below meth c H1 locs1 (cells + mc) (slots + ms) Q (F0 m pc ls rest) q9)
    (kk : ∀ (r : UInt32) (u : S) (t : State) (H1 : Heap) (locs1 : List Loc), t.heap = H1 → s.vm.Alike t.vm → post r u → B u t → H.size ≤ H1.size → (∀ q : Nat, q < H.size → ¬ A1 q → H1[q]? = H[q]?) → va_S A0 H0 H1 locs1 → W p l e R s m args below meth c H1 locs1 (cells + mc) (slots + ms) Q (F0 m (pc + 3) ls (.float r :: rest))) : W p l e R s m args below meth c H locs cells slots Q (F0 m pc ls st0) := by
  intro T hT X
  rcases hr T hT X with ⟨v, st₀, t, T', L, h0, X', hL, e1, e2, ⟨⟨r, u, hv, hp, hb⟩, hF⟩, st⟩ | ⟨q, st₀, t, T', L, E, ce, h0, X', hL, e1, e2, ⟨u, hp, hb, hF⟩, hce, hcv, hcl, st⟩
  · cases hv
    obtain ⟨k1, k2, k3⟩ := vx_keep h0 e1 hS hA hf hL hF
    obtain ⟨t2, a1, b1⟩ := kk r u t T'.heap (locs ++ L) e1.symm (by rw [← e2]; exact X'.warmed.alike) hp hb k1 k2 k3 T' rfl X'
    exact ⟨t2, st t2 a1, b1⟩
  · obtain ⟨k1, k2, k3⟩ := vx_keep h0 e1 hS hAX hf hL hF
    obtain ⟨t2, a1, b1⟩ := kx E ce q u t T'.heap (locs ++ L) e1.symm (by rw [← e2]; exact X'.warmed.alike) hp hb k1 k2 k3 (by rw [e1]; exact hce) hcv hcl T' rfl X'
    exact ⟨t2, st.trans a1, b1⟩
theorem vx_calld {S SX : Type} {post : UInt64 → S → Prop} {px : SX → Prop} {B : S → State → Prop} {BX : String → SX → State → Prop} {AX : Nat → Prop} (hr : vx_Run p l e R s m args below meth c H locs cells slots mc ms (F0 m pc ls st0) rest (va_Qd post B A1 a) (vx_X px BX AX) free) (hS : va_S A0 H0 H locs) (hA : ∀ q, q < H.size → A1 q → A0 q) (hf : ∀ q, free q → A0 q) (hAX : ∀ q, q < H.size → AX q → A0 q)
    (kx : ∀ (E : String) (ce : Cell) (q9 : Addr) (u : SX) (t : State) (H1 : Heap) (locs1 : List Loc), t.heap = H1 → s.vm.Alike t.vm → px u → BX E u t → H.size ≤ H1.size → (∀ q : Nat, q < H.size → ¬ AX q → H1[q]? = H[q]?) → va_S A0 H0 H1 locs1 → H1[q9]? = some ce → ce.vm = .none → s.vm.findClass E = some ce.cls → vx_W p l e R s m args below meth c H1 locs1 (cells + mc) (slots + ms) Q (F0 m pc ls rest) q9)
    (kk : ∀ (r : UInt64) (u : S) (t : State) (H1 : Heap) (locs1 : List Loc), t.heap = H1 → s.vm.Alike t.vm → post r u → B u t → H.size ≤ H1.size → (∀ q : Nat, q < H.size → ¬ A1 q → H1[q]? = H[q]?) → va_S A0 H0 H1 locs1 → W p l e R s m args below meth c H1 locs1 (cells + mc) (slots + ms) Q (F0 m (pc + 3) ls (.double r :: rest))) : W p l e R s m args below meth c H locs cells slots Q (F0 m pc ls st0) := by
  intro T hT X
  rcases hr T hT X with ⟨v, st₀, t, T', L, h0, X', hL, e1, e2, ⟨⟨r, u, hv, hp, hb⟩, hF⟩, st⟩ | ⟨q, st₀, t, T', L, E, ce, h0, X', hL, e1, e2, ⟨u, hp, hb, hF⟩, hce, hcv, hcl, st⟩
  · cases hv
    obtain ⟨k1, k2, k3⟩ := vx_keep h0 e1 hS hA hf hL hF
    obtain ⟨t2, a1, b1⟩ := kk r u t T'.heap (locs ++ L) e1.symm (by rw [← e2]; exact X'.warmed.alike) hp hb k1 k2 k3 T' rfl X'
    exact ⟨t2, st t2 a1, b1⟩
  · obtain ⟨k1, k2, k3⟩ := vx_keep h0 e1 hS hAX hf hL hF
    obtain ⟨t2, a1, b1⟩ := kx E ce q u t T'.heap (locs ++ L) e1.symm (by rw [← e2]; exact X'.warmed.alike) hp hb k1 k2 k3 (by rw [e1]; exact hce) hcv hcl T' rfl X'
    exact ⟨t2, st.trans a1, b1⟩
theorem vx_callv {S SX : Type} {post : S → Prop} {px : SX → Prop} {B : S → State → Prop} {BX : String → SX → State → Prop} {AX : Nat → Prop} (hr : vx_Run p l e R s m args below meth c H locs cells slots mc ms (F0 m pc ls st0) rest (va_Qv post B A1 a) (vx_X px BX AX) free) (hS : va_S A0 H0 H locs) (hA : ∀ q, q < H.size → A1 q → A0 q) (hf : ∀ q, free q → A0 q) (hAX : ∀ q, q < H.size → AX q → A0 q)
    (kx : ∀ (E : String) (ce : Cell) (q9 : Addr) (u : SX) (t : State) (H1 : Heap) (locs1 : List Loc), t.heap = H1 → s.vm.Alike t.vm → px u → BX E u t → H.size ≤ H1.size → (∀ q : Nat, q < H.size → ¬ AX q → H1[q]? = H[q]?) → va_S A0 H0 H1 locs1 → H1[q9]? = some ce → ce.vm = .none → s.vm.findClass E = some ce.cls → vx_W p l e R s m args below meth c H1 locs1 (cells + mc) (slots + ms) Q (F0 m pc ls rest) q9)
    (kk : ∀ (u : S) (t : State) (H1 : Heap) (locs1 : List Loc), t.heap = H1 → s.vm.Alike t.vm → post u → B u t → H.size ≤ H1.size → (∀ q : Nat, q < H.size → ¬ A1 q → H1[q]? = H[q]?) → va_S A0 H0 H1 locs1 → W p l e R s m args below meth c H1 locs1 (cells + mc) (slots + ms) Q (F0 m (pc + 3) ls (rest))) : W p l e R s m args below meth c H locs cells slots Q (F0 m pc ls st0) := by
  intro T hT X
  rcases hr T hT X with ⟨v, st₀, t, T', L, h0, X', hL, e1, e2, ⟨⟨u, hv, hp, hb⟩, hF⟩, st⟩ | ⟨q, st₀, t, T', L, E, ce, h0, X', hL, e1, e2, ⟨u, hp, hb, hF⟩, hce, hcv, hcl, st⟩
  · cases hv
    obtain ⟨k1, k2, k3⟩ := vx_keep h0 e1 hS hA hf hL hF
    obtain ⟨t2, a1, b1⟩ := kk u t T'.heap (locs ++ L) e1.symm (by rw [← e2]; exact X'.warmed.alike) hp hb k1 k2 k3 T' rfl X'
    exact ⟨t2, st t2 a1, b1⟩
  · obtain ⟨k1, k2, k3⟩ := vx_keep h0 e1 hS hAX hf hL hF
    obtain ⟨t2, a1, b1⟩ := kx E ce q u t T'.heap (locs ++ L) e1.symm (by rw [← e2]; exact X'.warmed.alike) hp hb k1 k2 k3 (by rw [e1]; exact hce) hcv hcl T' rfl X'
    exact ⟨t2, st.trans a1, b1⟩
/-- caught by the row x of this method's table; the rows ahead don't take it -/
theorem vx_catch {own name : String} {E : String} {ce : Cell} {q : Addr} (hown : s.vm.findClass own = some m.cls) (pre : List ExceptionTableEntry) (x : ExceptionTableEntry) (suf : List ExceptionTableEntry) (hsplit : c.exceptionTable.toList = pre ++ x :: suf)
    (hpass : ∀ z ∈ pre, covers z pc = false ∨ (z.catchType ≠ 0 ∧ ∃ nm : String, (Cond.classLink own z.catchType nm).before args s = true ∧ va_Nc E nm s)) (hx : covers x pc = true) (h0 : x.catchType ≠ 0)
    (hlink : (Cond.classLink own x.catchType name).before args s = true) (hcast : (Cond.castable E name).before args s = true) (hcell : H[q]? = some ce) (hv : ce.vm = .none) (hcl : s.vm.findClass E = some ce.cls)
    (kk : W p l e R s m args below meth c H locs cells slots Q (F0 m x.handlerPc ls [.ref q])) : vx_W p l e R s m args below meth c H locs cells slots Q (F0 m pc ls rest) q := by
  intro T hT X
  have hpl : e.platform.magicAccessors = ({} : Platform).magicAccessors := by rw [X.admits.platform]
  obtain ⟨c3, c4, hc3, hc4, hasg⟩ := Cond.castable_spec hcast
  cases Option.some.inj (hc3.symm.trans hcl)
  obtain ⟨c5, hc5, hcl5⟩ := Cond.classLink_spec hown hlink e.platform hpl
  cases Option.some.inj (hc4.symm.trans hc5)
  obtain ⟨vm', X', st⟩ := X.thenCaughtThrough q (g := F0 m pc ls rest) rfl (Steps.refl _) (by rw [hT]; exact hcell) (by rw [hv]; rfl) (by obtain ⟨k9, h9, -⟩ := Vm.findClass_spec hcl; exact ⟨k9, h9⟩) pre x suf hsplit
    (fun z hz => by
      rcases hpass z hz with h | ⟨hz0, nm, hl1, hn1⟩
      · exact Or.inl h
      · obtain ⟨c6, hc6, hcl6⟩ := Cond.classLink_spec hown hl1 e.platform hpl
        obtain ⟨a8, b8, h1, h2, h3⟩ := hn1
        cases Option.some.inj (h1.symm.trans hcl)
        cases Option.some.inj (h2.symm.trans hc6)
        exact Or.inr ⟨hz0, _, hcl6, h3⟩) hx (Or.inr ⟨h0, c4, hcl5, hasg⟩)
  obtain ⟨t, a1, b1⟩ := kk (T.setVm vm') hT X'
  exact ⟨t, st.trans a1, b1⟩
end Rows
section Ends
variable {p : Program} {l : Launch} {e : Env} {R : Room} {s : State} {m : MethodId} {args : Array Value} {below : List Frame} {meth : Method} {c : Code} {H : Heap} {locs : List Loc} {cells slots : Nat} {Q : State → Prop}
variable {mc ms : Nat} {free : Addr → Prop} {A0 A1 : Nat → Prop} {H0 : Heap} {a : Array Value} {ls : Array Slot} {st0 rest : List Value}
variable {Qc : Array Value → State → Outcome → State → Prop} {XC : String → State → State → Prop}
/-- what a body that may throw owes at its end -/
def vx_MQ (below : List Frame) (Qc : Array Value → State → Outcome → State → Prop) (XC : String → State → State → Prop) (a : Array Value) (s : State) (mc ms : Nat) (free : Addr → Prop) : State → Prop := fun t =>
  ∃ o, t.status = .running ∧ Ended t below o ∧ vx_Q Qc XC mc ms free a s o t
theorem vx_ret {g : JFrame} {mc ms : Nat} (k : W p l e R s m args below meth c H locs cells slots (MQ below Qc args s mc ms free) g) : W p l e R s m args below meth c H locs cells slots (vx_MQ below Qc XC args s mc ms free) g := by
  intro T hT X
  obtain ⟨t, a1, o, b1, b2, b3, b4⟩ := k T hT X
  exact ⟨t, a1, o, b1, b2, Or.inl ⟨b3, b4⟩⟩
/-- not caught here: it goes on to the caller -/
theorem vx_widen {g : JFrame} {q : Addr} {k n : Nat} (h1 : cells ≤ k) (h2 : slots ≤ n) (kk : vx_W p l e R s m args below meth c H locs k n Q g q) : vx_W p l e R s m args below meth c H locs cells slots Q g q := fun T hT X => kk T hT (stand_widen X h1 h2)
theorem vx_out {pc : Nat} {E : String} {ce : Cell} {q : Addr} {mc ms : Nat} (hout : ∀ x ∈ c.exceptionTable.toList, covers x pc = false) (hlocks : meth.locks = false) (hcell : H[q]? = some ce) (hv : ce.vm = .none) (hcl : s.vm.findClass E = some ce.cls)
    (hx : ∀ t : State, t.heap = H → s.vm.Alike t.vm → XC E s t) (hf : ∀ z ∈ locs, free z.base) (hc : cells ≤ mc) (hs : slots ≤ ms) :
    vx_W p l e R s m args below meth c H locs cells slots (vx_MQ below Qc XC args s mc ms free) (F0 m pc ls rest) q := by
  intro T hT X
  obtain ⟨st1, hrun, hend, hW, hsm⟩ := X.leaveThrown q (g := F0 m pc ls rest) rfl rfl rfl hout hlocks
  have hcell9 : (T.setFrames (.throwing q :: below)).heap[q]? = some ce := by
    show T.heap[q]? = some ce
    rw [hT]; exact hcell
  exact ⟨_, st1, .threw q, hrun, hend, Or.inr ⟨q, rfl, E, ce, locs, hx _ hT hW.alike, hcell9, hv, hcl, hW, hsm.mono hc hs, hf⟩⟩
theorem vx_frame {U : State} {k n : Nat} (h : s.sameButNew ({ U with vm := s.vm } : State) locs k n) : s.heap.size ≤ U.heap.size ∧ ∀ q : Nat, q < s.heap.size → (∀ z ∈ locs, z.base ≠ q) → U.heap[q]? = s.heap[q]? := by
  obtain ⟨-, h2, -, -, -, h6⟩ := h
  refine ⟨h2, fun q hq hz => ?_⟩
  obtain ⟨c9, e1, e2, e3, e4⟩ := h6 q _ (Array.getElem?_eq_getElem hq)
  have hs : c9.slots = (s.heap[q]).slots := Array.ext_getElem? fun i => e4 i fun hm => hz _ hm rfl
  have h9 : c9 = s.heap[q] := by
    rw [hs] at e2
    exact e2
  have e5 : U.heap[q]? = some c9 := e1
  rw [e5, h9, Array.getElem?_eq_getElem hq]
/-- the words of a throw but the four that speak of the heap -/
def vx_no (w : Cond) : Bool := decide (w ≠ .isRef (.static Bundle.tN "UNASSIGNED_STACK" Bundle.steD)) && decide (w ≠ .isRef (.static Bundle.tN "SUPPRESSED_SENTINEL" Bundle.listD)) && decide (w ≠ .laysStatic Bundle.tN "UNASSIGNED_STACK" Bundle.steD) && decide (w ≠ .laysStatic Bundle.tN "SUPPRESSED_SENTINEL" Bundle.listD)
def vx_at0 (own : String) (ic : Nat) (X : String) (names : List String) : List Cond := (Bundle.ownAtoms0 own ic X names).filter vx_no
def vx_atS (own : String) (ic : Nat) (X : String) (names : List String) : List Cond := (Bundle.ownAtoms own ic X names).filter vx_no
/-- a word that the tables alone decide, or a good one -/
def vx_ot (w : Cond) : Bool := w.onTables || goodWord w
theorem vx_ot_at {args a' : Array Value} {s U : State} {w : Cond} (hW : s.WarmedH U.vm) (hvm : s.vm = U.vm) (hg : vx_ot w = true) (h : w.before args s = true) : w.before a' U = true := by
  simp only [vx_ot, Bool.or_eq_true] at hg
  rcases hg with hg | hg
  · exact va_tabs hg hvm h
  · exact word_at hW (good_of_word hg) h
/-- a list's words: the good ones out of the method's own list, the others by premises of their own -/
theorem vx_hat {args : Array Value} {s : State} {L B : List Cond} (h1 : ∀ w ∈ L.filter goodWord, w.before args s = true) (h2 : ∀ w ∈ L.filter (fun w => !goodWord w), w ∈ B) (h3 : ∀ w ∈ B, w.before args s = true) : ∀ w ∈ L, w.before args s = true := by
  intro w hw
  by_cases g : goodWord w = true
  · exact h1 w (List.mem_filter.mpr ⟨hw, g⟩)
  · refine h3 w (h2 w (List.mem_filter.mpr ⟨hw, ?_⟩))
    show (!goodWord w) = true
    cases hgw : goodWord w
    · rfl
    · exact absurd hgw g
theorem vx_c {args : Array Value} {s : State} {w : Cond} {B : List Cond} (h : w.before args s = true) (t : ∀ w ∈ B, w.before args s = true) : ∀ w' ∈ w :: B, w'.before args s = true := fun w' h' => (List.mem_cons.mp h').elim (fun e => by rw [e]; exact h) (t w')
theorem vx_n {args : Array Value} {s : State} : ∀ w ∈ ([] : List Cond), w.before args s = true := fun _ h => nomatch h
theorem vx_own {args : Array Value} {s : State} {L : List Cond} (h1 : ∀ w ∈ L.filter vx_no, w.before args s = true)
    (hU : (Cond.isRef (.static Bundle.tN "UNASSIGNED_STACK" Bundle.steD)).before args s = true) (hN : (Cond.isRef (.static Bundle.tN "SUPPRESSED_SENTINEL" Bundle.listD)).before args s = true)
    (lU : (Cond.laysStatic Bundle.tN "UNASSIGNED_STACK" Bundle.steD).before args s = true) (lN : (Cond.laysStatic Bundle.tN "SUPPRESSED_SENTINEL" Bundle.listD).before args s = true) : ∀ w ∈ L, w.before args s = true := by
  intro w hw
  by_cases e1 : w = .isRef (.static Bundle.tN "UNASSIGNED_STACK" Bundle.steD)
  · rw [e1]; exact hU
  · by_cases e2 : w = .isRef (.static Bundle.tN "SUPPRESSED_SENTINEL" Bundle.listD)
    · rw [e2]; exact hN
    · by_cases e3 : w = .laysStatic Bundle.tN "UNASSIGNED_STACK" Bundle.steD
      · rw [e3]; exact lU
      · by_cases e4 : w = .laysStatic Bundle.tN "SUPPRESSED_SENTINEL" Bundle.listD
        · rw [e4]; exact lN
        · exact h1 w (List.mem_filter.mpr ⟨hw, by unfold vx_no; rw [decide_eq_true e1, decide_eq_true e2, decide_eq_true e3, decide_eq_true e4]; rfl⟩)
/-- where a static field lies, its class's statics cell in H -/
def vx_L (C n d : String) (A : Nat → Prop) (U : State) (H : Heap) : Prop := ∃ (c : ClassId) (k : Class) (i : Nat) (f : Field) (a : Nat) (cell : Cell), U.vm.findClass C = some c ∧ U.fieldFound? C n d = some (c, k, i, f) ∧ f.isStatic = true ∧ k.statics = some a ∧ H[a]? = some cell ∧ cell.vm.isStatics = true ∧ cell.cls = c ∧ f.slot < cell.slots.size ∧ k.staticTypes[f.slot]? = some f.type ∧ ¬ A a
theorem vx_L.moved {C n d : String} {A : Nat → Prop} {u U : State} {H : Heap} (hvm : u.vm.Alike U.vm) (h : vx_L C n d A u H) : vx_L C n d A U H := by
  obtain ⟨c, k, i, f, a, cell, h1, h2, h3, h4, h5, h6, h7, h8, h9, h10⟩ := h
  obtain ⟨k', hi', he⟩ := State.fieldFound?_setVm hvm h2
  exact ⟨c, k', i, f, a, cell, by rw [hvm.findClass]; exact h1, hi', h3, by rw [he]; exact h4, h5, h6, h7, h8, by rw [he]; exact h9, h10⟩
theorem vx_L.kept {C n d : String} {A : Nat → Prop} {U : State} {H H1 : Heap} (h : vx_L C n d A U H) (hq : ∀ a : Nat, a < H.size → ¬ A a → H1[a]? = H[a]?) : vx_L C n d A U H1 := by
  obtain ⟨c, k, i, f, a, cell, h1, h2, h3, h4, h5, h6, h7, h8, h9, h10⟩ := h
  exact ⟨c, k, i, f, a, cell, h1, h2, h3, h4, by rw [hq a (Array.getElem?_eq_some_iff.mp h5).1 h10]; exact h5, h6, h7, h8, h9, h10⟩
theorem vx_L.narrow {C n d : String} {A B : Nat → Prop} {U : State} {H : Heap} (h : vx_L C n d A U H) (hAB : ∀ q, B q → A q) : vx_L C n d B U H := by
  obtain ⟨c, k, i, f, a, cell, h1, h2, h3, h4, h5, h6, h7, h8, h9, h10⟩ := h
  exact ⟨c, k, i, f, a, cell, h1, h2, h3, h4, h5, h6, h7, h8, h9, fun z => h10 (hAB _ z)⟩
theorem vx_L.word {C n d : String} {A : Nat → Prop} {s : State} {args : Array Value} (h : vx_L C n d A s s.heap) : (Cond.laysStatic C n d).before args s = true := by
  obtain ⟨c, k, i, f, a, cell, h1, h2, h3, h4, h5, h6, h7, h8, h9, -⟩ := h
  show (Cond.laysStatic C n d).holds args s none s [] = true
  exact Cond.laysStatic_of h1 h2 h3 h4 h5 h6 h7 h8 h9
/-- .. and what it holds: null or some reference -/
def vx_Zq (C n d : String) (A : Nat → Prop) (U : State) (H : Heap) : Prop := va_Zq C n d A U H ∧ vx_L C n d A U H
theorem vx_Zq.moved {C n d : String} {A : Nat → Prop} {u U : State} {H : Heap} (hvm : u.vm.Alike U.vm) (h : vx_Zq C n d A u H) : vx_Zq C n d A U H := ⟨va_Zq.moved hvm h.1, vx_L.moved hvm h.2⟩
theorem vx_Zq.kept {C n d : String} {A : Nat → Prop} {U : State} {H H1 : Heap} (h : vx_Zq C n d A U H) (hq : ∀ a : Nat, a < H.size → ¬ A a → H1[a]? = H[a]?) : vx_Zq C n d A U H1 := ⟨va_Zq.kept h.1 hq, vx_L.kept h.2 hq⟩
theorem vx_Zq.narrow {C n d : String} {A B : Nat → Prop} {U : State} {H : Heap} (h : vx_Zq C n d A U H) (hAB : ∀ q, B q → A q) : vx_Zq C n d B U H := ⟨va_Zq.narrow h.1 hAB, vx_L.narrow h.2 hAB⟩
theorem vx_Zqof {args : Array Value} {s : State} {C n d : String} {A : Nat → Prop} (hl : (Cond.laysStatic C n d).before args s = true) (hini : (Cond.initialized C).before args s = true) (h : (Cond.isRef (.static C n d)).before args s = true) (hA : ∀ a : Nat, a < s.heap.size → ¬ A a) : vx_Zq C n d A s s.heap := by
  refine ⟨va_Zqof hl hini h hA, ?_⟩
  obtain ⟨c, k, i, f, a, cell, h1, h2, h3, h4, h5, h6, h7, h8, h9⟩ := Cond.laysStatic_spec hl
  exact ⟨c, k, i, f, a, cell, h1, h2, h3, h4, h5, h6, h7, h8, h9, hA a (Array.getElem?_eq_some_iff.mp h5).1⟩
theorem vx_isRef {C n d : String} {v : Value} {A : Nat → Prop} {s : State} {args : Array Value} (h : va_Z C n d v A s s.heap) (hv : v.isRef = true) : (Cond.isRef (.static C n d)).before args s = true := by
  obtain ⟨cf, kf, fi, f, a, cell, h1, h2, h3, h4, h5, h6, h7, -⟩ := h
  have he : (Term.static C n d).eval args s none [] s = some v := by
    simp [Term.eval, State.fieldNamed?, h1, h2, h4, h5, h6, h7]
  simp only [Cond.before, Cond.holds, Cond.value, he]
  cases v <;> simp_all [Value.isRef]
theorem vx_isRefq {C n d : String} {A : Nat → Prop} {s : State} {args : Array Value} (h : va_Zq C n d A s s.heap) : (Cond.isRef (.static C n d)).before args s = true := by
  rcases h with h | ⟨t, h⟩
  · exact vx_isRef h rfl
  · exact vx_isRef h rfl
/-- the same frame, seen from here: as if the method were called anew in this heap -/
theorem vx_rebase {T : State} (X : Stand p l e R s m args below meth c T locs cells slots) {R' : Room} (hf : R'.frames ≤ R.frames) (hl : R'.locals ≤ R.locals) (hc : cells + R'.cells ≤ R.cells) (hs : slots + R'.slots ≤ R.slots) :
    Stand p l e R' ((T.setVm s.vm).setFrames (.invoking m args :: below)) m args below meth c T [] 0 0 := by
  have htop : (T.setVm s.vm).topJava?.isSome := X.here.top
  have hF : ((T.setVm s.vm).setFrames (.invoking m args :: below)).frames = .invoking m args :: below := State.frames_setFrames _ (State.cur_lt_of_top htop)
  obtain ⟨g₀, hg0⟩ := Option.isSome_iff_exists.mp htop
  obtain ⟨r, hr⟩ := State.topJava?_eq_some.mp hg0
  have hl9 : e.platform.stackLimits (T.setVm s.vm).me = e.platform.stackLimits s.me := X.limits
  have hb9 : (T.setVm s.vm).me.stackBytes = s.me.stackBytes := X.bytes
  refine ⟨X.admits, X.cas, X.clock, hF, ?_, X.hears, X.method, X.code, X.here, X.tail, X.warmed, ?_, ?_, ?_⟩
  · have h := X.room
    have hU : ((T.setVm s.vm).setFrames (.invoking m args :: below)).localsInUse = s.localsInUse := by
      rw [State.localsInUse_invoking hF (meth := meth) (c := c) X.method X.code, State.localsInUse_invoking X.frames X.method X.code]
    simp only [State.hasRoom, Bool.and_eq_true, decide_eq_true_eq] at h ⊢
    obtain ⟨⟨⟨⟨h1, h2, h3, h4, h5, h6⟩, h7⟩, h8⟩, h9⟩ := h
    rw [X.frames, List.length_cons] at h2 h3
    have q1 := X.heapSize
    have q2 := X.used
    simp only [hF, hU, List.length_cons, State.stackLimits_setFrames, State.stackBytes_setFrames, hl9, hb9]
    refine ⟨⟨⟨⟨by omega, by omega, by omega, by omega, by omega, h6⟩, ?_⟩, ?_⟩, X.book⟩
    · show T.heap.size + R'.cells ≤ e.platform.maxCells
      omega
    · show T.slotsUsed + R'.slots ≤ e.platform.maxSlots
      omega
  · rw [State.stackLimits_setFrames]; rfl
  · rw [State.stackBytes_setFrames]; rfl
  · refine ⟨?_, Nat.le_refl _, Nat.le_refl _, ?_, ?_, fun a c9 h9 => ⟨c9, h9, rfl, rfl, fun _ _ => rfl⟩⟩
    · obtain ⟨t, ht, -⟩ := State.frames_cons hr
      show T.setVm s.vm = { ((T.setVm s.vm).setFrames (.invoking m args :: below)).setFrames (T.setVm s.vm).frames with heap := T.heap, slotsUsed := T.slotsUsed }
      rw [State.setFrames_setFrames, State.setFrames_self ht]
      rfl
    · show T.slotsUsed = T.slotsUsed + ((T.heap.toList.drop T.heap.size).map (·.slots.size)).sum
      rw [List.drop_eq_nil_of_le (Nat.le_of_eq Array.length_toList)]
      rfl
    · show ((T.heap.toList.drop T.heap.size).map (·.slots.size)).sum ≤ 0
      rw [List.drop_eq_nil_of_le (Nat.le_of_eq Array.length_toList)]
      exact Nat.le_refl _
/-- 'throw new E()': new; dup; invokespecial; athrow -/
theorem vx_throw0 {cc : ByteArray} {pc : Nat} (hexec : p.tables.exec = Jvm.exec) (hb : c.code = cc) (hl : l.stackTraces = false) {own cls : String} {names : List String} {ik ic mc ms : Nat} {A : Nat → Prop}
    (hown : s.vm.findClass own = some m.cls) (hcls : Bundle.fit cls = true) (hnames : ∀ n ∈ names, Bundle.fit n = true)
    (hk : (Cond.classLink own ik cls).before args s = true) (hini : (Cond.initialized cls).before args s = true) (hat : ∀ w ∈ vx_at0 own ic cls names, w.before args s = true)
    (hgood : ∀ w ∈ Cond.classLink own ik cls :: Cond.initialized cls :: vx_at0 own ic cls names, vx_ot w = true)
    (hU : vx_Zq Bundle.tN "UNASSIGNED_STACK" Bundle.steD A s s.heap) (hN : vx_Zq Bundle.tN "SUPPRESSED_SENTINEL" Bundle.listD A s s.heap) (hS : va_S A s.heap H locs) (hsize : ls.size = c.maxLocals)
    (d0 : decode cc pc = .ok (.new ik, 3)) (d3 : decode cc (pc + 3) = .ok (.dup, 1)) (d4 : decode cc (pc + 4) = .ok (.invokespecial ic, 3)) (d7 : decode cc (pc + 7) = .ok (.athrow, 1))
    (hout : ∀ x ∈ c.exceptionTable.toList, covers x (pc + 7) = false)
    (hRframes : names.length + 3 < R.frames) (hRlocals : (rest.map fun v => v.category).sum + (13 * (names.length + 1) + 42) ≤ R.locals) (hRcells : cells + 1 ≤ R.cells) (hRslots : slots + 6 ≤ R.slots) (hlocks : meth.locks = false)
    (hx : ∀ t : State, s.vm.Alike t.vm → H.size ≤ t.heap.size → (∀ q : Nat, q < H.size → t.heap[q]? = H[q]?) → XC cls s t)
    (hf : ∀ z ∈ locs, free z.base) (hc : cells + 1 ≤ mc) (hs : slots + 6 ≤ ms) :
    W p l e R s m args below meth c H locs cells slots (vx_MQ below Qc XC args s mc ms free) (F0 m pc ls rest) := by
  intro T hT X
  have htr : e.platform.stackTraces = false := (show e.platform.stackTraces = l.stackTraces by rw [X.admits.platform]).trans hl
  have Y := vx_rebase X (R' := { frames := R.frames, locals := R.locals, cells := 1, slots := 6 }) (Nat.le_refl _) (Nat.le_refl _) hRcells hRslots
  obtain ⟨s', hA⟩ : ∃ z, z = (T.setVm s.vm).setFrames (.invoking m args :: below) := ⟨_, rfl⟩
  rw [← hA] at Y
  have hvm : s'.vm = s.vm := by rw [hA]; rfl
  have hhp : s'.heap = H := by rw [hA]; exact hT
  have hW0 : s.WarmedH s'.vm := by rw [hvm]; exact State.WarmedH.refl s
  have hat' : ∀ w ∈ vx_at0 own ic cls names, w.before args s' = true := fun w hw => vx_ot_at hW0 hvm.symm (hgood w (List.mem_cons_of_mem _ (List.mem_cons_of_mem _ hw))) (hat w hw)
  have hk' : (Cond.classLink own ik cls).before args s' = true := vx_ot_at hW0 hvm.symm (hgood _ List.mem_cons_self) hk
  have hini' : (Cond.initialized cls).before args s' = true := vx_ot_at hW0 hvm.symm (hgood _ (List.mem_cons_of_mem _ List.mem_cons_self)) hini
  have hU' : vx_Zq Bundle.tN "UNASSIGNED_STACK" Bundle.steD A s' s'.heap := by rw [hhp]; exact vx_Zq.moved hW0.alike (hU.kept hS.2.1)
  have hN' : vx_Zq Bundle.tN "SUPPRESSED_SENTINEL" Bundle.listD A s' s'.heap := by rw [hhp]; exact vx_Zq.moved hW0.alike (hN.kept hS.2.1)
  have h : ∀ w ∈ Bundle.ownAtoms0 own ic cls names, w.before args s' = true := vx_own hat' (vx_isRefq hU'.1) (vx_isRefq hN'.1) hU'.2.word hN'.2.word
  have hown' : s'.vm.findClass own = some m.cls := by rw [hvm]; exact hown
  have hins : (Cond.instantiable cls 6).before args s' = true := h _ (by simp [Bundle.ownAtoms0])
  obtain ⟨vm₁, cX, kX, hfX, hkX, -, -, X₁, st1⟩ := Y.newCold hexec (own := own) (C := cls) (index := ik) (n := 6) hown' hk' hins hini'
    (g := F0 m pc ls rest) rfl (by rw [hb]; exact d0) (Nat.le_refl _) (Nat.le_refl _)
  generalize hT1 : (T.setVm vm₁).pushCell { cls := cX, slots := kX.instanceTypes.map defaultValue, vm := .none } = T1 at X₁ st1
  have hcat : (Value.ref T.heap.size).category = 1 := rfl
  have hcellA : T1.heap[T.heap.size]? = some (freshCell cX kX) := by rw [← hT1]; exact State.heap_pushCell_size _ _
  have d3' : decode c.code (pc + 3) = .ok (.dup, 1) := by rw [hb]; exact d3
  obtain ⟨U, hsteps, hrun, hend, hW, hsame, ce, hce, hO⟩ := X₁.ctorThrow0 hexec htr (own := own) (cls := cls) (names := names) (ic := ic) hown' hcls hnames h (fun x hx => nomatch hx) hfX hkX hcellA (by rw [hhp, hT]; exact Nat.le_refl _)
    (g := { method := m, pc := pc + 4, locals := ls, stack := .ref T.heap.size :: .ref T.heap.size :: rest, locked := none }) rfl hsize rfl rfl (rest := rest) rfl
    (by rw [hb]; exact d4) (by rw [hb]; exact d7) hout hRframes (by simp only [List.map_cons, List.sum_cons, hcat]; omega) hlocks
  obtain ⟨f1, f2⟩ := vx_frame hsame
  rw [hhp] at f1 f2
  have hWs : s.WarmedH U.vm := State.WarmedH.trans hW0 hW
  have hcl : s.vm.findClass cls = some ce.cls := by
    have h9 := hO.cls
    rw [hvm] at h9
    exact h9
  have hall : s.sameButNew ({ U with vm := s.vm } : State) locs mc ms := by
    subst hA
    obtain ⟨e1, e2⟩ := hsame
    rw [State.setFrames_setFrames] at e1
    have h2 : (T.setVm s.vm).sameButNew ({ U with vm := s.vm } : State) [] (0 + 1) (0 + 6) := ⟨e1, e2⟩
    have h3 := X.same.trans h2
    rw [List.append_nil] at h3
    exact h3.mono hc hs
  refine ⟨U, ?_, .threw T.heap.size, hrun, hend, Or.inr ⟨T.heap.size, rfl, cls, ce, locs, hx U hWs.alike f1 (fun q hq => f2 q hq (fun z hz => nomatch hz)), hce, hO.vm, hcl, hWs, hall, hf⟩⟩
  refine st1 _ ?_
  show Steps p.tables e below (T1.setTop { method := m, pc := pc + 3, locals := ls, stack := .ref T.heap.size :: rest, locked := none }) _
  jvm_step X₁.here [X₁.here.top, hexec, d3', Value.category]
  exact hsteps
/-- 'throw new E("text")': new; dup; ldc; invokespecial; athrow -/
theorem vx_throwS {cc : ByteArray} {pc : Nat} (hexec : p.tables.exec = Jvm.exec) (hb : c.code = cc) (hl : l.stackTraces = false) {own cls text : String} {names : List String} {ik is ic mc ms sa : Nat} {A : Nat → Prop}
    (hown : s.vm.findClass own = some m.cls) (hcls : Bundle.fit cls = true) (hnames : ∀ n ∈ names, Bundle.fit n = true)
    (hk : (Cond.classLink own ik cls).before args s = true) (hini : (Cond.initialized cls).before args s = true) (hstr : vk_R own is text sa s) (hat : ∀ w ∈ vx_atS own ic cls names, w.before args s = true)
    (hgood : ∀ w ∈ Cond.classLink own ik cls :: Cond.initialized cls :: vx_atS own ic cls names, vx_ot w = true)
    (hU : vx_Zq Bundle.tN "UNASSIGNED_STACK" Bundle.steD A s s.heap) (hN : vx_Zq Bundle.tN "SUPPRESSED_SENTINEL" Bundle.listD A s s.heap) (hS : va_S A s.heap H locs) (hsize : ls.size = c.maxLocals)
    (d0 : decode cc pc = .ok (.new ik, 3)) (d3 : decode cc (pc + 3) = .ok (.dup, 1)) (d4 : decode cc (pc + 4) = .ok (.ldc is, 2)) (d6 : decode cc (pc + 6) = .ok (.invokespecial ic, 3)) (d9 : decode cc (pc + 9) = .ok (.athrow, 1))
    (hout : ∀ x ∈ c.exceptionTable.toList, covers x (pc + 9) = false)
    (hRframes : names.length + 3 < R.frames) (hRlocals : (rest.map fun v => v.category).sum + (13 * (names.length + 1) + 43) ≤ R.locals) (hRcells : cells + 1 ≤ R.cells) (hRslots : slots + 6 ≤ R.slots) (hlocks : meth.locks = false)
    (hx : ∀ t : State, s.vm.Alike t.vm → H.size ≤ t.heap.size → (∀ q : Nat, q < H.size → t.heap[q]? = H[q]?) → XC cls s t)
    (hf : ∀ z ∈ locs, free z.base) (hc : cells + 1 ≤ mc) (hs : slots + 6 ≤ ms) :
    W p l e R s m args below meth c H locs cells slots (vx_MQ below Qc XC args s mc ms free) (F0 m pc ls rest) := by
  intro T hT X
  have htr : e.platform.stackTraces = false := (show e.platform.stackTraces = l.stackTraces by rw [X.admits.platform]).trans hl
  have Y := vx_rebase X (R' := { frames := R.frames, locals := R.locals, cells := 1, slots := 6 }) (Nat.le_refl _) (Nat.le_refl _) hRcells hRslots
  obtain ⟨s', hA⟩ : ∃ z, z = (T.setVm s.vm).setFrames (.invoking m args :: below) := ⟨_, rfl⟩
  rw [← hA] at Y
  have hvm : s'.vm = s.vm := by rw [hA]; rfl
  have hhp : s'.heap = H := by rw [hA]; exact hT
  have hW0 : s.WarmedH s'.vm := by rw [hvm]; exact State.WarmedH.refl s
  have hat' : ∀ w ∈ vx_atS own ic cls names, w.before args s' = true := fun w hw => vx_ot_at hW0 hvm.symm (hgood w (List.mem_cons_of_mem _ (List.mem_cons_of_mem _ hw))) (hat w hw)
  have hk' : (Cond.classLink own ik cls).before args s' = true := vx_ot_at hW0 hvm.symm (hgood _ List.mem_cons_self) hk
  have hini' : (Cond.initialized cls).before args s' = true := vx_ot_at hW0 hvm.symm (hgood _ (List.mem_cons_of_mem _ List.mem_cons_self)) hini
  have hU' : vx_Zq Bundle.tN "UNASSIGNED_STACK" Bundle.steD A s' s'.heap := by rw [hhp]; exact vx_Zq.moved hW0.alike (hU.kept hS.2.1)
  have hN' : vx_Zq Bundle.tN "SUPPRESSED_SENTINEL" Bundle.listD A s' s'.heap := by rw [hhp]; exact vx_Zq.moved hW0.alike (hN.kept hS.2.1)
  have h : ∀ w ∈ Bundle.ownAtoms own ic cls names, w.before args s' = true := vx_own hat' (vx_isRefq hU'.1) (vx_isRefq hN'.1) hU'.2.word hN'.2.word
  have hown' : s'.vm.findClass own = some m.cls := by rw [hvm]; exact hown
  have hins : (Cond.instantiable cls 6).before args s' = true := h _ (by simp [Bundle.ownAtoms])
  obtain ⟨vm₁, cX, kX, hfX, hkX, -, -, X₁, st1⟩ := Y.newCold hexec (own := own) (C := cls) (index := ik) (n := 6) hown' hk' hins hini'
    (g := F0 m pc ls rest) rfl (by rw [hb]; exact d0) (Nat.le_refl _) (Nat.le_refl _)
  generalize hT1 : (T.setVm vm₁).pushCell { cls := cX, slots := kX.instanceTypes.map defaultValue, vm := .none } = T1 at X₁ st1
  have hcat : (Value.ref T.heap.size).category = 1 := rfl
  have hcellA : T1.heap[T.heap.size]? = some (freshCell cX kX) := by rw [← hT1]; exact State.heap_pushCell_size _ _
  have d3' : decode c.code (pc + 3) = .ok (.dup, 1) := by rw [hb]; exact d3
  have d4' : decode c.code (pc + 4) = .ok (.ldc is, 2) := by rw [hb]; exact d4
  have hstr' : vk_R own is text sa s' := vk_R.warm hW0 hstr
  obtain ⟨U, hsteps, hrun, hend, hW, hsame, ce, hce, hO⟩ := X₁.ctorThrowS hexec htr (own := own) (cls := cls) (names := names) (ic := ic) hown' hcls hnames h (fun x hx => nomatch hx) hfX hkX hcellA (by rw [hhp, hT]; exact Nat.le_refl _) (msg := .ref sa) rfl
    (g := { method := m, pc := pc + 6, locals := ls, stack := .ref sa :: .ref T.heap.size :: .ref T.heap.size :: rest, locked := none }) rfl hsize rfl rfl (rest := rest) rfl
    (by rw [hb]; exact d6) (by rw [hb]; exact d9) hout hRframes (by simp only [List.map_cons, List.sum_cons, hcat]; omega) hlocks
  obtain ⟨f1, f2⟩ := vx_frame hsame
  rw [hhp] at f1 f2
  have hWs : s.WarmedH U.vm := State.WarmedH.trans hW0 hW
  have hcl : s.vm.findClass cls = some ce.cls := by
    have h9 := hO.cls
    rw [hvm] at h9
    exact h9
  have hall : s.sameButNew ({ U with vm := s.vm } : State) locs mc ms := by
    subst hA
    obtain ⟨e1, e2⟩ := hsame
    rw [State.setFrames_setFrames] at e1
    have h2 : (T.setVm s.vm).sameButNew ({ U with vm := s.vm } : State) [] (0 + 1) (0 + 6) := ⟨e1, e2⟩
    have h3 := X.same.trans h2
    rw [List.append_nil] at h3
    exact h3.mono hc hs
  refine ⟨U, ?_, .threw T.heap.size, hrun, hend, Or.inr ⟨T.heap.size, rfl, cls, ce, locs, hx U hWs.alike f1 (fun q hq => f2 q hq (fun z hz => nomatch hz)), hce, hO.vm, hcl, hWs, hall, hf⟩⟩
  refine st1 _ ?_
  show Steps p.tables e below (T1.setTop { method := m, pc := pc + 3, locals := ls, stack := .ref T.heap.size :: rest, locked := none }) _
  jvm_step X₁.here [X₁.here.top, hexec, d3', Value.category]
  exact X₁.ldcString hexec (own := own) (text := text) (index := is) (a := sa) hown' hstr'.1 hstr'.2
    (g := { method := m, pc := pc + 4, locals := ls, stack := .ref T.heap.size :: .ref T.heap.size :: rest, locked := none }) rfl d4' _ hsteps
/-- 'throw new E("text")', the text by a wide index -/
theorem vx_throwSW {cc : ByteArray} {pc : Nat} (hexec : p.tables.exec = Jvm.exec) (hb : c.code = cc) (hl : l.stackTraces = false) {own cls text : String} {names : List String} {ik is ic mc ms sa : Nat} {A : Nat → Prop}
    (hown : s.vm.findClass own = some m.cls) (hcls : Bundle.fit cls = true) (hnames : ∀ n ∈ names, Bundle.fit n = true)
    (hk : (Cond.classLink own ik cls).before args s = true) (hini : (Cond.initialized cls).before args s = true) (hstr : vk_R own is text sa s) (hat : ∀ w ∈ vx_atS own ic cls names, w.before args s = true)
    (hgood : ∀ w ∈ Cond.classLink own ik cls :: Cond.initialized cls :: vx_atS own ic cls names, vx_ot w = true)
    (hU : vx_Zq Bundle.tN "UNASSIGNED_STACK" Bundle.steD A s s.heap) (hN : vx_Zq Bundle.tN "SUPPRESSED_SENTINEL" Bundle.listD A s s.heap) (hS : va_S A s.heap H locs) (hsize : ls.size = c.maxLocals)
    (d0 : decode cc pc = .ok (.new ik, 3)) (d3 : decode cc (pc + 3) = .ok (.dup, 1)) (d4 : decode cc (pc + 4) = .ok (.ldc_w is, 3)) (d7 : decode cc (pc + 7) = .ok (.invokespecial ic, 3)) (d10 : decode cc (pc + 10) = .ok (.athrow, 1))
    (hout : ∀ x ∈ c.exceptionTable.toList, covers x (pc + 10) = false)
    (hRframes : names.length + 3 < R.frames) (hRlocals : (rest.map fun v => v.category).sum + (13 * (names.length + 1) + 43) ≤ R.locals) (hRcells : cells + 1 ≤ R.cells) (hRslots : slots + 6 ≤ R.slots) (hlocks : meth.locks = false)
    (hx : ∀ t : State, s.vm.Alike t.vm → H.size ≤ t.heap.size → (∀ q : Nat, q < H.size → t.heap[q]? = H[q]?) → XC cls s t)
    (hf : ∀ z ∈ locs, free z.base) (hc : cells + 1 ≤ mc) (hs : slots + 6 ≤ ms) :
    W p l e R s m args below meth c H locs cells slots (vx_MQ below Qc XC args s mc ms free) (F0 m pc ls rest) := by
  intro T hT X
  have htr : e.platform.stackTraces = false := (show e.platform.stackTraces = l.stackTraces by rw [X.admits.platform]).trans hl
  have Y := vx_rebase X (R' := { frames := R.frames, locals := R.locals, cells := 1, slots := 6 }) (Nat.le_refl _) (Nat.le_refl _) hRcells hRslots
  obtain ⟨s', hA⟩ : ∃ z, z = (T.setVm s.vm).setFrames (.invoking m args :: below) := ⟨_, rfl⟩
  rw [← hA] at Y
  have hvm : s'.vm = s.vm := by rw [hA]; rfl
  have hhp : s'.heap = H := by rw [hA]; exact hT
  have hW0 : s.WarmedH s'.vm := by rw [hvm]; exact State.WarmedH.refl s
  have hat' : ∀ w ∈ vx_atS own ic cls names, w.before args s' = true := fun w hw => vx_ot_at hW0 hvm.symm (hgood w (List.mem_cons_of_mem _ (List.mem_cons_of_mem _ hw))) (hat w hw)
  have hk' : (Cond.classLink own ik cls).before args s' = true := vx_ot_at hW0 hvm.symm (hgood _ List.mem_cons_self) hk
  have hini' : (Cond.initialized cls).before args s' = true := vx_ot_at hW0 hvm.symm (hgood _ (List.mem_cons_of_mem _ List.mem_cons_self)) hini
  have hU' : vx_Zq Bundle.tN "UNASSIGNED_STACK" Bundle.steD A s' s'.heap := by rw [hhp]; exact vx_Zq.moved hW0.alike (hU.kept hS.2.1)
  have hN' : vx_Zq Bundle.tN "SUPPRESSED_SENTINEL" Bundle.listD A s' s'.heap := by rw [hhp]; exact vx_Zq.moved hW0.alike (hN.kept hS.2.1)
  have h : ∀ w ∈ Bundle.ownAtoms own ic cls names, w.before args s' = true := vx_own hat' (vx_isRefq hU'.1) (vx_isRefq hN'.1) hU'.2.word hN'.2.word
  have hown' : s'.vm.findClass own = some m.cls := by rw [hvm]; exact hown
  have hins : (Cond.instantiable cls 6).before args s' = true := h _ (by simp [Bundle.ownAtoms])
  obtain ⟨vm₁, cX, kX, hfX, hkX, -, -, X₁, st1⟩ := Y.newCold hexec (own := own) (C := cls) (index := ik) (n := 6) hown' hk' hins hini'
    (g := F0 m pc ls rest) rfl (by rw [hb]; exact d0) (Nat.le_refl _) (Nat.le_refl _)
  generalize hT1 : (T.setVm vm₁).pushCell { cls := cX, slots := kX.instanceTypes.map defaultValue, vm := .none } = T1 at X₁ st1
  have hcat : (Value.ref T.heap.size).category = 1 := rfl
  have hcellA : T1.heap[T.heap.size]? = some (freshCell cX kX) := by rw [← hT1]; exact State.heap_pushCell_size _ _
  have d3' : decode c.code (pc + 3) = .ok (.dup, 1) := by rw [hb]; exact d3
  have d4' : decode c.code (pc + 4) = .ok (.ldc_w is, 3) := by rw [hb]; exact d4
  have hstr' : vk_R own is text sa s' := vk_R.warm hW0 hstr
  obtain ⟨U, hsteps, hrun, hend, hW, hsame, ce, hce, hO⟩ := X₁.ctorThrowS hexec htr (own := own) (cls := cls) (names := names) (ic := ic) hown' hcls hnames h (fun x hx => nomatch hx) hfX hkX hcellA (by rw [hhp, hT]; exact Nat.le_refl _) (msg := .ref sa) rfl
    (g := { method := m, pc := pc + 7, locals := ls, stack := .ref sa :: .ref T.heap.size :: .ref T.heap.size :: rest, locked := none }) rfl hsize rfl rfl (rest := rest) rfl
    (by rw [hb]; exact d7) (by rw [hb]; exact d10) hout hRframes (by simp only [List.map_cons, List.sum_cons, hcat]; omega) hlocks
  obtain ⟨f1, f2⟩ := vx_frame hsame
  rw [hhp] at f1 f2
  have hWs : s.WarmedH U.vm := State.WarmedH.trans hW0 hW
  have hcl : s.vm.findClass cls = some ce.cls := by
    have h9 := hO.cls
    rw [hvm] at h9
    exact h9
  have hall : s.sameButNew ({ U with vm := s.vm } : State) locs mc ms := by
    subst hA
    obtain ⟨e1, e2⟩ := hsame
    rw [State.setFrames_setFrames] at e1
    have h2 : (T.setVm s.vm).sameButNew ({ U with vm := s.vm } : State) [] (0 + 1) (0 + 6) := ⟨e1, e2⟩
    have h3 := X.same.trans h2
    rw [List.append_nil] at h3
    exact h3.mono hc hs
  refine ⟨U, ?_, .threw T.heap.size, hrun, hend, Or.inr ⟨T.heap.size, rfl, cls, ce, locs, hx U hWs.alike f1 (fun q hq => f2 q hq (fun z hz => nomatch hz)), hce, hO.vm, hcl, hWs, hall, hf⟩⟩
  refine st1 _ ?_
  show Steps p.tables e below (T1.setTop { method := m, pc := pc + 3, locals := ls, stack := .ref T.heap.size :: rest, locked := none }) _
  jvm_step X₁.here [X₁.here.top, hexec, d3', Value.category]
  exact X₁.ldcStringW hexec (own := own) (text := text) (index := is) (a := sa) hown' hstr'.1 hstr'.2
    (g := { method := m, pc := pc + 4, locals := ls, stack := .ref T.heap.size :: .ref T.heap.size :: rest, locked := none }) rfl d4' _ hsteps
end Ends
section Bodies
variable {l : Launch}
theorem vx_ofW {y : MethodName} {ws ws' : List Cond} {rm : Room} {Pc : Array Value → State → Prop} {Qc : Array Value → State → Outcome → State → Prop} {XC : String → State → State → Prop} {mc ms : Nat} {free : Addr → Prop} {cc : ByteArray} {maxL : Nat} {ret : Option FieldType}
    (hy : plainName y.cls = true) (hw : ws = Cond.code y cc maxL ret :: ws')
    (body : ∀ p e s m args below meth c s₁, BodyLoose p l y (headSpec ws rm) cc maxL ret e s m args below meth c s₁ → c.maxLocals = maxL → (∀ x ∈ c.exceptionTable.toList, False) → Pc args s →
      W p l e (headSpec ws rm).room s m args below meth c s.heap [] 0 0 (vx_MQ below Qc XC args s mc ms free) (entryFrame m args maxL)) : vx_Met l y ws rm Pc Qc XC mc ms free := by
  refine MetFree.of_bodyS (code := cc) (maxLocals := maxL) (ret := ret) hy ?_ ?_
  · intro args s m h hn
    obtain ⟨meth, c, h1, h2, h3, h4, h5, h6, -, -⟩ := Cond.code_spec hn (atoms_spec (ws := ws) h _ (by rw [hw]; exact List.mem_cons_self))
    exact ⟨meth, c, h1, h2, h3, h4, h5, h6⟩
  · intro p e s m args below meth c s₁ B hml hP _
    have hh0 : s₁.heap = s.heap := by rw [B.state]; rfl
    have ht : ∀ x ∈ c.exceptionTable.toList, False := by
      obtain ⟨meth9, c9, h1, h2, -, -, -, -, h7, -⟩ := Cond.code_spec B.named (atoms_spec (ws := ws) B.pre _ (by rw [hw]; exact List.mem_cons_self))
      cases Option.some.inj (h1.symm.trans B.method)
      cases Option.some.inj (h2.symm.trans (Stand.of_body B).code)
      intro x hx
      rw [Array.isEmpty_iff.mp h7] at hx
      cases hx
    obtain ⟨t, a1, o, b1, b2, b3⟩ := body p e s m args below meth c s₁ B hml ht hP s₁ hh0 (Stand.of_body B)
    exact ⟨t, o, a1, b1, b2, b3⟩
/-- the table of a body with handlers -/
theorem vx_table {p : Program} {x y : MethodName} {S : Spec} {cc bytes : ByteArray} {maxL maxL' : Nat} {ret ret' : Option FieldType} {e : Env} {s s₁ : State} {m : MethodId} {args : Array Value} {below : List Frame} {meth : Method} {c : Code} {hh : List (Nat × Nat × Nat × Nat)}
    (B : BodyLoose p l y S cc maxL ret e s m args below meth c s₁) (h : (Cond.codeWith y bytes maxL' ret' hh).before args s = true) : c.exceptionTable.toList = tableOf hh := by
  obtain ⟨m9, meth9, c9, hn9, h1, h2, -, -, h6, -⟩ := Cond.codeWith_spec h
  cases Option.some.inj (hn9.symm.trans B.named)
  cases Option.some.inj (h1.symm.trans B.method)
  cases Option.some.inj (h2.symm.trans (Stand.of_body B).code)
  rw [← h6, table_eq]
end Bodies
end VXA
/-! ===== END ===== -/
/-! ===== BEGIN a static call of a method with an exception table ===== -/
section VXS
variable {p : Program} {l : Launch} {e : Env} {R : Room} {s : State} {m : MethodId} {args : Array Value} {below : List Frame} {meth : Method} {c : Code} {T : State} {H : Heap} {locs : List Loc} {cells slots : Nat}
abbrev vx_CSW (R : Room) (s : State) (args : Array Value) (own : String) (index : Nat) (y : MethodName) (bytes : ByteArray) (maxL : Nat) (ret : Option FieldType) (hh : List (Nat × Nat × Nat × Nat)) (ws : List Cond) (rm : Room) (mc ms n : Nat) : Prop :=
  (rm.cells = mc ∧ rm.slots = ms ∧ rm.frames + 1 ≤ R.frames ∧ 8 + (maxL + 11) + rm.locals ≤ R.locals ∧ (∀ w ∈ ws, ∀ (a' : Array Value) (U : State), s.WarmedH U.vm → w.before a' U = true) ∧ Cond.codeWith y bytes maxL ret hh ∈ ws) ∧
  (Cond.codeWith y bytes maxL ret hh).before args s = true ∧ (Cond.initialized y.cls).before args s = true ∧ (y.cls ≠ "java/lang/invoke/MethodHandle" ∧ y.cls ≠ "java/lang/invoke/VarHandle") ∧
  (∀ sig, parseMethodDescriptor y.desc = some sig → n = sig.parameters.length) ∧ (Cond.methodLink own index y).before args s = true ∧ (Cond.static y).before args s = true
theorem vx_cwSW {own : String} {index maxL mc ms : Nat} {y : MethodName} {bytes : ByteArray} {ret : Option FieldType} {hh : List (Nat × Nat × Nat × Nat)} {Ts ws ws' : List Cond} {rm : Room} (n : Nat) (ht : ∀ w ∈ Ts, w.before args s = true) (hT : GoodIn Ts (va_wsS own index y ws)) (hw : ws = Cond.codeWith y bytes maxL ret hh :: ws') (hrc : rm.cells = mc) (hrs : rm.slots = ms)
    (hd : y.cls ≠ "java/lang/invoke/MethodHandle" ∧ y.cls ≠ "java/lang/invoke/VarHandle" ∧ (parseMethodDescriptor y.desc).map (fun d => d.parameters.length) = some n) (hR : rm.frames + 1 ≤ R.frames ∧ 8 + (maxL + 11) + rm.locals ≤ R.locals) :
    vx_CSW R s args own index y bytes maxL ret hh ws rm mc ms n := by
  have ok : ∀ w ∈ va_wsS own index y ws, w.before args s = true := fun w h => ht w (hT w h).1
  have hG : GoodIn Ts ws := fun w h => hT w (by unfold va_wsS; exact List.mem_append_right _ h)
  have hc : Cond.codeWith y bytes maxL ret hh ∈ ws := by rw [hw]; exact List.mem_cons_self
  refine ⟨⟨hrc, hrs, hR.1, hR.2, pay_in ht hG, hc⟩, ht _ (hG _ hc).1, ok _ (by simp [va_wsS]), ⟨hd.1, hd.2.1⟩, fun sig h => ?_, ok _ (by simp [va_wsS]), ok _ (by simp [va_wsS])⟩
  have h2 := hd.2.2
  rw [h] at h2
  exact (Option.some.inj h2).symm
theorem vx_callSW (X : Stand p l e R s m args below meth c T locs cells slots) (hexec : p.tables.exec = Jvm.exec) {own : String} {index : Nat} {y : MethodName} {bytes : ByteArray} {maxL : Nat} {ret : Option FieldType} {hh : List (Nat × Nat × Nat × Nat)}
    (hown : s.vm.findClass own = some m.cls) (hlink : (Cond.methodLink own index y).before args s = true) (hstat : (Cond.static y).before args s = true) (hinit : (Cond.initialized y.cls).before args s = true)
    (hcode : (Cond.codeWith y bytes maxL ret hh).before args s = true) (hy : y.cls ≠ "java/lang/invoke/MethodHandle" ∧ y.cls ≠ "java/lang/invoke/VarHandle")
    {W9 : Nat} {Pre : Pt → Array Value → Prop} {Post : Pt → Array Value → Option Value → Pt → Prop} (hK : Back l R p e below s args y 3 W9 Pre Post)
    {g : JFrame} (hg : g.method = m) (hsize : g.locals.size = c.maxLocals) {argsL rest : List Value} (hlen : ∀ sig, parseMethodDescriptor y.desc = some sig → argsL.length = sig.parameters.length)
    (hstack : g.stack = argsL.reverse ++ rest) (hW : 2 * g.monitorRoom + (rest.map fun v => v.category).sum ≤ W9) (hdg : decode c.code g.pc = .ok (.invokestatic index, 3))
    (hpre : ∀ vm₁, s.WarmedH vm₁ → Pre ⟨T.setVm vm₁, locs, cells, slots⟩ argsL.toArray) :
    ∃ (v : Option Value) (vm₁ : Vm) (B : Pt), s.WarmedH vm₁ ∧ Stand p l e R s m args below meth c B.U B.locs B.cells B.slots ∧ Post ⟨T.setVm vm₁, locs, cells, slots⟩ argsL.toArray v B ∧
      ∀ target, Steps p.tables e below (B.U.setTop { g with pc := g.pc + 3, stack := v.toList ++ rest }) target → Steps p.tables e below (T.setTop g) target := by
  obtain ⟨mk, methM, cM, hnamed, hmethM, -, -, -, -, -, -, hsigM⟩ := Cond.codeWith_spec hcode
  have hstatic : methM.isStatic = true := Cond.static_spec hnamed hmethM hstat
  obtain ⟨kP, hkP, -⟩ := className_of_methodNamed hnamed
  have hinitP : kP.init = .initialized := Cond.initialized_spec (findClass_of_methodNamed hnamed) hkP hinit
  obtain ⟨vm₁, X₁, hstep₁⟩ := X.invokestatic hexec hown hlink hnamed hmethM hstatic hkP hinitP hy (g := g) hg (argsL := argsL) (rest := rest) (hlen _ hsigM) hstack hdg
  obtain ⟨v, B, X', hpost, hsteps⟩ := hK m meth c ⟨T.setVm vm₁, locs, cells, slots⟩ { g with stack := rest } (.invokestatic index) mk argsL.toArray X₁ hg hsize hdg hW (X₁.named hnamed) (hpre vm₁ X₁.warmed)
  exact ⟨v, vm₁, B, X₁.warmed, X', hpost, fun target h => hstep₁ _ fun acts => by rw [doInvoke_state]; exact hsteps.trans h⟩
theorem vx_runSW {y : MethodName} {bytes cc : ByteArray} {maxL nL mc ms n index : Nat} {ret : Option FieldType} {hh : List (Nat × Nat × Nat × Nat)} {ws : List Cond} {rm : Room} {Pc : Array Value → State → Prop} {Qc : Array Value → State → Outcome → State → Prop} {free : Addr → Prop} {Ts : List Cond} {own : String} {As rest : List Value} {g : JFrame}
    (S : CallFix p m c cc nL s args Ts own) (hM : Met l y ws rm Pc Qc mc ms free) (cw : vx_CSW R s args own index y bytes maxL ret hh ws rm mc ms n) (hp : PreS s H Pc As)
    (hg : g.method = m) (hn : As.length = n) (hsize : g.locals.size = nL) (hstack : g.stack = As.reverse ++ rest) (hW : 2 * g.monitorRoom + (rest.map fun v => v.category).sum ≤ 8) (hdg : decode cc g.pc = .ok (.invokestatic index, 3)) (hf : cells + mc ≤ R.cells ∧ slots + ms ≤ R.slots) :
    va_Run p l e R s m args below meth c H locs cells slots mc ms g rest (Qc As.toArray) (free) := by
  obtain ⟨⟨hrc, hrs, hfr, hlo, hws, hcw⟩, hcode, hini, hy, hlen, hl, hstt⟩ := cw
  have hK : Back l R p e below s args y 3 8 (PreOf R mc ms Pc) (PostOf Qc mc ms free) := va_backW (hh := hh) (bytes := bytes) (maxL := maxL) (ret := ret) hM hp.1 hrc hrs hfr hlo hws hcw (fun a' U hW => word_at hW (Or.inl (by first | rfl | simp [Cond.onTables, Cond.keeps, Cond.steady])) hini)
  obtain ⟨hx, hb, hml, ho, -⟩ := S
  intro T hT X
  obtain ⟨v, vm₁, ⟨U', l2, c2, s2⟩, hW₁, X', ⟨g', mk, t, L, e1, e2, hq, h1, hL, h2, h3⟩, st⟩ := vx_callSW X hx (hh := hh) (bytes := bytes) (maxL := maxL) (ret := ret) ho hl hstt hini hcode hy hK hg (hsize.trans hml.symm) (argsL := As) (rest := rest) (fun sig h => hn.trans (hlen sig h)) hstack hW (by rw [hb]; exact hdg)
    (fun vm₁ hW₁ => ⟨hf.1, hf.2, hp.2 (T.setVm vm₁) hT hW₁⟩)
  dsimp only [Pt.U, Pt.locs, Pt.cells, Pt.slots] at X' e1 e2 h1 h2 h3 st
  subst h1; subst h2; subst h3
  exact ⟨v, (T.setVm vm₁).calling g' mk As.toArray, t, U', L, hT, X', hL, e1, e2, hq, st⟩
/-- not caught here, past rows that name other classes: it goes on to the caller -/
theorem vx_outP {p : Program} {l : Launch} {e : Env} {R : Room} {s : State} {m : MethodId} {args : Array Value} {below : List Frame} {meth : Method} {c : Code} {H : Heap} {locs : List Loc} {cells slots : Nat} {free : Addr → Prop} {ls : Array Slot} {rest : List Value} {Qc : Array Value → State → Outcome → State → Prop} {XC : String → State → State → Prop}
    {pc : Nat} {own E : String} {ce : Cell} {q : Addr} {mc ms : Nat} (hown : s.vm.findClass own = some m.cls) (hlocks : meth.locks = false)
    (hpass : ∀ z ∈ c.exceptionTable.toList, covers z pc = false ∨ (z.catchType ≠ 0 ∧ ∃ nm : String, (Cond.classLink own z.catchType nm).before args s = true ∧ va_Nc E nm s)) (hcell : H[q]? = some ce) (hv : ce.vm = .none) (hcl : s.vm.findClass E = some ce.cls)
    (hx : ∀ t : State, t.heap = H → s.vm.Alike t.vm → XC E s t) (hf : ∀ z ∈ locs, free z.base) (hc : cells ≤ mc) (hs : slots ≤ ms) :
    vx_W p l e R s m args below meth c H locs cells slots (vx_MQ below Qc XC args s mc ms free) (F0 m pc ls rest) q := by
  intro T hT X
  have hpl : e.platform.magicAccessors = ({} : Platform).magicAccessors := by rw [X.admits.platform]
  obtain ⟨vm', hW', X', st⟩ := X.outThrough hlocks q (g := F0 m pc ls rest) rfl rfl rfl (cell := ce) (by rw [hT]; exact hcell) (by rw [hv]; rfl)
    (by obtain ⟨k9, h9, -⟩ := Vm.findClass_spec hcl; exact ⟨k9, h9⟩) (fun z hz => by
      rcases hpass z hz with h | ⟨hz0, nm, hl1, hn1⟩
      · exact Or.inl h
      · obtain ⟨c6, hc6, hcl6⟩ := Cond.classLink_spec hown hl1 e.platform hpl
        obtain ⟨a8, b8, h1, h2, h3⟩ := hn1
        cases Option.some.inj (h1.symm.trans hcl)
        cases Option.some.inj (h2.symm.trans hc6)
        exact Or.inr ⟨hz0, _, hcl6, h3⟩)
  obtain ⟨g₀, hfr⟩ := X'.frames_eq
  have hcell9 : ((T.setVm vm').setFrames (.throwing q :: below)).heap[q]? = some ce := by
    show T.heap[q]? = some ce
    rw [hT]; exact hcell
  have hend : Ended ((T.setVm vm').setFrames (.throwing q :: below)) below (.threw q) := State.frames_setFrames _ (State.cur_lt_of_frames hfr)
  refine ⟨(T.setVm vm').setFrames (.throwing q :: below), ?_, .threw q, X'.here.running, hend, Or.inr ⟨q, rfl, E, ce, locs, hx _ hT (X'.ends _).1.alike, hcell9, hv, hcl, (X'.ends _).1, (X'.ends _).2.mono hc hs, hf⟩⟩
  rw [X.pushThrowing_eq]
  exact st
/-- a thing of a world lies in the heap -/
theorem vx_lt {D : va_G} {cl : List vw_C} {ws : va_W} {H1 : Heap} (h : va_P D cl ws H1) {k : Nat} {q : Nat × va_E} (hk : ws[k]? = some q) : q.1 < H1.size := (h k q hk).lt
end VXS
/-! ===== END ===== -/
/-! ===== BEGIN methods with a table of their own: called by a name, returning or throwing ===== -/
section VXH
/-! vx_backW, vx_callVX, vx_callSX, vx_callVW, vx_runVW, vx_runVX, vx_runSX, vx_ofWH follow the same proofs as their sisters above (Free/Laws.lean, Shelf42/LK1.lean); vx_outP calls Shelf42/NT130.lean (outThrough). -/
section
variable {l : Launch} {R : Room} {p : Program} {e : Env} {below : List Frame} {s : State} {sargs : Array Value} {y : MethodName} {len W9 : Nat}
theorem vx_backW {ws : List Cond} {rm : Room} {Pc : Array Value → State → Prop} {Qc : Array Value → State → Outcome → State → Prop} {XC : String → State → State → Prop} {mc ms : Nat} {free : Addr → Prop} {bytes : ByteArray} {maxL : Nat} {ret : Option FieldType} {hh : List (Nat × Nat × Nat × Nat)}
    (hM : vx_Met l y ws rm Pc Qc XC mc ms free) (hblind : FrameBlind Pc) (hrc : rm.cells = mc) (hrs : rm.slots = ms)
    (hframes : rm.frames + 1 ≤ R.frames) (hlocals : W9 + (maxL + 11) + rm.locals ≤ R.locals)
    (hws : ∀ w ∈ ws, ∀ a' U, s.WarmedH U.vm → w.before a' U = true) (hcode : Cond.codeWith y bytes maxL ret hh ∈ ws) (hinit : ∀ a' U, s.WarmedH U.vm → (Cond.initialized y.cls).before a' U = true) :
    vx_Back l R p e below s sargs y len W9 (PreOf R mc ms Pc) (PostOf Qc mc ms free) (vx_Post XC mc ms free) := by
  intro m meth c A g ig mk a X hg hsize hdg hW hn hp
  have h1 : (headSpec ws rm).pre.before a A.U = true := atoms_intro fun w hw => hws w hw _ _ X.warmed
  have h2 : (Cond.codeWith y bytes maxL ret hh).before a A.U = true := hws _ hcode _ _ X.warmed
  have h3 : (Cond.initialized y.cls).before a A.U = true := hinit _ _ X.warmed
  have h4 : A.cells + (headSpec ws rm).room.cells ≤ R.cells := by rw [show (headSpec ws rm).room.cells = mc from hrc]; exact hp.1
  have h5 : A.slots + (headSpec ws rm).room.slots ≤ R.slots := by rw [show (headSpec ws rm).room.slots = ms from hrs]; exact hp.2.1
  have hPc : Pc a (A.U.calling g mk a) := hblind _ _ _ _ hp.2.2
  obtain ⟨U, Ls, c0, s0⟩ := A
  dsimp only [Pt.U, Pt.locs, Pt.cells, Pt.slots] at h1 h2 h3 h4 h5 X hn hPc ⊢
  obtain ⟨m9, methY, cY, hn9, hmY, hcY, -, hlY, -⟩ := Cond.codeWith_spec h2
  cases Option.some.inj (hn9.symm.trans hn)
  obtain ⟨kY, hkY, -⟩ := className_of_methodNamed hn
  have hinitY : kY.init = .initialized := Cond.initialized_spec (findClass_of_methodNamed hn) hkY h3
  have h : At U g.method c below := by rw [hg]; exact X.here
  have hlocals9 : W9 + (maxL + 11) + (headSpec ws rm).room.locals ≤ R.locals := hlocals
  have happ : (headSpec ws rm).appliesLoose y e.platform (U.calling g mk a) = true :=
    Spec.appliesLoose_calling (g := g) h hdg hn hkY hinitY
      (X.room_calling (g := g) (R' := (headSpec ws rm).room) hsize hmY hcY hframes (by rw [hlY]; omega) h4 h5) h1
  obtain ⟨mid, hmid⟩ := h.above
  have hfr : (U.setTop g).frames = (.java g :: mid) ++ below := by rw [State.frames_setTop' g h.top, hmid]; rfl
  obtain ⟨o, s₂, hsteps, -, hend, hq⟩ := Steps.callFree hM p X.admits X.cas X.clock (acts := []) hfr happ hPc trivial
  have hq' : vx_Q Qc XC mc ms free a (U.calling g mk a) o s₂ := hq
  rw [State.frames_setTop' g h.top] at hend
  obtain ⟨g₀, hg0⟩ := Option.isSome_iff_exists.mp h.top
  obtain ⟨r, hr⟩ := State.topJava?_eq_some.mp hg0
  have hr' : (({ U with heap := s₂.heap, slotsUsed := s₂.slotsUsed } : State).setVm s₂.vm).frames = .java g₀ :: r := hr
  rcases hq' with ⟨hqc, L, hfe, hL⟩ | ⟨q, rfl, E, ce, L, hx, hce, hcv, hcl, hW₂, hsm, hL⟩
  · obtain ⟨⟨v, rfl⟩, hW₂, e2, q2, q3, q4, q5, q6⟩ := id hfe
    have e3 : s₂ = ({ (U.calling g mk a).setFrames s₂.frames with heap := s₂.heap, slotsUsed := s₂.slotsUsed } : State).setVm s₂.vm := by
      have : s₂ = ({ s₂ with vm := (U.calling g mk a).vm } : State).setVm s₂.vm := rfl
      rw [e2] at this
      exact this
    obtain ⟨c₂, i₂, len₂, hc₂, hd₂, hf₂⟩ := hend
    have hW' : U.WarmedH s₂.vm := hW₂
    have hcc : c₂ = c := by
      have h1 : s₂.code? g.method = U.code? g.method := by
        rw [State.code?_eq, State.code?_eq, hW'.alike.method?]
      exact Option.some.inj (hc₂.symm.trans (h1.trans h.code))
    subst hcc
    have hlen : len₂ = len := by rw [hdg] at hd₂; cases hd₂; rfl
    subst hlen
    have hs₂ : s₂ = (({ U with heap := s₂.heap, slotsUsed := s₂.slotsUsed } : State).setVm s₂.vm).setTop { g with pc := g.pc + len₂, stack := v.toList ++ g.stack } := by
      refine e3.trans ?_
      rw [hf₂, State.calling_eq h.top, State.setFrames_setFrames, State.setTop_of_frames _ hr', hr]
      rfl
    have hsame : U.sameButNew ({ U with heap := s₂.heap, slotsUsed := s₂.slotsUsed } : State) L mc ms := by
      refine ⟨?_, q2, q3, q4, q5, q6⟩
      obtain ⟨t, ht, -⟩ := State.frames_cons hr
      show ({ U with heap := s₂.heap, slotsUsed := s₂.slotsUsed } : State) = { U.setFrames U.frames with heap := s₂.heap, slotsUsed := s₂.slotsUsed }
      rw [State.setFrames_self ht]
    subst hg
    refine Or.inl ⟨v, ⟨(({ U with heap := s₂.heap, slotsUsed := s₂.slotsUsed } : State).setVm s₂.vm), Ls ++ L, c0 + mc, s0 + ms⟩,
      ⟨X.admits, X.cas, X.clock, X.frames, X.room, X.hears, X.method, X.code, (X.here.setHeapUsed s₂.heap s₂.slotsUsed).setVm hW'.alike, X.tail, State.WarmedH.trans X.warmed hW', X.limits, X.bytes, X.same.trans (hsame.setVm s.vm)⟩,
      ⟨g, mk, s₂, L, rfl, rfl, hqc, rfl, hL, rfl, rfl⟩, ?_⟩
    show Steps p.tables e below _ ((({ U with heap := s₂.heap, slotsUsed := s₂.slotsUsed } : State).setVm s₂.vm).setTop { g with pc := g.pc + len₂, stack := v.toList ++ g.stack })
    rw [← hs₂]
    exact hsteps
  · obtain ⟨e2, q2, q3, q4, q5, q6⟩ := id hsm
    have e3 : s₂ = ({ (U.calling g mk a).setFrames s₂.frames with heap := s₂.heap, slotsUsed := s₂.slotsUsed } : State).setVm s₂.vm := by
      have : s₂ = ({ s₂ with vm := (U.calling g mk a).vm } : State).setVm s₂.vm := rfl
      rw [e2] at this
      exact this
    have hf₂ : s₂.frames = .throwing q :: .java g :: U.frames.tail := hend
    have hW' : U.WarmedH s₂.vm := hW₂
    have hs₂ : s₂ = ((({ U with heap := s₂.heap, slotsUsed := s₂.slotsUsed } : State).setVm s₂.vm).setTop g).pushFrame (.throwing q) := by
      refine e3.trans ?_
      rw [hf₂, State.calling_eq h.top, State.setFrames_setFrames, State.pushFrame, State.frames_setTop _ hr', State.setTop_of_frames _ hr', State.setFrames_setFrames, hr]
      rfl
    have hsame : U.sameButNew ({ U with heap := s₂.heap, slotsUsed := s₂.slotsUsed } : State) L mc ms := by
      refine ⟨?_, q2, q3, q4, q5, q6⟩
      obtain ⟨t, ht, -⟩ := State.frames_cons hr
      show ({ U with heap := s₂.heap, slotsUsed := s₂.slotsUsed } : State) = { U.setFrames U.frames with heap := s₂.heap, slotsUsed := s₂.slotsUsed }
      rw [State.setFrames_self ht]
    subst hg
    refine Or.inr ⟨q, ⟨(({ U with heap := s₂.heap, slotsUsed := s₂.slotsUsed } : State).setVm s₂.vm), Ls ++ L, c0 + mc, s0 + ms⟩,
      ⟨X.admits, X.cas, X.clock, X.frames, X.room, X.hears, X.method, X.code, (X.here.setHeapUsed s₂.heap s₂.slotsUsed).setVm hW'.alike, X.tail, State.WarmedH.trans X.warmed hW', X.limits, X.bytes, X.same.trans (hsame.setVm s.vm)⟩,
      ⟨g, mk, s₂, L, E, ce, rfl, rfl, hx, hce, hcv, hcl, rfl, hL, rfl, rfl⟩, ?_⟩
    show Steps p.tables e below _ (((({ U with heap := s₂.heap, slotsUsed := s₂.slotsUsed } : State).setVm s₂.vm).setTop g).pushFrame (.throwing q))
    rw [← hs₂]
    exact hsteps
end
variable {p : Program} {l : Launch} {e : Env} {R : Room} {s : State} {m : MethodId} {args : Array Value} {below : List Frame} {meth : Method} {c : Code} {T : State} {H : Heap} {locs : List Loc} {cells slots : Nat}
theorem vx_callVX (X : Stand p l e R s m args below meth c T locs cells slots) (hexec : p.tables.exec = Jvm.exec) {own C : String} {index : Nat} {y : MethodName} {bytes : ByteArray} {maxL : Nat} {ret : Option FieldType} {hh : List (Nat × Nat × Nat × Nat)}
    (hown : s.vm.findClass own = some m.cls) (hlink : (Cond.methodLink own index y).before args s = true) (hinst : (Cond.instanceMethod y).before args s = true) (hsel : (Cond.selects C y y).before args s = true)
    (hcode : (Cond.codeWith y bytes maxL ret hh).before args s = true) (hy : y.cls ≠ "java/lang/invoke/MethodHandle" ∧ y.cls ≠ "java/lang/invoke/VarHandle")
    {W9 : Nat} {Pre : Pt → Array Value → Prop} {Post : Pt → Array Value → Option Value → Pt → Prop} {PostX : Pt → Array Value → Addr → Pt → Prop} (hK : vx_Back l R p e below s args y 3 W9 Pre Post PostX)
    {b : Addr} {cellB : Cell} (hcell : T.heap[b]? = some cellB) (hobj : cellB.vm.isStatics = false) (hcls : s.vm.findClass C = some cellB.cls)
    {g : JFrame} (hg : g.method = m) (hsize : g.locals.size = c.maxLocals) {argsL rest : List Value} (hlen : ∀ sig, parseMethodDescriptor y.desc = some sig → argsL.length = sig.parameters.length)
    (hstack : g.stack = argsL.reverse ++ .ref b :: rest) (hW : 2 * g.monitorRoom + (rest.map fun v => v.category).sum ≤ W9) (hdg : decode c.code g.pc = .ok (.invokevirtual index, 3))
    (hpre : ∀ vm₁, s.WarmedH vm₁ → Pre ⟨T.setVm vm₁, locs, cells, slots⟩ (Value.ref b :: argsL).toArray) :
    (∃ (v : Option Value) (vm₁ : Vm) (B : Pt), s.WarmedH vm₁ ∧ Stand p l e R s m args below meth c B.U B.locs B.cells B.slots ∧ Post ⟨T.setVm vm₁, locs, cells, slots⟩ (Value.ref b :: argsL).toArray v B ∧
      ∀ target, Steps p.tables e below (B.U.setTop { g with pc := g.pc + 3, stack := v.toList ++ rest }) target → Steps p.tables e below (T.setTop g) target) ∨
    (∃ (q : Addr) (vm₁ : Vm) (B : Pt), s.WarmedH vm₁ ∧ Stand p l e R s m args below meth c B.U B.locs B.cells B.slots ∧ PostX ⟨T.setVm vm₁, locs, cells, slots⟩ (Value.ref b :: argsL).toArray q B ∧
      Steps p.tables e below (T.setTop g) ((B.U.setTop { g with stack := rest }).pushFrame (.throwing q))) := by
  obtain ⟨mk, methM, hnamed, hmethM, hstM, habM⟩ := Cond.instanceMethod_spec hinst
  obtain ⟨m8, methM', cM, hn8, hmethM', -, -, -, -, -, -, hsigM⟩ := Cond.codeWith_spec hcode
  cases Option.some.inj (hn8.symm.trans hnamed)
  cases hmethM.symm.trans hmethM'
  obtain ⟨c2, r2, m2, q1, q2, q3, q4, kP, hkP, hkPi⟩ := Cond.selects_spec hsel
  cases hcls.symm.trans q1
  cases (State.methodFound?_of_named hnamed hy).symm.trans q2
  cases hnamed.symm.trans q3
  have hselP : selectMethod e.platform s.vm cellB.cls mk = .method mk := by rw [Launch.admits_selectMethod X.admits]; exact q4
  obtain ⟨vm₁, X₁, hstep₁⟩ := X.invokevirtual hexec hown hlink hnamed hmethM hstM hkP hkPi hy (a := b) (cell := cellB) hcell
    (fun z h => by rw [h] at hobj; cases hobj) hselP hmethM habM hkP hkPi (g := g) hg (argsL := argsL) (rest := rest) (hlen _ hsigM) hstack hdg
  rcases hK m meth c ⟨T.setVm vm₁, locs, cells, slots⟩ { g with stack := rest } (.invokevirtual index) mk (Value.ref b :: argsL).toArray X₁ hg hsize hdg hW (X₁.named hnamed) (hpre vm₁ X₁.warmed) with ⟨v, B, X', hpost, hsteps⟩ | ⟨q, B, X', hpost, hsteps⟩
  · exact Or.inl ⟨v, vm₁, B, X₁.warmed, X', hpost, fun target h => hstep₁ _ fun acts => by rw [doInvoke_state]; exact hsteps.trans h⟩
  · exact Or.inr ⟨q, vm₁, B, X₁.warmed, X', hpost, hstep₁ _ fun acts => by rw [doInvoke_state]; exact hsteps⟩
theorem vx_callSX (X : Stand p l e R s m args below meth c T locs cells slots) (hexec : p.tables.exec = Jvm.exec) {own : String} {index : Nat} {y : MethodName} {bytes : ByteArray} {maxL : Nat} {ret : Option FieldType} {hh : List (Nat × Nat × Nat × Nat)}
    (hown : s.vm.findClass own = some m.cls) (hlink : (Cond.methodLink own index y).before args s = true) (hstat : (Cond.static y).before args s = true) (hinit : (Cond.initialized y.cls).before args s = true)
    (hcode : (Cond.codeWith y bytes maxL ret hh).before args s = true) (hy : y.cls ≠ "java/lang/invoke/MethodHandle" ∧ y.cls ≠ "java/lang/invoke/VarHandle")
    {W9 : Nat} {Pre : Pt → Array Value → Prop} {Post : Pt → Array Value → Option Value → Pt → Prop} {PostX : Pt → Array Value → Addr → Pt → Prop} (hK : vx_Back l R p e below s args y 3 W9 Pre Post PostX)
    {g : JFrame} (hg : g.method = m) (hsize : g.locals.size = c.maxLocals) {argsL rest : List Value} (hlen : ∀ sig, parseMethodDescriptor y.desc = some sig → argsL.length = sig.parameters.length)
    (hstack : g.stack = argsL.reverse ++ rest) (hW : 2 * g.monitorRoom + (rest.map fun v => v.category).sum ≤ W9) (hdg : decode c.code g.pc = .ok (.invokestatic index, 3))
    (hpre : ∀ vm₁, s.WarmedH vm₁ → Pre ⟨T.setVm vm₁, locs, cells, slots⟩ argsL.toArray) :
    (∃ (v : Option Value) (vm₁ : Vm) (B : Pt), s.WarmedH vm₁ ∧ Stand p l e R s m args below meth c B.U B.locs B.cells B.slots ∧ Post ⟨T.setVm vm₁, locs, cells, slots⟩ argsL.toArray v B ∧
      ∀ target, Steps p.tables e below (B.U.setTop { g with pc := g.pc + 3, stack := v.toList ++ rest }) target → Steps p.tables e below (T.setTop g) target) ∨
    (∃ (q : Addr) (vm₁ : Vm) (B : Pt), s.WarmedH vm₁ ∧ Stand p l e R s m args below meth c B.U B.locs B.cells B.slots ∧ PostX ⟨T.setVm vm₁, locs, cells, slots⟩ argsL.toArray q B ∧
      Steps p.tables e below (T.setTop g) ((B.U.setTop { g with stack := rest }).pushFrame (.throwing q))) := by
  obtain ⟨mk, methM, cM, hnamed, hmethM, -, -, -, -, -, -, hsigM⟩ := Cond.codeWith_spec hcode
  have hstatic : methM.isStatic = true := Cond.static_spec hnamed hmethM hstat
  obtain ⟨kP, hkP, -⟩ := className_of_methodNamed hnamed
  have hinitP : kP.init = .initialized := Cond.initialized_spec (findClass_of_methodNamed hnamed) hkP hinit
  obtain ⟨vm₁, X₁, hstep₁⟩ := X.invokestatic hexec hown hlink hnamed hmethM hstatic hkP hinitP hy (g := g) hg (argsL := argsL) (rest := rest) (hlen _ hsigM) hstack hdg
  rcases hK m meth c ⟨T.setVm vm₁, locs, cells, slots⟩ { g with stack := rest } (.invokestatic index) mk argsL.toArray X₁ hg hsize hdg hW (X₁.named hnamed) (hpre vm₁ X₁.warmed) with ⟨v, B, X', hpost, hsteps⟩ | ⟨q, B, X', hpost, hsteps⟩
  · exact Or.inl ⟨v, vm₁, B, X₁.warmed, X', hpost, fun target h => hstep₁ _ fun acts => by rw [doInvoke_state]; exact hsteps.trans h⟩
  · exact Or.inr ⟨q, vm₁, B, X₁.warmed, X', hpost, hstep₁ _ fun acts => by rw [doInvoke_state]; exact hsteps⟩
theorem vx_callVW (X : Stand p l e R s m args below meth c T locs cells slots) (hexec : p.tables.exec = Jvm.exec) {own C : String} {index : Nat} {y : MethodName} {bytes : ByteArray} {maxL : Nat} {ret : Option FieldType} {hh : List (Nat × Nat × Nat × Nat)}
    (hown : s.vm.findClass own = some m.cls) (hlink : (Cond.methodLink own index y).before args s = true) (hinst : (Cond.instanceMethod y).before args s = true) (hsel : (Cond.selects C y y).before args s = true)
    (hcode : (Cond.codeWith y bytes maxL ret hh).before args s = true) (hy : y.cls ≠ "java/lang/invoke/MethodHandle" ∧ y.cls ≠ "java/lang/invoke/VarHandle")
    {W9 : Nat} {Pre : Pt → Array Value → Prop} {Post : Pt → Array Value → Option Value → Pt → Prop} (hK : Back l R p e below s args y 3 W9 Pre Post)
    {b : Addr} {cellB : Cell} (hcell : T.heap[b]? = some cellB) (hobj : cellB.vm.isStatics = false) (hcls : s.vm.findClass C = some cellB.cls)
    {g : JFrame} (hg : g.method = m) (hsize : g.locals.size = c.maxLocals) {argsL rest : List Value} (hlen : ∀ sig, parseMethodDescriptor y.desc = some sig → argsL.length = sig.parameters.length)
    (hstack : g.stack = argsL.reverse ++ .ref b :: rest) (hW : 2 * g.monitorRoom + (rest.map fun v => v.category).sum ≤ W9) (hdg : decode c.code g.pc = .ok (.invokevirtual index, 3))
    (hpre : ∀ vm₁, s.WarmedH vm₁ → Pre ⟨T.setVm vm₁, locs, cells, slots⟩ (Value.ref b :: argsL).toArray) :
    ∃ (v : Option Value) (vm₁ : Vm) (B : Pt), s.WarmedH vm₁ ∧ Stand p l e R s m args below meth c B.U B.locs B.cells B.slots ∧ Post ⟨T.setVm vm₁, locs, cells, slots⟩ (Value.ref b :: argsL).toArray v B ∧
      ∀ target, Steps p.tables e below (B.U.setTop { g with pc := g.pc + 3, stack := v.toList ++ rest }) target → Steps p.tables e below (T.setTop g) target := by
  obtain ⟨mk, methM, hnamed, hmethM, hstM, habM⟩ := Cond.instanceMethod_spec hinst
  obtain ⟨m8, methM', cM, hn8, hmethM', -, -, -, -, -, -, hsigM⟩ := Cond.codeWith_spec hcode
  cases Option.some.inj (hn8.symm.trans hnamed)
  cases hmethM.symm.trans hmethM'
  obtain ⟨c2, r2, m2, q1, q2, q3, q4, kP, hkP, hkPi⟩ := Cond.selects_spec hsel
  cases hcls.symm.trans q1
  cases (State.methodFound?_of_named hnamed hy).symm.trans q2
  cases hnamed.symm.trans q3
  have hselP : selectMethod e.platform s.vm cellB.cls mk = .method mk := by rw [Launch.admits_selectMethod X.admits]; exact q4
  obtain ⟨vm₁, X₁, hstep₁⟩ := X.invokevirtual hexec hown hlink hnamed hmethM hstM hkP hkPi hy (a := b) (cell := cellB) hcell
    (fun z h => by rw [h] at hobj; cases hobj) hselP hmethM habM hkP hkPi (g := g) hg (argsL := argsL) (rest := rest) (hlen _ hsigM) hstack hdg
  obtain ⟨v, B, X', hpost, hsteps⟩ := hK m meth c ⟨T.setVm vm₁, locs, cells, slots⟩ { g with stack := rest } (.invokevirtual index) mk (Value.ref b :: argsL).toArray X₁ hg hsize hdg hW (X₁.named hnamed) (hpre vm₁ X₁.warmed)
  exact ⟨v, vm₁, B, X₁.warmed, X', hpost, fun target h => hstep₁ _ fun acts => by rw [doInvoke_state]; exact hsteps.trans h⟩
abbrev vx_CVW (R : Room) (s : State) (args : Array Value) (own C : String) (index : Nat) (y : MethodName) (bytes : ByteArray) (maxL : Nat) (ret : Option FieldType) (hh : List (Nat × Nat × Nat × Nat)) (ws : List Cond) (rm : Room) (mc ms n : Nat) : Prop :=
  (rm.cells = mc ∧ rm.slots = ms ∧ rm.frames + 1 ≤ R.frames ∧ 8 + (maxL + 11) + rm.locals ≤ R.locals ∧ (∀ w ∈ ws, ∀ (a' : Array Value) (U : State), s.WarmedH U.vm → w.before a' U = true) ∧ Cond.codeWith y bytes maxL ret hh ∈ ws) ∧
  (Cond.codeWith y bytes maxL ret hh).before args s = true ∧ (Cond.initialized y.cls).before args s = true ∧ (y.cls ≠ "java/lang/invoke/MethodHandle" ∧ y.cls ≠ "java/lang/invoke/VarHandle") ∧
  (∀ sig, parseMethodDescriptor y.desc = some sig → n = sig.parameters.length) ∧ (Cond.methodLink own index y).before args s = true ∧ (Cond.instanceMethod y).before args s = true ∧ (Cond.selects C y y).before args s = true
theorem vx_cwVW {own C : String} {index maxL mc ms : Nat} {y : MethodName} {bytes : ByteArray} {ret : Option FieldType} {hh : List (Nat × Nat × Nat × Nat)} {Ts ws ws' : List Cond} {rm : Room} (n : Nat) (ht : ∀ w ∈ Ts, w.before args s = true) (hT : GoodIn Ts (wsV own index C y ws)) (hw : ws = Cond.codeWith y bytes maxL ret hh :: ws') (hrc : rm.cells = mc) (hrs : rm.slots = ms)
    (hd : y.cls = C ∧ y.cls ≠ "java/lang/invoke/MethodHandle" ∧ y.cls ≠ "java/lang/invoke/VarHandle" ∧ (parseMethodDescriptor y.desc).map (fun d => d.parameters.length) = some n) (hR : rm.frames + 1 ≤ R.frames ∧ 8 + (maxL + 11) + rm.locals ≤ R.locals) :
    vx_CVW R s args own C index y bytes maxL ret hh ws rm mc ms n := by
  obtain ⟨hC, hd⟩ := hd
  subst hC
  have ok : ∀ w ∈ wsV own index y.cls y ws, w.before args s = true := fun w h => ht w (hT w h).1
  have hG : GoodIn Ts ws := fun w h => hT w (by unfold wsV; exact List.mem_append_right _ h)
  have hc : Cond.codeWith y bytes maxL ret hh ∈ ws := by rw [hw]; exact List.mem_cons_self
  refine ⟨⟨hrc, hrs, hR.1, hR.2, pay_in ht hG, hc⟩, ht _ (hG _ hc).1, ok _ (by simp [wsV]), ⟨hd.1, hd.2.1⟩, fun sig h => ?_, ok _ (by simp [wsV]), ok _ (by simp [wsV]), ok _ (by simp [wsV])⟩
  have h2 := hd.2.2
  rw [h] at h2
  exact (Option.some.inj h2).symm
theorem vx_runVW {y : MethodName} {bytes cc : ByteArray} {maxL nL mc ms n index : Nat} {ret : Option FieldType} {hh : List (Nat × Nat × Nat × Nat)} {ws : List Cond} {rm : Room} {Pc : Array Value → State → Prop} {Qc : Array Value → State → Outcome → State → Prop} {free : Addr → Prop} {Ts : List Cond} {own C : String} {b : Addr} {As rest : List Value} {g : JFrame}
    (S : CallFix p m c cc nL s args Ts own) (hM : Met l y ws rm Pc Qc mc ms free) (cw : vx_CVW R s args own C index y bytes maxL ret hh ws rm mc ms n) (hp : PreV s H C b Pc As)
    (hg : g.method = m) (hn : As.length = n) (hsize : g.locals.size = nL) (hstack : g.stack = As.reverse ++ .ref b :: rest) (hW : 2 * g.monitorRoom + (rest.map fun v => v.category).sum ≤ 8) (hdg : decode cc g.pc = .ok (.invokevirtual index, 3)) (hf : cells + mc ≤ R.cells ∧ slots + ms ≤ R.slots) :
    va_Run p l e R s m args below meth c H locs cells slots mc ms g rest (Qc (Value.ref b :: As).toArray) free := by
  obtain ⟨⟨hrc, hrs, hfr, hlo, hws, hcw⟩, hcode, hini, hy, hlen, hl, hin, hse⟩ := cw
  have hK : Back l R p e below s args y 3 8 (PreOf R mc ms Pc) (PostOf Qc mc ms free) := va_backW (hh := hh) (bytes := bytes) (maxL := maxL) (ret := ret) hM hp.1 hrc hrs hfr hlo hws hcw (fun a' U hW => word_at hW (Or.inl (by first | rfl | simp [Cond.onTables, Cond.keeps, Cond.steady])) hini)
  obtain ⟨hx, hb, hml, ho, -⟩ := S
  obtain ⟨-, ⟨cellB, hcB, hoB, hclB⟩, hPc⟩ := hp
  intro T hT X
  obtain ⟨v, vm₁, ⟨U', l2, c2, s2⟩, hW₁, X', ⟨g', mk, t, L, e1, e2, hq, h1, hL, h2, h3⟩, st⟩ := vx_callVW X hx (C := C) (hh := hh) (bytes := bytes) (maxL := maxL) (ret := ret) ho hl hin hse hcode hy hK (by rw [hT]; exact hcB) hoB hclB hg (hsize.trans hml.symm) (argsL := As) (rest := rest) (fun sig h => hn.trans (hlen sig h)) hstack hW (by rw [hb]; exact hdg)
    (fun vm₁ hW₁ => ⟨hf.1, hf.2, hPc (T.setVm vm₁) hT hW₁⟩)
  dsimp only [Pt.U, Pt.locs, Pt.cells, Pt.slots] at X' e1 e2 h1 h2 h3 st
  subst h1; subst h2; subst h3
  exact ⟨v, (T.setVm vm₁).calling g' mk (Value.ref b :: As).toArray, t, U', L, hT, X', hL, e1, e2, hq, st⟩
section
variable {y : MethodName} {bytes cc : ByteArray} {maxL nL mc ms n index : Nat} {ret : Option FieldType} {ws : List Cond} {rm : Room} {Pc : Array Value → State → Prop} {Qc : Array Value → State → Outcome → State → Prop} {XC : String → State → State → Prop} {free : Addr → Prop} {Ts : List Cond} {own C : String} {b : Addr} {As rest : List Value} {g : JFrame}
theorem vx_runVX {hh : List (Nat × Nat × Nat × Nat)} (S : CallFix p m c cc nL s args Ts own) (hM : vx_Met l y ws rm Pc Qc XC mc ms free) (cw : vx_CVW R s args own C index y bytes maxL ret hh ws rm mc ms n) (hp : PreV s H C b Pc As)
    (hg : g.method = m) (hn : As.length = n) (hsize : g.locals.size = nL) (hstack : g.stack = As.reverse ++ .ref b :: rest) (hW : 2 * g.monitorRoom + (rest.map fun v => v.category).sum ≤ 8) (hdg : decode cc g.pc = .ok (.invokevirtual index, 3)) (hf : cells + mc ≤ R.cells ∧ slots + ms ≤ R.slots) :
    vx_Run p l e R s m args below meth c H locs cells slots mc ms g rest (Qc (Value.ref b :: As).toArray) XC free := by
  obtain ⟨⟨hrc, hrs, hfr, hlo, hws, hcw⟩, hcode, hini, hy, hlen, hl, hin, hse⟩ := cw
  have hK : vx_Back l R p e below s args y 3 8 (PreOf R mc ms Pc) (PostOf Qc mc ms free) (vx_Post XC mc ms free) := vx_backW (hh := hh) (bytes := bytes) (maxL := maxL) (ret := ret) hM hp.1 hrc hrs hfr hlo hws hcw (fun a' U hW => word_at hW (Or.inl (by first | rfl | simp [Cond.onTables, Cond.keeps, Cond.steady])) hini)
  obtain ⟨hx, hb, hml, ho, -⟩ := S
  obtain ⟨-, ⟨cellB, hcB, hoB, hclB⟩, hPc⟩ := hp
  intro T hT X
  rcases vx_callVX X hx (C := C) (hh := hh) (bytes := bytes) (maxL := maxL) (ret := ret) ho hl hin hse hcode hy hK (by rw [hT]; exact hcB) hoB hclB hg (hsize.trans hml.symm) (argsL := As) (rest := rest) (fun sig h => hn.trans (hlen sig h)) hstack hW (by rw [hb]; exact hdg)
    (fun vm₁ hW₁ => ⟨hf.1, hf.2, hPc (T.setVm vm₁) hT hW₁⟩) with ⟨v, vm₁, ⟨U', l2, c2, s2⟩, hW₁, X', ⟨g', mk, t, L, e1, e2, hq, h1, hL, h2, h3⟩, st⟩ | ⟨q, vm₁, ⟨U', l2, c2, s2⟩, hW₁, X', ⟨g', mk, t, L, E, ce, e1, e2, hq, hce, hcv, hcl, h1, hL, h2, h3⟩, st⟩
  · dsimp only [Pt.U, Pt.locs, Pt.cells, Pt.slots] at X' e1 e2 h1 h2 h3 st
    subst h1; subst h2; subst h3
    exact Or.inl ⟨v, (T.setVm vm₁).calling g' mk (Value.ref b :: As).toArray, t, U', L, hT, X', hL, e1, e2, hq, st⟩
  · dsimp only [Pt.U, Pt.locs, Pt.cells, Pt.slots] at X' e1 e2 h1 h2 h3 st hcl
    subst h1; subst h2; subst h3
    exact Or.inr ⟨q, (T.setVm vm₁).calling g' mk (Value.ref b :: As).toArray, t, U', L, E, ce, hT, X', hL, e1, e2, hq, hce, hcv, vx_cls hW₁ hcl, st⟩
theorem vx_runSX {hh : List (Nat × Nat × Nat × Nat)} (S : CallFix p m c cc nL s args Ts own) (hM : vx_Met l y ws rm Pc Qc XC mc ms free) (cw : vx_CSW R s args own index y bytes maxL ret hh ws rm mc ms n) (hp : PreS s H Pc As)
    (hg : g.method = m) (hn : As.length = n) (hsize : g.locals.size = nL) (hstack : g.stack = As.reverse ++ rest) (hW : 2 * g.monitorRoom + (rest.map fun v => v.category).sum ≤ 8) (hdg : decode cc g.pc = .ok (.invokestatic index, 3)) (hf : cells + mc ≤ R.cells ∧ slots + ms ≤ R.slots) :
    vx_Run p l e R s m args below meth c H locs cells slots mc ms g rest (Qc As.toArray) XC free := by
  obtain ⟨⟨hrc, hrs, hfr, hlo, hws, hcw⟩, hcode, hini, hy, hlen, hl, hstt⟩ := cw
  have hK : vx_Back l R p e below s args y 3 8 (PreOf R mc ms Pc) (PostOf Qc mc ms free) (vx_Post XC mc ms free) := vx_backW (hh := hh) (bytes := bytes) (maxL := maxL) (ret := ret) hM hp.1 hrc hrs hfr hlo hws hcw (fun a' U hW => word_at hW (Or.inl (by first | rfl | simp [Cond.onTables, Cond.keeps, Cond.steady])) hini)
  obtain ⟨hx, hb, hml, ho, -⟩ := S
  intro T hT X
  rcases vx_callSX X hx (hh := hh) (bytes := bytes) (maxL := maxL) (ret := ret) ho hl hstt hini hcode hy hK hg (hsize.trans hml.symm) (argsL := As) (rest := rest) (fun sig h => hn.trans (hlen sig h)) hstack hW (by rw [hb]; exact hdg)
    (fun vm₁ hW₁ => ⟨hf.1, hf.2, hp.2 (T.setVm vm₁) hT hW₁⟩) with ⟨v, vm₁, ⟨U', l2, c2, s2⟩, hW₁, X', ⟨g', mk, t, L, e1, e2, hq, h1, hL, h2, h3⟩, st⟩ | ⟨q, vm₁, ⟨U', l2, c2, s2⟩, hW₁, X', ⟨g', mk, t, L, E, ce, e1, e2, hq, hce, hcv, hcl, h1, hL, h2, h3⟩, st⟩
  · dsimp only [Pt.U, Pt.locs, Pt.cells, Pt.slots] at X' e1 e2 h1 h2 h3 st
    subst h1; subst h2; subst h3
    exact Or.inl ⟨v, (T.setVm vm₁).calling g' mk As.toArray, t, U', L, hT, X', hL, e1, e2, hq, st⟩
  · dsimp only [Pt.U, Pt.locs, Pt.cells, Pt.slots] at X' e1 e2 h1 h2 h3 st hcl
    subst h1; subst h2; subst h3
    exact Or.inr ⟨q, (T.setVm vm₁).calling g' mk As.toArray, t, U', L, E, ce, hT, X', hL, e1, e2, hq, hce, hcv, vx_cls hW₁ hcl, st⟩
end
end VXH
theorem vx_ofWH {l : Launch} {y : MethodName} {ws ws' : List Cond} {rm : Room} {Pc : Array Value → State → Prop} {Qc : Array Value → State → Outcome → State → Prop} {XC : String → State → State → Prop} {mc ms : Nat} {free : Addr → Prop} {cc : ByteArray} {maxL : Nat} {ret : Option FieldType} {hh : List (Nat × Nat × Nat × Nat)}
    (hy : plainName y.cls = true) (hw : ws = Cond.codeWith y cc maxL ret hh :: ws')
    (body : ∀ p e s m args below meth c s₁, BodyLoose p l y (headSpec ws rm) cc maxL ret e s m args below meth c s₁ → c.maxLocals = maxL → Pc args s →
      W p l e (headSpec ws rm).room s m args below meth c s.heap [] 0 0 (vx_MQ below Qc XC args s mc ms free) (entryFrame m args maxL)) : vx_Met l y ws rm Pc Qc XC mc ms free := by
  refine MetFree.of_bodyS (code := cc) (maxLocals := maxL) (ret := ret) hy ?_ ?_
  · intro args s m h hn
    obtain ⟨m9, meth, c, hn9, h1, h2, h3, h4, -, h5, h6, -⟩ := Cond.codeWith_spec (atoms_spec (ws := ws) h _ (by rw [hw]; exact List.mem_cons_self))
    cases hn.symm.trans hn9
    exact ⟨meth, c, h1, h2, h3, h4, h5, h6⟩
  · intro p e s m args below meth c s₁ B hml hP _
    have hh0 : s₁.heap = s.heap := by rw [B.state]; rfl
    obtain ⟨t, a1, o, b1, b2, b3⟩ := body p e s m args below meth c s₁ B hml hP s₁ hh0 (Stand.of_body B)
    exact ⟨t, o, a1, b1, b2, b3⟩
/-! ===== END ===== -/
end
section
/-! ===== BEGIN printed: names, fields, word lists, decode rows ===== -/
def RX0 : String := "SleepBorder$Border"
def TX0 : u_T := fun k => match k with
  | 0 => ("SleepBorder$Border", "clock", "I", false)
  | 1 => ("SleepBorder$Border", "expiredCount", "I", false)
  | 2 => ("SleepBorder$Border", "till", "I", false)
  | 3 => ("SleepBorder$Border", "travellerCount", "I", false)
  | 4 => ("SleepBorder$Border", "dreams", "[I", true)
  | 5 => ("SleepBorder$Border", "declared", "[I", true)
  | 6 => ("SleepBorder$Border", "snore", "[I", true)
  | 7 => ("SleepBorder$Border", "lullaby", "[I", true)
  | 8 => ("SleepBorder$Border", "state", "[I", true)
  | 9 => ("SleepBorder$Border", "transitLeft", "[I", true)
  | 10 => ("SleepBorder$Border", "asleepSince", "[I", true)
  | 11 => ("SleepBorder$Border", "guardCount", "I", false)
  | 12 => ("SleepBorder$Border", "alertness", "[I", true)
  | 13 => ("SleepBorder$Border", "searched", "[I", true)
  | _ => ("SleepBorder$Border", "searchLeft", "[I", true)
def tyX0 : Nat → FieldType := fun k => match k with
  | 0 => .int
  | 1 => .int
  | 2 => .int
  | 3 => .int
  | 4 => .array .int
  | 5 => .array .int
  | 6 => .array .int
  | 7 => .array .int
  | 8 => .array .int
  | 9 => .array .int
  | 10 => .array .int
  | 11 => .int
  | 12 => .array .int
  | 13 => .array .int
  | _ => .array .int
abbrev wsX00 : List Cond := u_ws RX0 TX0 15
theorem nmX0 : ∀ a, a < 15 → ∀ b, b < 15 → a ≠ b → (TX0 a).2.1 ≠ (TX0 b).2.1 := by decide +kernel
theorem tyX0_ok : ∀ k, k < 15 → parseFieldDescriptor (TX0 k).2.2.1 = some (tyX0 k) := by decide +kernel
abbrev cX0_init : ByteArray := prog_2_method_1_code
def yX0_init : MethodName := ⟨RX0, "<init>", "()V"⟩
abbrev cX0_become : ByteArray := prog_2_method_2_code
def yX0_become : MethodName := ⟨RX0, "become", "(LSleepBorder$Border;)V"⟩
abbrev cX0_admitGuard : ByteArray := prog_2_method_3_code
def yX0_admitGuard : MethodName := ⟨RX0, "admitGuard", "()V"⟩
abbrev cX0_admitTraveller : ByteArray := prog_2_method_4_code
def yX0_admitTraveller : MethodName := ⟨RX0, "admitTraveller", "(IIII)V"⟩
abbrev cX0_isTraveller : ByteArray := prog_2_method_5_code
def yX0_isTraveller : MethodName := ⟨RX0, "isTraveller", "(I)Z"⟩
abbrev cX0_isGuard : ByteArray := prog_2_method_6_code
def yX0_isGuard : MethodName := ⟨RX0, "isGuard", "(I)Z"⟩
abbrev cX0_countIn : ByteArray := prog_2_method_7_code
def yX0_countIn : MethodName := ⟨RX0, "countIn", "(I)I"⟩
abbrev cX0_waitingAhead : ByteArray := prog_2_method_8_code
def yX0_waitingAhead : MethodName := ⟨RX0, "waitingAhead", "(I)I"⟩
abbrev cX0_firstWaiting : ByteArray := prog_2_method_9_code
def yX0_firstWaiting : MethodName := ⟨RX0, "firstWaiting", "()I"⟩
abbrev cX0_addedSnores : ByteArray := prog_2_method_10_code
def yX0_addedSnores : MethodName := ⟨RX0, "addedSnores", "()I"⟩
abbrev cX0_hiddenDreams : ByteArray := prog_2_method_11_code
def yX0_hiddenDreams : MethodName := ⟨RX0, "hiddenDreams", "(I)I"⟩
abbrev cX0_searchMinutes : ByteArray := prog_2_method_12_code
def yX0_searchMinutes : MethodName := ⟨RX0, "searchMinutes", "(I)I"⟩
abbrev cX0_finds : ByteArray := prog_2_method_13_code
def yX0_finds : MethodName := ⟨RX0, "finds", "(II)Z"⟩
abbrev cX0_goOn : ByteArray := prog_2_method_14_code
def yX0_goOn : MethodName := ⟨RX0, "goOn", "(I)V"⟩
abbrev cX0_isSettled : ByteArray := prog_2_method_15_code
def yX0_isSettled : MethodName := ⟨RX0, "isSettled", "()Z"⟩
abbrev cX0_goOneMinute : ByteArray := prog_2_method_16_code
def yX0_goOneMinute : MethodName := ⟨RX0, "goOneMinute", "()V"⟩
abbrev cX0_advanceTransits : ByteArray := prog_2_method_17_code
def yX0_advanceTransits : MethodName := ⟨RX0, "advanceTransits", "()V"⟩
abbrev cX0_shortenLullabies : ByteArray := prog_2_method_18_code
def yX0_shortenLullabies : MethodName := ⟨RX0, "shortenLullabies", "()V"⟩
abbrev cX0_work : ByteArray := prog_2_method_19_code
def yX0_work : MethodName := ⟨RX0, "work", "(I)V"⟩
abbrev cX0_beginSearch : ByteArray := prog_2_method_20_code
def yX0_beginSearch : MethodName := ⟨RX0, "beginSearch", "(II)V"⟩
abbrev cX0_searchOn : ByteArray := prog_2_method_21_code
def yX0_searchOn : MethodName := ⟨RX0, "searchOn", "(II)V"⟩
def RX1 : String := "SleepBorder"
def TX1 : u_T := fun k => match k with
  | 0 => ("SleepBorder", "now", "LSleepBorder$Border;", true)
  | _ => ("SleepBorder", "trial", "LSleepBorder$Border;", true)
def tyX1 : Nat → FieldType := fun k => match k with
  | 0 => .object "SleepBorder$Border"
  | _ => .object "SleepBorder$Border"
abbrev wsX10 : List Cond := u_ws RX1 TX1 2
theorem nmX1 : ∀ a, a < 2 → ∀ b, b < 2 → a ≠ b → (TX1 a).2.1 ≠ (TX1 b).2.1 := by decide +kernel
theorem tyX1_ok : ∀ k, k < 2 → parseFieldDescriptor (TX1 k).2.2.1 = some (tyX1 k) := by decide +kernel
abbrev cX1_init : ByteArray := prog_1_method_1_code
def yX1_init : MethodName := ⟨RX1, "<init>", "()V"⟩
abbrev cX1_addGuard : ByteArray := prog_1_method_2_code
def yX1_addGuard : MethodName := ⟨RX1, "addGuard", "()I"⟩
abbrev cX1_arrive : ByteArray := prog_1_method_3_code
def yX1_arrive : MethodName := ⟨RX1, "arrive", "(IIII)I"⟩
abbrev cX1_declare : ByteArray := prog_1_method_4_code
def yX1_declare : MethodName := ⟨RX1, "declare", "(II)I"⟩
abbrev cX1_sing : ByteArray := prog_1_method_5_code
def yX1_sing : MethodName := ⟨RX1, "sing", "(II)I"⟩
abbrev cX1_wake : ByteArray := prog_1_method_6_code
def yX1_wake : MethodName := ⟨RX1, "wake", "(I)I"⟩
abbrev cX1_pass : ByteArray := prog_1_method_7_code
def yX1_pass : MethodName := ⟨RX1, "pass", "(I)I"⟩
abbrev cX1_minute : ByteArray := prog_1_method_8_code
def yX1_minute : MethodName := ⟨RX1, "minute", "()I"⟩
abbrev cX1_travellers : ByteArray := prog_1_method_9_code
def yX1_travellers : MethodName := ⟨RX1, "travellers", "()I"⟩
abbrev cX1_waiting : ByteArray := prog_1_method_10_code
def yX1_waiting : MethodName := ⟨RX1, "waiting", "()I"⟩
abbrev cX1_asleep : ByteArray := prog_1_method_11_code
def yX1_asleep : MethodName := ⟨RX1, "asleep", "()I"⟩
abbrev cX1_sentBack : ByteArray := prog_1_method_12_code
def yX1_sentBack : MethodName := ⟨RX1, "sentBack", "()I"⟩
abbrev cX1_expired : ByteArray := prog_1_method_13_code
def yX1_expired : MethodName := ⟨RX1, "expired", "()I"⟩
abbrev cX1_paid : ByteArray := prog_1_method_14_code
def yX1_paid : MethodName := ⟨RX1, "paid", "()I"⟩
abbrev cX1_noise : ByteArray := prog_1_method_15_code
def yX1_noise : MethodName := ⟨RX1, "noise", "()I"⟩
abbrev cX1_nextInLine : ByteArray := prog_1_method_16_code
def yX1_nextInLine : MethodName := ⟨RX1, "nextInLine", "()I"⟩
abbrev cX1_stateOf : ByteArray := prog_1_method_17_code
def yX1_stateOf : MethodName := ⟨RX1, "stateOf", "(I)I"⟩
abbrev cX1_hiddenOf : ByteArray := prog_1_method_18_code
def yX1_hiddenOf : MethodName := ⟨RX1, "hiddenOf", "(I)I"⟩
abbrev cX1_lullabyOf : ByteArray := prog_1_method_19_code
def yX1_lullabyOf : MethodName := ⟨RX1, "lullabyOf", "(I)I"⟩
abbrev cX1_placeInLine : ByteArray := prog_1_method_20_code
def yX1_placeInLine : MethodName := ⟨RX1, "placeInLine", "(I)I"⟩
abbrev cX1_searchTime : ByteArray := prog_1_method_21_code
def yX1_searchTime : MethodName := ⟨RX1, "searchTime", "(I)I"⟩
abbrev cX1_guards : ByteArray := prog_1_method_22_code
def yX1_guards : MethodName := ⟨RX1, "guards", "()I"⟩
abbrev cX1_alertnessOf : ByteArray := prog_1_method_23_code
def yX1_alertnessOf : MethodName := ⟨RX1, "alertnessOf", "(I)I"⟩
abbrev cX1_searches : ByteArray := prog_1_method_24_code
def yX1_searches : MethodName := ⟨RX1, "searches", "(I)I"⟩
abbrev cX1_minutesToGo : ByteArray := prog_1_method_25_code
def yX1_minutesToGo : MethodName := ⟨RX1, "minutesToGo", "(I)I"⟩
abbrev cX1_wouldFind : ByteArray := prog_1_method_26_code
def yX1_wouldFind : MethodName := ⟨RX1, "wouldFind", "(II)Z"⟩
abbrev cX1_mostAlert : ByteArray := prog_1_method_27_code
def yX1_mostAlert : MethodName := ⟨RX1, "mostAlert", "()I"⟩
abbrev cX1_minutesUntilAsleep : ByteArray := prog_1_method_28_code
def yX1_minutesUntilAsleep : MethodName := ⟨RX1, "minutesUntilAsleep", "(I)I"⟩
abbrev cX1_asleepIn : ByteArray := prog_1_method_29_code
def yX1_asleepIn : MethodName := ⟨RX1, "asleepIn", "(I)I"⟩
abbrev cX1_bestToDeclare : ByteArray := prog_1_method_30_code
def yX1_bestToDeclare : MethodName := ⟨RX1, "bestToDeclare", "(I)I"⟩
abbrev cX1_guardsWanted : ByteArray := prog_1_method_31_code
def yX1_guardsWanted : MethodName := ⟨RX1, "guardsWanted", "()I"⟩
abbrev cX1_meanAlertness : ByteArray := prog_1_method_32_code
def yX1_meanAlertness : MethodName := ⟨RX1, "meanAlertness", "()D"⟩
abbrev cX1_digest : ByteArray := prog_1_method_33_code
def yX1_digest : MethodName := ⟨RX1, "digest", "()J"⟩
abbrev cX1_mixTravellers : ByteArray := prog_1_method_34_code
def yX1_mixTravellers : MethodName := ⟨RX1, "mixTravellers", "(J)J"⟩
abbrev cX1_mixGuards : ByteArray := prog_1_method_35_code
def yX1_mixGuards : MethodName := ⟨RX1, "mixGuards", "(J)J"⟩
abbrev cX1_mix : ByteArray := prog_1_method_36_code
def yX1_mix : MethodName := ⟨RX1, "mix", "(JI)J"⟩
abbrev cX1_foreseenSleep : ByteArray := prog_1_method_37_code
def yX1_foreseenSleep : MethodName := ⟨RX1, "foreseenSleep", "(I)I"⟩
abbrev cX1_requireTraveller : ByteArray := prog_1_method_38_code
def yX1_requireTraveller : MethodName := ⟨RX1, "requireTraveller", "(I)V"⟩
abbrev cX1_requireGuard : ByteArray := prog_1_method_39_code
def yX1_requireGuard : MethodName := ⟨RX1, "requireGuard", "(I)V"⟩
abbrev cX1_requireDigit : ByteArray := prog_1_method_40_code
def yX1_requireDigit : MethodName := ⟨RX1, "requireDigit", "(I)V"⟩
abbrev cX1_requireMinutes : ByteArray := prog_1_method_41_code
def yX1_requireMinutes : MethodName := ⟨RX1, "requireMinutes", "(I)V"⟩
abbrev cX1_requireWaiting : ByteArray := prog_1_method_42_code
def yX1_requireWaiting : MethodName := ⟨RX1, "requireWaiting", "(I)V"⟩
def RX2 : String := "SleepBorderModel"
def TX2 : u_T := fun k => match k with
  | 0 => ("SleepBorderModel", "thrown", "I", false)
  | 1 => ("SleepBorderModel", "travellers", "I", false)
  | 2 => ("SleepBorderModel", "dreams", "[I", true)
  | 3 => ("SleepBorderModel", "snore", "[I", true)
  | 4 => ("SleepBorderModel", "now", "[I", true)
  | 5 => ("SleepBorderModel", "kept", "[I", true)
  | _ => ("SleepBorderModel", "free", "[Z", true)
def tyX2 : Nat → FieldType := fun k => match k with
  | 0 => .int
  | 1 => .int
  | 2 => .array .int
  | 3 => .array .int
  | 4 => .array .int
  | 5 => .array .int
  | _ => .array .boolean
abbrev wsX20 : List Cond := u_ws RX2 TX2 7
theorem nmX2 : ∀ a, a < 7 → ∀ b, b < 7 → a ≠ b → (TX2 a).2.1 ≠ (TX2 b).2.1 := by decide +kernel
theorem tyX2_ok : ∀ k, k < 7 → parseFieldDescriptor (TX2 k).2.2.1 = some (tyX2 k) := by decide +kernel
abbrev cX2_init : ByteArray := prog_4_method_1_code
def yX2_init : MethodName := ⟨RX2, "<init>", "()V"⟩
abbrev cX2_thrown : ByteArray := prog_4_method_2_code
def yX2_thrown : MethodName := ⟨RX2, "thrown", "()I"⟩
abbrev cX2_fail : ByteArray := prog_4_method_3_code
def yX2_fail : MethodName := ⟨RX2, "fail", "(I)I"⟩
abbrev cX2_told : ByteArray := prog_4_method_4_code
def yX2_told : MethodName := ⟨RX2, "told", "(I)I"⟩
abbrev cX2_isIn : ByteArray := prog_4_method_5_code
def yX2_isIn : MethodName := ⟨RX2, "isIn", "(III)Z"⟩
abbrev cX2_isTraveller : ByteArray := prog_4_method_6_code
def yX2_isTraveller : MethodName := ⟨RX2, "isTraveller", "(I)Z"⟩
abbrev cX2_isGuard : ByteArray := prog_4_method_7_code
def yX2_isGuard : MethodName := ⟨RX2, "isGuard", "(I)Z"⟩
abbrev cX2_tr : ByteArray := prog_4_method_8_code
def yX2_tr : MethodName := ⟨RX2, "tr", "(II)I"⟩
abbrev cX2_let : ByteArray := prog_4_method_9_code
def yX2_let : MethodName := ⟨RX2, "let", "(III)V"⟩
abbrev cX2_gu : ByteArray := prog_4_method_10_code
def yX2_gu : MethodName := ⟨RX2, "gu", "(II)I"⟩
abbrev cX2_post : ByteArray := prog_4_method_11_code
def yX2_post : MethodName := ⟨RX2, "post", "(III)V"⟩
abbrev cX2_keep : ByteArray := prog_4_method_12_code
def yX2_keep : MethodName := ⟨RX2, "keep", "()V"⟩
abbrev cX2_bringBack : ByteArray := prog_4_method_13_code
def yX2_bringBack : MethodName := ⟨RX2, "bringBack", "()V"⟩
abbrev cX2_count : ByteArray := prog_4_method_14_code
def yX2_count : MethodName := ⟨RX2, "count", "(I)I"⟩
abbrev cX2_loud : ByteArray := prog_4_method_15_code
def yX2_loud : MethodName := ⟨RX2, "loud", "()I"⟩
abbrev cX2_hidden : ByteArray := prog_4_method_16_code
def yX2_hidden : MethodName := ⟨RX2, "hidden", "(I)I"⟩
abbrev cX2_finds : ByteArray := prog_4_method_17_code
def yX2_finds : MethodName := ⟨RX2, "finds", "(II)Z"⟩
abbrev cX2_takes : ByteArray := prog_4_method_18_code
def yX2_takes : MethodName := ⟨RX2, "takes", "(I)I"⟩
abbrev cX2_first : ByteArray := prog_4_method_19_code
def yX2_first : MethodName := ⟨RX2, "first", "()I"⟩
abbrev cX2_travel : ByteArray := prog_4_method_20_code
def yX2_travel : MethodName := ⟨RX2, "travel", "(I)V"⟩
abbrev cX2_listen : ByteArray := prog_4_method_21_code
def yX2_listen : MethodName := ⟨RX2, "listen", "(I)V"⟩
abbrev cX2_searchOn : ByteArray := prog_4_method_22_code
def yX2_searchOn : MethodName := ⟨RX2, "searchOn", "(I)V"⟩
abbrev cX2_begin : ByteArray := prog_4_method_23_code
def yX2_begin : MethodName := ⟨RX2, "begin", "(I)V"⟩
abbrev cX2_minuteOn : ByteArray := prog_4_method_24_code
def yX2_minuteOn : MethodName := ⟨RX2, "minuteOn", "()V"⟩
abbrev cX2_minutesOn : ByteArray := prog_4_method_25_code
def yX2_minutesOn : MethodName := ⟨RX2, "minutesOn", "(I)V"⟩
abbrev cX2_hire : ByteArray := prog_4_method_26_code
def yX2_hire : MethodName := ⟨RX2, "hire", "()V"⟩
abbrev cX2_addGuard : ByteArray := prog_4_method_27_code
def yX2_addGuard : MethodName := ⟨RX2, "addGuard", "()I"⟩
abbrev cX2_arrive : ByteArray := prog_4_method_28_code
def yX2_arrive : MethodName := ⟨RX2, "arrive", "(IIII)I"⟩
abbrev cX2_write : ByteArray := prog_4_method_29_code
def yX2_write : MethodName := ⟨RX2, "write", "(IIIII)I"⟩
abbrev cX2_declare : ByteArray := prog_4_method_30_code
def yX2_declare : MethodName := ⟨RX2, "declare", "(II)I"⟩
abbrev cX2_sing : ByteArray := prog_4_method_31_code
def yX2_sing : MethodName := ⟨RX2, "sing", "(II)I"⟩
abbrev cX2_wake : ByteArray := prog_4_method_32_code
def yX2_wake : MethodName := ⟨RX2, "wake", "(I)I"⟩
abbrev cX2_pass : ByteArray := prog_4_method_33_code
def yX2_pass : MethodName := ⟨RX2, "pass", "(I)I"⟩
abbrev cX2_minute : ByteArray := prog_4_method_34_code
def yX2_minute : MethodName := ⟨RX2, "minute", "()I"⟩
abbrev cX2_travellers : ByteArray := prog_4_method_35_code
def yX2_travellers : MethodName := ⟨RX2, "travellers", "()I"⟩
abbrev cX2_waiting : ByteArray := prog_4_method_36_code
def yX2_waiting : MethodName := ⟨RX2, "waiting", "()I"⟩
abbrev cX2_asleep : ByteArray := prog_4_method_37_code
def yX2_asleep : MethodName := ⟨RX2, "asleep", "()I"⟩
abbrev cX2_sentBack : ByteArray := prog_4_method_38_code
def yX2_sentBack : MethodName := ⟨RX2, "sentBack", "()I"⟩
abbrev cX2_expired : ByteArray := prog_4_method_39_code
def yX2_expired : MethodName := ⟨RX2, "expired", "()I"⟩
abbrev cX2_paid : ByteArray := prog_4_method_40_code
def yX2_paid : MethodName := ⟨RX2, "paid", "()I"⟩
abbrev cX2_noise : ByteArray := prog_4_method_41_code
def yX2_noise : MethodName := ⟨RX2, "noise", "()I"⟩
abbrev cX2_nextInLine : ByteArray := prog_4_method_42_code
def yX2_nextInLine : MethodName := ⟨RX2, "nextInLine", "()I"⟩
abbrev cX2_stateOf : ByteArray := prog_4_method_43_code
def yX2_stateOf : MethodName := ⟨RX2, "stateOf", "(I)I"⟩
abbrev cX2_hiddenOf : ByteArray := prog_4_method_44_code
def yX2_hiddenOf : MethodName := ⟨RX2, "hiddenOf", "(I)I"⟩
abbrev cX2_lullabyOf : ByteArray := prog_4_method_45_code
def yX2_lullabyOf : MethodName := ⟨RX2, "lullabyOf", "(I)I"⟩
abbrev cX2_place : ByteArray := prog_4_method_46_code
def yX2_place : MethodName := ⟨RX2, "place", "(I)I"⟩
abbrev cX2_placeInLine : ByteArray := prog_4_method_47_code
def yX2_placeInLine : MethodName := ⟨RX2, "placeInLine", "(I)I"⟩
abbrev cX2_searchTime : ByteArray := prog_4_method_48_code
def yX2_searchTime : MethodName := ⟨RX2, "searchTime", "(I)I"⟩
abbrev cX2_guards : ByteArray := prog_4_method_49_code
def yX2_guards : MethodName := ⟨RX2, "guards", "()I"⟩
abbrev cX2_guard : ByteArray := prog_4_method_50_code
def yX2_guard : MethodName := ⟨RX2, "guard", "(II)I"⟩
abbrev cX2_alertnessOf : ByteArray := prog_4_method_51_code
def yX2_alertnessOf : MethodName := ⟨RX2, "alertnessOf", "(I)I"⟩
abbrev cX2_searches : ByteArray := prog_4_method_52_code
def yX2_searches : MethodName := ⟨RX2, "searches", "(I)I"⟩
abbrev cX2_minutesToGo : ByteArray := prog_4_method_53_code
def yX2_minutesToGo : MethodName := ⟨RX2, "minutesToGo", "(I)I"⟩
abbrev cX2_wouldFind : ByteArray := prog_4_method_54_code
def yX2_wouldFind : MethodName := ⟨RX2, "wouldFind", "(II)Z"⟩
abbrev cX2_alertest : ByteArray := prog_4_method_55_code
def yX2_alertest : MethodName := ⟨RX2, "alertest", "()I"⟩
abbrev cX2_mostAlert : ByteArray := prog_4_method_56_code
def yX2_mostAlert : MethodName := ⟨RX2, "mostAlert", "()I"⟩
abbrev cX2_run : ByteArray := prog_4_method_57_code
def yX2_run : MethodName := ⟨RX2, "run", "(I)I"⟩
abbrev cX2_until : ByteArray := prog_4_method_58_code
def yX2_until : MethodName := ⟨RX2, "until", "(I)I"⟩
abbrev cX2_minutesUntilAsleep : ByteArray := prog_4_method_59_code
def yX2_minutesUntilAsleep : MethodName := ⟨RX2, "minutesUntilAsleep", "(I)I"⟩
abbrev cX2_sleepers : ByteArray := prog_4_method_60_code
def yX2_sleepers : MethodName := ⟨RX2, "sleepers", "(I)I"⟩
abbrev cX2_asleepIn : ByteArray := prog_4_method_61_code
def yX2_asleepIn : MethodName := ⟨RX2, "asleepIn", "(I)I"⟩
abbrev cX2_bestToDeclare : ByteArray := prog_4_method_62_code
def yX2_bestToDeclare : MethodName := ⟨RX2, "bestToDeclare", "(I)I"⟩
abbrev cX2_wanted : ByteArray := prog_4_method_63_code
def yX2_wanted : MethodName := ⟨RX2, "wanted", "()I"⟩
abbrev cX2_guardsWanted : ByteArray := prog_4_method_64_code
def yX2_guardsWanted : MethodName := ⟨RX2, "guardsWanted", "()I"⟩
abbrev cX2_meanAlertness : ByteArray := prog_4_method_65_code
def yX2_meanAlertness : MethodName := ⟨RX2, "meanAlertness", "()D"⟩
abbrev cX2_digest : ByteArray := prog_4_method_66_code
def yX2_digest : MethodName := ⟨RX2, "digest", "()J"⟩
def RJ9 : String := "java/lang/Math"
def TJ9 : u_T := fun k => match k with
  | _ => ("", "", "", false)
def tyJ9 : Nat → FieldType := fun k => match k with
  | _ => .int
abbrev wsJ90 : List Cond := u_ws RJ9 TJ9 0
theorem nmJ9 : ∀ a, a < 0 → ∀ b, b < 0 → a ≠ b → (TJ9 a).2.1 ≠ (TJ9 b).2.1 := by decide +kernel
theorem tyJ9_ok : ∀ k, k < 0 → parseFieldDescriptor (TJ9 k).2.2.1 = some (tyJ9 k) := by decide +kernel
abbrev cJ9_max_7cf53 : ByteArray := prog_9_method_65_code
def yJ9_max_7cf53 : MethodName := ⟨RJ9, "max", "(II)I"⟩
abbrev cJ9_min_7cf53 : ByteArray := prog_9_method_69_code
def yJ9_min_7cf53 : MethodName := ⟨RJ9, "min", "(II)I"⟩
def RJ0 : String := "java/lang/String"
def TJ0 : u_T := fun k => match k with
  | _ => ("", "", "", false)
def tyJ0 : Nat → FieldType := fun k => match k with
  | _ => .int
abbrev wsJ00 : List Cond := u_ws RJ0 TJ0 0
theorem nmJ0 : ∀ a, a < 0 → ∀ b, b < 0 → a ≠ b → (TJ0 a).2.1 ≠ (TJ0 b).2.1 := by decide +kernel
theorem tyJ0_ok : ∀ k, k < 0 → parseFieldDescriptor (TJ0 k).2.2.1 = some (tyJ0 k) := by decide +kernel
def RJ10 : String := "java/lang/System"
def TJ10 : u_T := fun k => match k with
  | _ => ("", "", "", false)
def tyJ10 : Nat → FieldType := fun k => match k with
  | _ => .int
abbrev wsJ100 : List Cond := u_ws RJ10 TJ10 0
theorem nmJ10 : ∀ a, a < 0 → ∀ b, b < 0 → a ≠ b → (TJ10 a).2.1 ≠ (TJ10 b).2.1 := by decide +kernel
theorem tyJ10_ok : ∀ k, k < 0 → parseFieldDescriptor (TJ10 k).2.2.1 = some (tyJ10 k) := by decide +kernel
def RL : String := "SleepBorderLaw"
abbrev cL_addGuard : ByteArray := method_3_code
def yL_addGuard : MethodName := ⟨RL, "addGuard", "(LSleepBorder;[J)I"⟩
abbrev cL_arrive : ByteArray := method_4_code
def yL_arrive : MethodName := ⟨RL, "arrive", "(LSleepBorder;IIII[J)I"⟩
abbrev cL_declare : ByteArray := method_5_code
def yL_declare : MethodName := ⟨RL, "declare", "(LSleepBorder;II[J)I"⟩
abbrev cL_sing : ByteArray := method_6_code
def yL_sing : MethodName := ⟨RL, "sing", "(LSleepBorder;II[J)I"⟩
abbrev cL_wake : ByteArray := method_7_code
def yL_wake : MethodName := ⟨RL, "wake", "(LSleepBorder;I[J)I"⟩
abbrev cL_pass : ByteArray := method_8_code
def yL_pass : MethodName := ⟨RL, "pass", "(LSleepBorder;I[J)I"⟩
abbrev cL_stateOf : ByteArray := method_9_code
def yL_stateOf : MethodName := ⟨RL, "stateOf", "(LSleepBorder;I[J)I"⟩
abbrev cL_hiddenOf : ByteArray := method_10_code
def yL_hiddenOf : MethodName := ⟨RL, "hiddenOf", "(LSleepBorder;I[J)I"⟩
abbrev cL_lullabyOf : ByteArray := method_11_code
def yL_lullabyOf : MethodName := ⟨RL, "lullabyOf", "(LSleepBorder;I[J)I"⟩
abbrev cL_placeInLine : ByteArray := method_12_code
def yL_placeInLine : MethodName := ⟨RL, "placeInLine", "(LSleepBorder;I[J)I"⟩
abbrev cL_searchTime : ByteArray := method_13_code
def yL_searchTime : MethodName := ⟨RL, "searchTime", "(LSleepBorder;I[J)I"⟩
abbrev cL_alertnessOf : ByteArray := method_14_code
def yL_alertnessOf : MethodName := ⟨RL, "alertnessOf", "(LSleepBorder;I[J)I"⟩
abbrev cL_searches : ByteArray := method_15_code
def yL_searches : MethodName := ⟨RL, "searches", "(LSleepBorder;I[J)I"⟩
abbrev cL_minutesToGo : ByteArray := method_16_code
def yL_minutesToGo : MethodName := ⟨RL, "minutesToGo", "(LSleepBorder;I[J)I"⟩
abbrev cL_wouldFind : ByteArray := method_17_code
def yL_wouldFind : MethodName := ⟨RL, "wouldFind", "(LSleepBorder;II[J)I"⟩
abbrev cL_minutesUntilAsleep : ByteArray := method_18_code
def yL_minutesUntilAsleep : MethodName := ⟨RL, "minutesUntilAsleep", "(LSleepBorder;I[J)I"⟩
abbrev cL_asleepIn : ByteArray := method_19_code
def yL_asleepIn : MethodName := ⟨RL, "asleepIn", "(LSleepBorder;I[J)I"⟩
abbrev cL_bestToDeclare : ByteArray := method_20_code
def yL_bestToDeclare : MethodName := ⟨RL, "bestToDeclare", "(LSleepBorder;I[J)I"⟩
abbrev cL_law : ByteArray := code
def yL_law : MethodName := ⟨RL, "law", "([I)Z"⟩
def wsX0_init : List Cond := .code yX0_init cX0_init 1 none :: ([.methodLink RX0 3 objectInit, .instanceMethod objectInit, .code objectInit ⟨#[0xb1]⟩ 1 none, .fieldLink RX0 9 "SleepBorder$Border" "clock" "I", .fieldLink RX0 15 "SleepBorder$Border" "expiredCount" "I", .fieldLink RX0 18 "SleepBorder$Border" "till" "I", .fieldLink RX0 21 "SleepBorder$Border" "travellerCount" "I", .arrayClass .int, .fieldLink RX0 24 "SleepBorder$Border" "dreams" "[I", .fieldLink RX0 28 "SleepBorder$Border" "declared" "[I", .fieldLink RX0 31 "SleepBorder$Border" "snore" "[I", .fieldLink RX0 34 "SleepBorder$Border" "lullaby" "[I", .fieldLink RX0 37 "SleepBorder$Border" "state" "[I", .fieldLink RX0 40 "SleepBorder$Border" "transitLeft" "[I", .fieldLink RX0 43 "SleepBorder$Border" "asleepSince" "[I", .fieldLink RX0 46 "SleepBorder$Border" "guardCount" "I", .fieldLink RX0 49 "SleepBorder$Border" "alertness" "[I", .fieldLink RX0 52 "SleepBorder$Border" "searched" "[I", .fieldLink RX0 55 "SleepBorder$Border" "searchLeft" "[I"] ++ wsX00)
def wsX0_become : List Cond := .code yX0_become cX0_become 3 none :: ([.fieldLink RX0 9 "SleepBorder$Border" "clock" "I", .fieldLink RX0 15 "SleepBorder$Border" "expiredCount" "I", .fieldLink RX0 18 "SleepBorder$Border" "till" "I", .fieldLink RX0 21 "SleepBorder$Border" "travellerCount" "I", .fieldLink RX0 24 "SleepBorder$Border" "dreams" "[I", .fieldLink RX0 28 "SleepBorder$Border" "declared" "[I", .fieldLink RX0 31 "SleepBorder$Border" "snore" "[I", .fieldLink RX0 34 "SleepBorder$Border" "lullaby" "[I", .fieldLink RX0 37 "SleepBorder$Border" "state" "[I", .fieldLink RX0 40 "SleepBorder$Border" "transitLeft" "[I", .fieldLink RX0 43 "SleepBorder$Border" "asleepSince" "[I", .fieldLink RX0 46 "SleepBorder$Border" "guardCount" "I", .fieldLink RX0 49 "SleepBorder$Border" "alertness" "[I", .fieldLink RX0 52 "SleepBorder$Border" "searched" "[I", .fieldLink RX0 55 "SleepBorder$Border" "searchLeft" "[I"] ++ wsX00)
def wsX0_admitGuard : List Cond := .code yX0_admitGuard cX0_admitGuard 1 none :: ([.fieldLink RX0 46 "SleepBorder$Border" "guardCount" "I", .fieldLink RX0 49 "SleepBorder$Border" "alertness" "[I", .fieldLink RX0 52 "SleepBorder$Border" "searched" "[I", .fieldLink RX0 55 "SleepBorder$Border" "searchLeft" "[I"] ++ wsX00)
def wsX0_admitTraveller : List Cond := .code yX0_admitTraveller cX0_admitTraveller 5 none :: ([.fieldLink RX0 21 "SleepBorder$Border" "travellerCount" "I", .fieldLink RX0 24 "SleepBorder$Border" "dreams" "[I", .fieldLink RX0 28 "SleepBorder$Border" "declared" "[I", .fieldLink RX0 31 "SleepBorder$Border" "snore" "[I", .fieldLink RX0 34 "SleepBorder$Border" "lullaby" "[I", .fieldLink RX0 37 "SleepBorder$Border" "state" "[I"] ++ wsX00)
def wsX0_isTraveller : List Cond := .code yX0_isTraveller cX0_isTraveller 2 (some .boolean) :: ([.fieldLink RX0 21 "SleepBorder$Border" "travellerCount" "I"] ++ wsX00)
def wsX0_isGuard : List Cond := .code yX0_isGuard cX0_isGuard 2 (some .boolean) :: ([.fieldLink RX0 46 "SleepBorder$Border" "guardCount" "I"] ++ wsX00)
def wsX0_countIn : List Cond := .code yX0_countIn cX0_countIn 4 (some .int) :: ([.fieldLink RX0 21 "SleepBorder$Border" "travellerCount" "I", .fieldLink RX0 37 "SleepBorder$Border" "state" "[I"] ++ wsX00)
def wsX0_waitingAhead : List Cond := .code yX0_waitingAhead cX0_waitingAhead 4 (some .int) :: ([.fieldLink RX0 21 "SleepBorder$Border" "travellerCount" "I", .fieldLink RX0 37 "SleepBorder$Border" "state" "[I"] ++ wsX00)
def wsX0_firstWaiting : List Cond := .code yX0_firstWaiting cX0_firstWaiting 2 (some .int) :: ([.fieldLink RX0 21 "SleepBorder$Border" "travellerCount" "I", .fieldLink RX0 37 "SleepBorder$Border" "state" "[I"] ++ wsX00)
def wsX0_addedSnores : List Cond := .code yX0_addedSnores cX0_addedSnores 3 (some .int) :: ([.fieldLink RX0 21 "SleepBorder$Border" "travellerCount" "I", .fieldLink RX0 37 "SleepBorder$Border" "state" "[I", .fieldLink RX0 31 "SleepBorder$Border" "snore" "[I"] ++ wsX00)
def wsX0_hiddenDreams : List Cond := .code yX0_hiddenDreams cX0_hiddenDreams 2 (some .int) :: ([.fieldLink RX0 24 "SleepBorder$Border" "dreams" "[I", .fieldLink RX0 28 "SleepBorder$Border" "declared" "[I", .methodLink RX0 58 Lib.Math.max.name, .static Lib.Math.max.name, .initialized "java/lang/Math", .code Lib.Math.max.name Lib.Math.max.code 2 (some .int)] ++ wsX00)
def wsX0_searchMinutes : List Cond := .code yX0_searchMinutes cX0_searchMinutes 2 (some .int) :: ([.fieldLink RX0 28 "SleepBorder$Border" "declared" "[I", .methodLink RX0 64 yX0_addedSnores, .instanceMethod yX0_addedSnores, .selects RX0 yX0_addedSnores yX0_addedSnores, .initialized RX0, .code yX0_addedSnores cX0_addedSnores 3 (some .int), .fieldLink RX0 21 "SleepBorder$Border" "travellerCount" "I", .fieldLink RX0 37 "SleepBorder$Border" "state" "[I", .fieldLink RX0 31 "SleepBorder$Border" "snore" "[I"] ++ wsX00)
def wsX0_finds : List Cond := .code yX0_finds cX0_finds 4 (some .boolean) :: ([.fieldLink RX0 49 "SleepBorder$Border" "alertness" "[I", .methodLink RX0 68 yX0_hiddenDreams, .instanceMethod yX0_hiddenDreams, .selects RX0 yX0_hiddenDreams yX0_hiddenDreams, .initialized RX0, .code yX0_hiddenDreams cX0_hiddenDreams 2 (some .int), .fieldLink RX0 24 "SleepBorder$Border" "dreams" "[I", .fieldLink RX0 28 "SleepBorder$Border" "declared" "[I", .methodLink RX0 58 Lib.Math.max.name, .static Lib.Math.max.name, .initialized "java/lang/Math", .code Lib.Math.max.name Lib.Math.max.code 2 (some .int)] ++ wsX00)
def wsX0_isSettled : List Cond := .code yX0_isSettled cX0_isSettled 2 (some .boolean) :: ([.fieldLink RX0 21 "SleepBorder$Border" "travellerCount" "I", .fieldLink RX0 37 "SleepBorder$Border" "state" "[I"] ++ wsX00)
def wsX0_advanceTransits : List Cond := .code yX0_advanceTransits cX0_advanceTransits 2 none :: ([.fieldLink RX0 21 "SleepBorder$Border" "travellerCount" "I", .fieldLink RX0 37 "SleepBorder$Border" "state" "[I", .fieldLink RX0 40 "SleepBorder$Border" "transitLeft" "[I", .fieldLink RX0 43 "SleepBorder$Border" "asleepSince" "[I", .fieldLink RX0 9 "SleepBorder$Border" "clock" "I"] ++ wsX00)
def wsX0_shortenLullabies : List Cond := .code yX0_shortenLullabies cX0_shortenLullabies 2 none :: ([.fieldLink RX0 21 "SleepBorder$Border" "travellerCount" "I", .fieldLink RX0 37 "SleepBorder$Border" "state" "[I", .fieldLink RX0 34 "SleepBorder$Border" "lullaby" "[I", .fieldLink RX0 15 "SleepBorder$Border" "expiredCount" "I"] ++ wsX00)
def wsX0_searchOn : List Cond := .code yX0_searchOn cX0_searchOn 3 none :: ([.fieldLink RX0 55 "SleepBorder$Border" "searchLeft" "[I", .fieldLink RX0 18 "SleepBorder$Border" "till" "I", .fieldLink RX0 37 "SleepBorder$Border" "state" "[I", .fieldLink RX0 40 "SleepBorder$Border" "transitLeft" "[I", .fieldLink RX0 52 "SleepBorder$Border" "searched" "[I", .fieldLink RX0 49 "SleepBorder$Border" "alertness" "[I", .methodLink RX0 58 Lib.Math.max.name, .static Lib.Math.max.name, .initialized "java/lang/Math", .code Lib.Math.max.name Lib.Math.max.code 2 (some .int), .methodLink RX0 109 yX0_finds, .instanceMethod yX0_finds, .selects RX0 yX0_finds yX0_finds, .initialized RX0, .code yX0_finds cX0_finds 4 (some .boolean), .methodLink RX0 68 yX0_hiddenDreams, .instanceMethod yX0_hiddenDreams, .selects RX0 yX0_hiddenDreams yX0_hiddenDreams, .code yX0_hiddenDreams cX0_hiddenDreams 2 (some .int), .fieldLink RX0 24 "SleepBorder$Border" "dreams" "[I", .fieldLink RX0 28 "SleepBorder$Border" "declared" "[I"] ++ wsX00)
def wsX0_beginSearch : List Cond := .code yX0_beginSearch cX0_beginSearch 3 none :: ([.fieldLink RX0 52 "SleepBorder$Border" "searched" "[I", .fieldLink RX0 55 "SleepBorder$Border" "searchLeft" "[I", .fieldLink RX0 37 "SleepBorder$Border" "state" "[I", .methodLink RX0 106 yX0_searchMinutes, .instanceMethod yX0_searchMinutes, .selects RX0 yX0_searchMinutes yX0_searchMinutes, .initialized RX0, .code yX0_searchMinutes cX0_searchMinutes 2 (some .int), .fieldLink RX0 28 "SleepBorder$Border" "declared" "[I", .methodLink RX0 64 yX0_addedSnores, .instanceMethod yX0_addedSnores, .selects RX0 yX0_addedSnores yX0_addedSnores, .code yX0_addedSnores cX0_addedSnores 3 (some .int), .fieldLink RX0 21 "SleepBorder$Border" "travellerCount" "I", .fieldLink RX0 31 "SleepBorder$Border" "snore" "[I"] ++ wsX00)
def wsX0_work_r1 : List Cond := [Cond.fieldLink RX0 52 "SleepBorder$Border" "searched" "[I", Cond.fieldLink RX0 49 "SleepBorder$Border" "alertness" "[I", Cond.methodLink RX0 103 Lib.Math.min.name, Cond.static Lib.Math.min.name, Cond.initialized "java/lang/Math", Cond.code Lib.Math.min.name Lib.Math.min.code 2 (some .int), Cond.methodLink RX0 89 yX0_isTraveller, Cond.instanceMethod yX0_isTraveller, Cond.selects RX0 yX0_isTraveller yX0_isTraveller, Cond.initialized RX0, Cond.code yX0_isTraveller cX0_isTraveller 2 (some .boolean), Cond.fieldLink RX0 21 "SleepBorder$Border" "travellerCount" "I", Cond.methodLink RX0 93 yX0_searchOn, Cond.instanceMethod yX0_searchOn, Cond.selects RX0 yX0_searchOn yX0_searchOn, Cond.code yX0_searchOn cX0_searchOn 3 none, Cond.fieldLink RX0 55 "SleepBorder$Border" "searchLeft" "[I", Cond.fieldLink RX0 18 "SleepBorder$Border" "till" "I", Cond.fieldLink RX0 37 "SleepBorder$Border" "state" "[I", Cond.fieldLink RX0 40 "SleepBorder$Border" "transitLeft" "[I", Cond.methodLink RX0 58 Lib.Math.max.name, Cond.static Lib.Math.max.name, Cond.code Lib.Math.max.name Lib.Math.max.code 2 (some .int), Cond.methodLink RX0 109 yX0_finds]
def wsX0_work_r2 : List Cond := [Cond.instanceMethod yX0_finds, Cond.selects RX0 yX0_finds yX0_finds, Cond.code yX0_finds cX0_finds 4 (some .boolean), Cond.methodLink RX0 68 yX0_hiddenDreams, Cond.instanceMethod yX0_hiddenDreams, Cond.selects RX0 yX0_hiddenDreams yX0_hiddenDreams, Cond.code yX0_hiddenDreams cX0_hiddenDreams 2 (some .int), Cond.fieldLink RX0 24 "SleepBorder$Border" "dreams" "[I", Cond.fieldLink RX0 28 "SleepBorder$Border" "declared" "[I", Cond.methodLink RX0 97 yX0_firstWaiting, Cond.instanceMethod yX0_firstWaiting, Cond.selects RX0 yX0_firstWaiting yX0_firstWaiting, Cond.code yX0_firstWaiting cX0_firstWaiting 2 (some .int), Cond.methodLink RX0 100 yX0_beginSearch, Cond.instanceMethod yX0_beginSearch, Cond.selects RX0 yX0_beginSearch yX0_beginSearch, Cond.code yX0_beginSearch cX0_beginSearch 3 none, Cond.methodLink RX0 106 yX0_searchMinutes, Cond.instanceMethod yX0_searchMinutes, Cond.selects RX0 yX0_searchMinutes yX0_searchMinutes, Cond.code yX0_searchMinutes cX0_searchMinutes 2 (some .int), Cond.methodLink RX0 64 yX0_addedSnores, Cond.instanceMethod yX0_addedSnores, Cond.selects RX0 yX0_addedSnores yX0_addedSnores]
def wsX0_work_r3 : List Cond := [Cond.code yX0_addedSnores cX0_addedSnores 3 (some .int), Cond.fieldLink RX0 31 "SleepBorder$Border" "snore" "[I"]
def wsX0_work : List Cond := .code yX0_work cX0_work 4 none :: ((wsX0_work_r1 ++ (wsX0_work_r2 ++ wsX0_work_r3)) ++ wsX00)
def wsX0_goOneMinute_r1 : List Cond := [Cond.fieldLink RX0 46 "SleepBorder$Border" "guardCount" "I", Cond.fieldLink RX0 9 "SleepBorder$Border" "clock" "I", Cond.methodLink RX0 79 yX0_advanceTransits, Cond.instanceMethod yX0_advanceTransits, Cond.selects RX0 yX0_advanceTransits yX0_advanceTransits, Cond.initialized RX0, Cond.code yX0_advanceTransits cX0_advanceTransits 2 none, Cond.fieldLink RX0 21 "SleepBorder$Border" "travellerCount" "I", Cond.fieldLink RX0 37 "SleepBorder$Border" "state" "[I", Cond.fieldLink RX0 40 "SleepBorder$Border" "transitLeft" "[I", Cond.fieldLink RX0 43 "SleepBorder$Border" "asleepSince" "[I", Cond.methodLink RX0 82 yX0_shortenLullabies, Cond.instanceMethod yX0_shortenLullabies, Cond.selects RX0 yX0_shortenLullabies yX0_shortenLullabies, Cond.code yX0_shortenLullabies cX0_shortenLullabies 2 none, Cond.fieldLink RX0 34 "SleepBorder$Border" "lullaby" "[I", Cond.fieldLink RX0 15 "SleepBorder$Border" "expiredCount" "I", Cond.methodLink RX0 85 yX0_work, Cond.instanceMethod yX0_work, Cond.selects RX0 yX0_work yX0_work, Cond.code yX0_work cX0_work 4 none, Cond.fieldLink RX0 52 "SleepBorder$Border" "searched" "[I", Cond.fieldLink RX0 49 "SleepBorder$Border" "alertness" "[I", Cond.methodLink RX0 103 Lib.Math.min.name]
def wsX0_goOneMinute_r2 : List Cond := [Cond.static Lib.Math.min.name, Cond.initialized "java/lang/Math", Cond.code Lib.Math.min.name Lib.Math.min.code 2 (some .int), Cond.methodLink RX0 89 yX0_isTraveller, Cond.instanceMethod yX0_isTraveller, Cond.selects RX0 yX0_isTraveller yX0_isTraveller, Cond.code yX0_isTraveller cX0_isTraveller 2 (some .boolean), Cond.methodLink RX0 93 yX0_searchOn, Cond.instanceMethod yX0_searchOn, Cond.selects RX0 yX0_searchOn yX0_searchOn, Cond.code yX0_searchOn cX0_searchOn 3 none, Cond.fieldLink RX0 55 "SleepBorder$Border" "searchLeft" "[I", Cond.fieldLink RX0 18 "SleepBorder$Border" "till" "I", Cond.methodLink RX0 58 Lib.Math.max.name, Cond.static Lib.Math.max.name, Cond.code Lib.Math.max.name Lib.Math.max.code 2 (some .int), Cond.methodLink RX0 109 yX0_finds, Cond.instanceMethod yX0_finds, Cond.selects RX0 yX0_finds yX0_finds, Cond.code yX0_finds cX0_finds 4 (some .boolean), Cond.methodLink RX0 68 yX0_hiddenDreams, Cond.instanceMethod yX0_hiddenDreams, Cond.selects RX0 yX0_hiddenDreams yX0_hiddenDreams, Cond.code yX0_hiddenDreams cX0_hiddenDreams 2 (some .int)]
def wsX0_goOneMinute_r3 : List Cond := [Cond.fieldLink RX0 24 "SleepBorder$Border" "dreams" "[I", Cond.fieldLink RX0 28 "SleepBorder$Border" "declared" "[I", Cond.methodLink RX0 97 yX0_firstWaiting, Cond.instanceMethod yX0_firstWaiting, Cond.selects RX0 yX0_firstWaiting yX0_firstWaiting, Cond.code yX0_firstWaiting cX0_firstWaiting 2 (some .int), Cond.methodLink RX0 100 yX0_beginSearch, Cond.instanceMethod yX0_beginSearch, Cond.selects RX0 yX0_beginSearch yX0_beginSearch, Cond.code yX0_beginSearch cX0_beginSearch 3 none, Cond.methodLink RX0 106 yX0_searchMinutes, Cond.instanceMethod yX0_searchMinutes, Cond.selects RX0 yX0_searchMinutes yX0_searchMinutes, Cond.code yX0_searchMinutes cX0_searchMinutes 2 (some .int), Cond.methodLink RX0 64 yX0_addedSnores, Cond.instanceMethod yX0_addedSnores, Cond.selects RX0 yX0_addedSnores yX0_addedSnores, Cond.code yX0_addedSnores cX0_addedSnores 3 (some .int), Cond.fieldLink RX0 31 "SleepBorder$Border" "snore" "[I"]
def wsX0_goOneMinute : List Cond := .code yX0_goOneMinute cX0_goOneMinute 2 none :: ((wsX0_goOneMinute_r1 ++ (wsX0_goOneMinute_r2 ++ wsX0_goOneMinute_r3)) ++ wsX00)
def wsX0_goOn_r1 : List Cond := [Cond.methodLink RX0 72 yX0_isSettled, Cond.instanceMethod yX0_isSettled, Cond.selects RX0 yX0_isSettled yX0_isSettled, Cond.initialized RX0, Cond.code yX0_isSettled cX0_isSettled 2 (some .boolean), Cond.fieldLink RX0 21 "SleepBorder$Border" "travellerCount" "I", Cond.fieldLink RX0 37 "SleepBorder$Border" "state" "[I", Cond.methodLink RX0 76 yX0_goOneMinute, Cond.instanceMethod yX0_goOneMinute, Cond.selects RX0 yX0_goOneMinute yX0_goOneMinute, Cond.code yX0_goOneMinute cX0_goOneMinute 2 none, Cond.fieldLink RX0 46 "SleepBorder$Border" "guardCount" "I", Cond.fieldLink RX0 9 "SleepBorder$Border" "clock" "I", Cond.methodLink RX0 79 yX0_advanceTransits, Cond.instanceMethod yX0_advanceTransits, Cond.selects RX0 yX0_advanceTransits yX0_advanceTransits, Cond.code yX0_advanceTransits cX0_advanceTransits 2 none, Cond.fieldLink RX0 40 "SleepBorder$Border" "transitLeft" "[I", Cond.fieldLink RX0 43 "SleepBorder$Border" "asleepSince" "[I", Cond.methodLink RX0 82 yX0_shortenLullabies, Cond.instanceMethod yX0_shortenLullabies, Cond.selects RX0 yX0_shortenLullabies yX0_shortenLullabies, Cond.code yX0_shortenLullabies cX0_shortenLullabies 2 none, Cond.fieldLink RX0 34 "SleepBorder$Border" "lullaby" "[I"]
def wsX0_goOn_r2 : List Cond := [Cond.fieldLink RX0 15 "SleepBorder$Border" "expiredCount" "I", Cond.methodLink RX0 85 yX0_work, Cond.instanceMethod yX0_work, Cond.selects RX0 yX0_work yX0_work, Cond.code yX0_work cX0_work 4 none, Cond.fieldLink RX0 52 "SleepBorder$Border" "searched" "[I", Cond.fieldLink RX0 49 "SleepBorder$Border" "alertness" "[I", Cond.methodLink RX0 103 Lib.Math.min.name, Cond.static Lib.Math.min.name, Cond.initialized "java/lang/Math", Cond.code Lib.Math.min.name Lib.Math.min.code 2 (some .int), Cond.methodLink RX0 89 yX0_isTraveller, Cond.instanceMethod yX0_isTraveller, Cond.selects RX0 yX0_isTraveller yX0_isTraveller, Cond.code yX0_isTraveller cX0_isTraveller 2 (some .boolean), Cond.methodLink RX0 93 yX0_searchOn, Cond.instanceMethod yX0_searchOn, Cond.selects RX0 yX0_searchOn yX0_searchOn, Cond.code yX0_searchOn cX0_searchOn 3 none, Cond.fieldLink RX0 55 "SleepBorder$Border" "searchLeft" "[I", Cond.fieldLink RX0 18 "SleepBorder$Border" "till" "I", Cond.methodLink RX0 58 Lib.Math.max.name, Cond.static Lib.Math.max.name, Cond.code Lib.Math.max.name Lib.Math.max.code 2 (some .int)]
def wsX0_goOn_r3 : List Cond := [Cond.methodLink RX0 109 yX0_finds, Cond.instanceMethod yX0_finds, Cond.selects RX0 yX0_finds yX0_finds, Cond.code yX0_finds cX0_finds 4 (some .boolean), Cond.methodLink RX0 68 yX0_hiddenDreams, Cond.instanceMethod yX0_hiddenDreams, Cond.selects RX0 yX0_hiddenDreams yX0_hiddenDreams, Cond.code yX0_hiddenDreams cX0_hiddenDreams 2 (some .int), Cond.fieldLink RX0 24 "SleepBorder$Border" "dreams" "[I", Cond.fieldLink RX0 28 "SleepBorder$Border" "declared" "[I", Cond.methodLink RX0 97 yX0_firstWaiting, Cond.instanceMethod yX0_firstWaiting, Cond.selects RX0 yX0_firstWaiting yX0_firstWaiting, Cond.code yX0_firstWaiting cX0_firstWaiting 2 (some .int), Cond.methodLink RX0 100 yX0_beginSearch, Cond.instanceMethod yX0_beginSearch, Cond.selects RX0 yX0_beginSearch yX0_beginSearch, Cond.code yX0_beginSearch cX0_beginSearch 3 none, Cond.methodLink RX0 106 yX0_searchMinutes, Cond.instanceMethod yX0_searchMinutes, Cond.selects RX0 yX0_searchMinutes yX0_searchMinutes, Cond.code yX0_searchMinutes cX0_searchMinutes 2 (some .int), Cond.methodLink RX0 64 yX0_addedSnores, Cond.instanceMethod yX0_addedSnores]
def wsX0_goOn_r4 : List Cond := [Cond.selects RX0 yX0_addedSnores yX0_addedSnores, Cond.code yX0_addedSnores cX0_addedSnores 3 (some .int), Cond.fieldLink RX0 31 "SleepBorder$Border" "snore" "[I"]
def wsX0_goOn : List Cond := .code yX0_goOn cX0_goOn 3 none :: ((wsX0_goOn_r1 ++ (wsX0_goOn_r2 ++ (wsX0_goOn_r3 ++ wsX0_goOn_r4))) ++ wsX00)
def wsX1_init_r1 : List Cond := [Cond.methodLink RX1 1 objectInit, Cond.instanceMethod objectInit, Cond.code objectInit ⟨#[0xb1]⟩ 1 none, Cond.classLink RX1 7 RX0, Cond.instantiable RX0 15, Cond.initialized RX0, Cond.fieldLink RX1 10 "SleepBorder" "now" "LSleepBorder$Border;", Cond.fieldLink RX1 16 "SleepBorder" "trial" "LSleepBorder$Border;", Cond.instanceMethod yX0_init, Cond.code yX0_init cX0_init 1 none, Cond.methodLink RX0 3 objectInit, Cond.fieldLink RX0 9 "SleepBorder$Border" "clock" "I", Cond.fieldLink RX0 15 "SleepBorder$Border" "expiredCount" "I", Cond.fieldLink RX0 18 "SleepBorder$Border" "till" "I", Cond.fieldLink RX0 21 "SleepBorder$Border" "travellerCount" "I", Cond.arrayClass .int, Cond.fieldLink RX0 24 "SleepBorder$Border" "dreams" "[I", Cond.fieldLink RX0 28 "SleepBorder$Border" "declared" "[I", Cond.fieldLink RX0 31 "SleepBorder$Border" "snore" "[I", Cond.fieldLink RX0 34 "SleepBorder$Border" "lullaby" "[I", Cond.fieldLink RX0 37 "SleepBorder$Border" "state" "[I", Cond.fieldLink RX0 40 "SleepBorder$Border" "transitLeft" "[I", Cond.fieldLink RX0 43 "SleepBorder$Border" "asleepSince" "[I", Cond.fieldLink RX0 46 "SleepBorder$Border" "guardCount" "I"]
def wsX1_init_r2 : List Cond := [Cond.fieldLink RX0 49 "SleepBorder$Border" "alertness" "[I", Cond.fieldLink RX0 52 "SleepBorder$Border" "searched" "[I", Cond.fieldLink RX0 55 "SleepBorder$Border" "searchLeft" "[I"]
def wsX1_init : List Cond := .code yX1_init cX1_init 1 none :: ((wsX1_init_r1 ++ wsX1_init_r2) ++ wsX00 ++ wsX10)
def wsX1_addGuard : List Cond := .code yX1_addGuard cX1_addGuard 1 (some .int) :: ([.classLink RX1 23 "java/lang/IllegalStateException", .initialized "java/lang/IllegalStateException", .fieldLink RX1 10 "SleepBorder" "now" "LSleepBorder$Border;", .fieldLink RX1 19 "SleepBorder$Border" "guardCount" "I", .methodLink RX1 30 yX0_admitGuard, .instanceMethod yX0_admitGuard, .selects RX0 yX0_admitGuard yX0_admitGuard, .initialized RX0, .code yX0_admitGuard cX0_admitGuard 1 none, .fieldLink RX0 46 "SleepBorder$Border" "guardCount" "I", .fieldLink RX0 49 "SleepBorder$Border" "alertness" "[I", .fieldLink RX0 52 "SleepBorder$Border" "searched" "[I", .fieldLink RX0 55 "SleepBorder$Border" "searchLeft" "[I"] ++ wsX10 ++ wsX00 ++ (vx_atS RX1 27 "java/lang/IllegalStateException" ["java/lang/RuntimeException", "java/lang/Exception"]).filter goodWord)
def wsX1_requireDigit : List Cond := .code yX1_requireDigit cX1_requireDigit 1 none :: ([.classLink RX1 218 "java/lang/IllegalArgumentException", .initialized "java/lang/IllegalArgumentException"] ++ (vx_atS RX1 222 "java/lang/IllegalArgumentException" ["java/lang/RuntimeException", "java/lang/Exception"]).filter goodWord)
def wsX1_requireMinutes : List Cond := .code yX1_requireMinutes cX1_requireMinutes 1 none :: ([.classLink RX1 218 "java/lang/IllegalArgumentException", .initialized "java/lang/IllegalArgumentException"] ++ (vx_atS RX1 222 "java/lang/IllegalArgumentException" ["java/lang/RuntimeException", "java/lang/Exception"]).filter goodWord)
def wsX1_arrive : List Cond := .code yX1_arrive cX1_arrive 5 (some .int) :: ([.classLink RX1 23 "java/lang/IllegalStateException", .initialized "java/lang/IllegalStateException", .fieldLink RX1 10 "SleepBorder" "now" "LSleepBorder$Border;", .fieldLink RX1 40 "SleepBorder$Border" "travellerCount" "I", .methodLink RX1 33 yX1_requireDigit, .static yX1_requireDigit, .initialized RX1, .code yX1_requireDigit cX1_requireDigit 1 none, .classLink RX1 218 "java/lang/IllegalArgumentException", .initialized "java/lang/IllegalArgumentException", .methodLink RX1 37 yX1_requireMinutes, .static yX1_requireMinutes, .code yX1_requireMinutes cX1_requireMinutes 1 none, .methodLink RX1 45 yX0_admitTraveller, .instanceMethod yX0_admitTraveller, .selects RX0 yX0_admitTraveller yX0_admitTraveller, .initialized RX0, .code yX0_admitTraveller cX0_admitTraveller 5 none, .fieldLink RX0 21 "SleepBorder$Border" "travellerCount" "I", .fieldLink RX0 24 "SleepBorder$Border" "dreams" "[I", .fieldLink RX0 28 "SleepBorder$Border" "declared" "[I", .fieldLink RX0 31 "SleepBorder$Border" "snore" "[I", .fieldLink RX0 34 "SleepBorder$Border" "lullaby" "[I", .fieldLink RX0 37 "SleepBorder$Border" "state" "[I"] ++ wsX10 ++ wsX00 ++ (vx_atS RX1 27 "java/lang/IllegalStateException" ["java/lang/RuntimeException", "java/lang/Exception"]).filter goodWord ++ (vx_atS RX1 222 "java/lang/IllegalArgumentException" ["java/lang/RuntimeException", "java/lang/Exception"]).filter goodWord)
def wsX1_requireTraveller : List Cond := .code yX1_requireTraveller cX1_requireTraveller 2 none :: ([.classLink RX1 208 "java/lang/IndexOutOfBoundsException", .initialized "java/lang/IndexOutOfBoundsException", .fieldLink RX1 10 "SleepBorder" "now" "LSleepBorder$Border;", .methodLink RX1 204 yX0_isTraveller, .instanceMethod yX0_isTraveller, .selects RX0 yX0_isTraveller yX0_isTraveller, .initialized RX0, .code yX0_isTraveller cX0_isTraveller 2 (some .boolean), .fieldLink RX0 21 "SleepBorder$Border" "travellerCount" "I"] ++ wsX10 ++ wsX00 ++ (vx_atS RX1 212 "java/lang/IndexOutOfBoundsException" ["java/lang/RuntimeException", "java/lang/Exception"]).filter goodWord)
def wsX1_requireWaiting : List Cond := .code yX1_requireWaiting cX1_requireWaiting 2 none :: ([.classLink RX1 23 "java/lang/IllegalStateException", .initialized "java/lang/IllegalStateException", .fieldLink RX1 10 "SleepBorder" "now" "LSleepBorder$Border;", .fieldLink RX1 91 "SleepBorder$Border" "state" "[I"] ++ wsX10 ++ wsX00 ++ (vx_atS RX1 27 "java/lang/IllegalStateException" ["java/lang/RuntimeException", "java/lang/Exception"]).filter goodWord)
def wsX1_declare_r1 : List Cond := [Cond.fieldLink RX1 10 "SleepBorder" "now" "LSleepBorder$Border;", Cond.fieldLink RX1 55 "SleepBorder$Border" "declared" "[I", Cond.methodLink RX1 49 yX1_requireTraveller, Cond.instanceMethod yX1_requireTraveller, Cond.selects RX1 yX1_requireTraveller yX1_requireTraveller, Cond.initialized RX1, Cond.code yX1_requireTraveller cX1_requireTraveller 2 none, Cond.classLink RX1 208 "java/lang/IndexOutOfBoundsException", Cond.initialized "java/lang/IndexOutOfBoundsException", Cond.methodLink RX1 204 yX0_isTraveller, Cond.instanceMethod yX0_isTraveller, Cond.selects RX0 yX0_isTraveller yX0_isTraveller, Cond.initialized RX0, Cond.code yX0_isTraveller cX0_isTraveller 2 (some .boolean), Cond.fieldLink RX0 21 "SleepBorder$Border" "travellerCount" "I", Cond.methodLink RX1 33 yX1_requireDigit, Cond.static yX1_requireDigit, Cond.code yX1_requireDigit cX1_requireDigit 1 none, Cond.classLink RX1 218 "java/lang/IllegalArgumentException", Cond.initialized "java/lang/IllegalArgumentException", Cond.methodLink RX1 52 yX1_requireWaiting, Cond.instanceMethod yX1_requireWaiting, Cond.selects RX1 yX1_requireWaiting yX1_requireWaiting, Cond.code yX1_requireWaiting cX1_requireWaiting 2 none]
def wsX1_declare_r2 : List Cond := [Cond.classLink RX1 23 "java/lang/IllegalStateException", Cond.initialized "java/lang/IllegalStateException", Cond.fieldLink RX1 91 "SleepBorder$Border" "state" "[I"]
def wsX1_declare : List Cond := .code yX1_declare cX1_declare 4 (some .int) :: ((wsX1_declare_r1 ++ wsX1_declare_r2) ++ wsX10 ++ wsX00 ++ (vx_atS RX1 212 "java/lang/IndexOutOfBoundsException" ["java/lang/RuntimeException", "java/lang/Exception"]).filter goodWord ++ (vx_atS RX1 222 "java/lang/IllegalArgumentException" ["java/lang/RuntimeException", "java/lang/Exception"]).filter goodWord ++ (vx_atS RX1 27 "java/lang/IllegalStateException" ["java/lang/RuntimeException", "java/lang/Exception"]).filter goodWord)
def wsX1_sing_r1 : List Cond := [Cond.fieldLink RX1 10 "SleepBorder" "now" "LSleepBorder$Border;", Cond.fieldLink RX1 59 "SleepBorder$Border" "lullaby" "[I", Cond.methodLink RX1 49 yX1_requireTraveller, Cond.instanceMethod yX1_requireTraveller, Cond.selects RX1 yX1_requireTraveller yX1_requireTraveller, Cond.initialized RX1, Cond.code yX1_requireTraveller cX1_requireTraveller 2 none, Cond.classLink RX1 208 "java/lang/IndexOutOfBoundsException", Cond.initialized "java/lang/IndexOutOfBoundsException", Cond.methodLink RX1 204 yX0_isTraveller, Cond.instanceMethod yX0_isTraveller, Cond.selects RX0 yX0_isTraveller yX0_isTraveller, Cond.initialized RX0, Cond.code yX0_isTraveller cX0_isTraveller 2 (some .boolean), Cond.fieldLink RX0 21 "SleepBorder$Border" "travellerCount" "I", Cond.methodLink RX1 37 yX1_requireMinutes, Cond.static yX1_requireMinutes, Cond.code yX1_requireMinutes cX1_requireMinutes 1 none, Cond.classLink RX1 218 "java/lang/IllegalArgumentException", Cond.initialized "java/lang/IllegalArgumentException", Cond.methodLink RX1 52 yX1_requireWaiting, Cond.instanceMethod yX1_requireWaiting, Cond.selects RX1 yX1_requireWaiting yX1_requireWaiting, Cond.code yX1_requireWaiting cX1_requireWaiting 2 none]
def wsX1_sing_r2 : List Cond := [Cond.classLink RX1 23 "java/lang/IllegalStateException", Cond.initialized "java/lang/IllegalStateException", Cond.fieldLink RX1 91 "SleepBorder$Border" "state" "[I"]
def wsX1_sing : List Cond := .code yX1_sing cX1_sing 4 (some .int) :: ((wsX1_sing_r1 ++ wsX1_sing_r2) ++ wsX10 ++ wsX00 ++ (vx_atS RX1 212 "java/lang/IndexOutOfBoundsException" ["java/lang/RuntimeException", "java/lang/Exception"]).filter goodWord ++ (vx_atS RX1 222 "java/lang/IllegalArgumentException" ["java/lang/RuntimeException", "java/lang/Exception"]).filter goodWord ++ (vx_atS RX1 27 "java/lang/IllegalStateException" ["java/lang/RuntimeException", "java/lang/Exception"]).filter goodWord)
def wsX1_requireGuard : List Cond := .code yX1_requireGuard cX1_requireGuard 2 none :: ([.classLink RX1 208 "java/lang/IndexOutOfBoundsException", .initialized "java/lang/IndexOutOfBoundsException", .fieldLink RX1 10 "SleepBorder" "now" "LSleepBorder$Border;", .methodLink RX1 213 yX0_isGuard, .instanceMethod yX0_isGuard, .selects RX0 yX0_isGuard yX0_isGuard, .initialized RX0, .code yX0_isGuard cX0_isGuard 2 (some .boolean), .fieldLink RX0 46 "SleepBorder$Border" "guardCount" "I"] ++ wsX10 ++ wsX00 ++ (vx_atS RX1 212 "java/lang/IndexOutOfBoundsException" ["java/lang/RuntimeException", "java/lang/Exception"]).filter goodWord)
def wsX1_wake : List Cond := .code yX1_wake cX1_wake 3 (some .int) :: ([.fieldLink RX1 10 "SleepBorder" "now" "LSleepBorder$Border;", .fieldLink RX1 65 "SleepBorder$Border" "alertness" "[I", .methodLink RX1 62 yX1_requireGuard, .instanceMethod yX1_requireGuard, .selects RX1 yX1_requireGuard yX1_requireGuard, .initialized RX1, .code yX1_requireGuard cX1_requireGuard 2 none, .classLink RX1 208 "java/lang/IndexOutOfBoundsException", .initialized "java/lang/IndexOutOfBoundsException", .methodLink RX1 213 yX0_isGuard, .instanceMethod yX0_isGuard, .selects RX0 yX0_isGuard yX0_isGuard, .initialized RX0, .code yX0_isGuard cX0_isGuard 2 (some .boolean), .fieldLink RX0 46 "SleepBorder$Border" "guardCount" "I"] ++ wsX10 ++ wsX00 ++ (vx_atS RX1 212 "java/lang/IndexOutOfBoundsException" ["java/lang/RuntimeException", "java/lang/Exception"]).filter goodWord)
def wsX1_pass_r1 : List Cond := [Cond.fieldLink RX1 10 "SleepBorder" "now" "LSleepBorder$Border;", Cond.methodLink RX1 37 yX1_requireMinutes, Cond.static yX1_requireMinutes, Cond.initialized RX1, Cond.code yX1_requireMinutes cX1_requireMinutes 1 none, Cond.classLink RX1 218 "java/lang/IllegalArgumentException", Cond.initialized "java/lang/IllegalArgumentException", Cond.methodLink RX1 68 yX0_countIn, Cond.instanceMethod yX0_countIn, Cond.selects RX0 yX0_countIn yX0_countIn, Cond.initialized RX0, Cond.code yX0_countIn cX0_countIn 4 (some .int), Cond.fieldLink RX0 21 "SleepBorder$Border" "travellerCount" "I", Cond.fieldLink RX0 37 "SleepBorder$Border" "state" "[I", Cond.methodLink RX1 72 yX0_goOneMinute, Cond.instanceMethod yX0_goOneMinute, Cond.selects RX0 yX0_goOneMinute yX0_goOneMinute, Cond.code yX0_goOneMinute cX0_goOneMinute 2 none, Cond.fieldLink RX0 46 "SleepBorder$Border" "guardCount" "I", Cond.fieldLink RX0 9 "SleepBorder$Border" "clock" "I", Cond.methodLink RX0 79 yX0_advanceTransits, Cond.instanceMethod yX0_advanceTransits, Cond.selects RX0 yX0_advanceTransits yX0_advanceTransits, Cond.code yX0_advanceTransits cX0_advanceTransits 2 none]
def wsX1_pass_r2 : List Cond := [Cond.fieldLink RX0 40 "SleepBorder$Border" "transitLeft" "[I", Cond.fieldLink RX0 43 "SleepBorder$Border" "asleepSince" "[I", Cond.methodLink RX0 82 yX0_shortenLullabies, Cond.instanceMethod yX0_shortenLullabies, Cond.selects RX0 yX0_shortenLullabies yX0_shortenLullabies, Cond.code yX0_shortenLullabies cX0_shortenLullabies 2 none, Cond.fieldLink RX0 34 "SleepBorder$Border" "lullaby" "[I", Cond.fieldLink RX0 15 "SleepBorder$Border" "expiredCount" "I", Cond.methodLink RX0 85 yX0_work, Cond.instanceMethod yX0_work, Cond.selects RX0 yX0_work yX0_work, Cond.code yX0_work cX0_work 4 none, Cond.fieldLink RX0 52 "SleepBorder$Border" "searched" "[I", Cond.fieldLink RX0 49 "SleepBorder$Border" "alertness" "[I", Cond.methodLink RX0 103 Lib.Math.min.name, Cond.static Lib.Math.min.name, Cond.initialized "java/lang/Math", Cond.code Lib.Math.min.name Lib.Math.min.code 2 (some .int), Cond.methodLink RX0 89 yX0_isTraveller, Cond.instanceMethod yX0_isTraveller, Cond.selects RX0 yX0_isTraveller yX0_isTraveller, Cond.code yX0_isTraveller cX0_isTraveller 2 (some .boolean), Cond.methodLink RX0 93 yX0_searchOn, Cond.instanceMethod yX0_searchOn]
def wsX1_pass_r3 : List Cond := [Cond.selects RX0 yX0_searchOn yX0_searchOn, Cond.code yX0_searchOn cX0_searchOn 3 none, Cond.fieldLink RX0 55 "SleepBorder$Border" "searchLeft" "[I", Cond.fieldLink RX0 18 "SleepBorder$Border" "till" "I", Cond.methodLink RX0 58 Lib.Math.max.name, Cond.static Lib.Math.max.name, Cond.code Lib.Math.max.name Lib.Math.max.code 2 (some .int), Cond.methodLink RX0 109 yX0_finds, Cond.instanceMethod yX0_finds, Cond.selects RX0 yX0_finds yX0_finds, Cond.code yX0_finds cX0_finds 4 (some .boolean), Cond.methodLink RX0 68 yX0_hiddenDreams, Cond.instanceMethod yX0_hiddenDreams, Cond.selects RX0 yX0_hiddenDreams yX0_hiddenDreams, Cond.code yX0_hiddenDreams cX0_hiddenDreams 2 (some .int), Cond.fieldLink RX0 24 "SleepBorder$Border" "dreams" "[I", Cond.fieldLink RX0 28 "SleepBorder$Border" "declared" "[I", Cond.methodLink RX0 97 yX0_firstWaiting, Cond.instanceMethod yX0_firstWaiting, Cond.selects RX0 yX0_firstWaiting yX0_firstWaiting, Cond.code yX0_firstWaiting cX0_firstWaiting 2 (some .int), Cond.methodLink RX0 100 yX0_beginSearch, Cond.instanceMethod yX0_beginSearch, Cond.selects RX0 yX0_beginSearch yX0_beginSearch]
def wsX1_pass_r4 : List Cond := [Cond.code yX0_beginSearch cX0_beginSearch 3 none, Cond.methodLink RX0 106 yX0_searchMinutes, Cond.instanceMethod yX0_searchMinutes, Cond.selects RX0 yX0_searchMinutes yX0_searchMinutes, Cond.code yX0_searchMinutes cX0_searchMinutes 2 (some .int), Cond.methodLink RX0 64 yX0_addedSnores, Cond.instanceMethod yX0_addedSnores, Cond.selects RX0 yX0_addedSnores yX0_addedSnores, Cond.code yX0_addedSnores cX0_addedSnores 3 (some .int), Cond.fieldLink RX0 31 "SleepBorder$Border" "snore" "[I"]
def wsX1_pass : List Cond := .code yX1_pass cX1_pass 4 (some .int) :: ((wsX1_pass_r1 ++ (wsX1_pass_r2 ++ (wsX1_pass_r3 ++ wsX1_pass_r4))) ++ wsX10 ++ wsX00 ++ (vx_atS RX1 222 "java/lang/IllegalArgumentException" ["java/lang/RuntimeException", "java/lang/Exception"]).filter goodWord)
def wsX1_minute : List Cond := .code yX1_minute cX1_minute 1 (some .int) :: ([.fieldLink RX1 10 "SleepBorder" "now" "LSleepBorder$Border;", .fieldLink RX1 75 "SleepBorder$Border" "clock" "I"] ++ wsX10 ++ wsX00)
def wsX1_travellers : List Cond := .code yX1_travellers cX1_travellers 1 (some .int) :: ([.fieldLink RX1 10 "SleepBorder" "now" "LSleepBorder$Border;", .fieldLink RX1 40 "SleepBorder$Border" "travellerCount" "I"] ++ wsX10 ++ wsX00)
def wsX1_waiting : List Cond := .code yX1_waiting cX1_waiting 1 (some .int) :: ([.fieldLink RX1 10 "SleepBorder" "now" "LSleepBorder$Border;", .methodLink RX1 68 yX0_countIn, .instanceMethod yX0_countIn, .selects RX0 yX0_countIn yX0_countIn, .initialized RX0, .code yX0_countIn cX0_countIn 4 (some .int), .fieldLink RX0 21 "SleepBorder$Border" "travellerCount" "I", .fieldLink RX0 37 "SleepBorder$Border" "state" "[I"] ++ wsX10 ++ wsX00)
def wsX1_asleep : List Cond := .code yX1_asleep cX1_asleep 1 (some .int) :: ([.fieldLink RX1 10 "SleepBorder" "now" "LSleepBorder$Border;", .methodLink RX1 68 yX0_countIn, .instanceMethod yX0_countIn, .selects RX0 yX0_countIn yX0_countIn, .initialized RX0, .code yX0_countIn cX0_countIn 4 (some .int), .fieldLink RX0 21 "SleepBorder$Border" "travellerCount" "I", .fieldLink RX0 37 "SleepBorder$Border" "state" "[I"] ++ wsX10 ++ wsX00)
def wsX1_sentBack : List Cond := .code yX1_sentBack cX1_sentBack 1 (some .int) :: ([.fieldLink RX1 10 "SleepBorder" "now" "LSleepBorder$Border;", .methodLink RX1 68 yX0_countIn, .instanceMethod yX0_countIn, .selects RX0 yX0_countIn yX0_countIn, .initialized RX0, .code yX0_countIn cX0_countIn 4 (some .int), .fieldLink RX0 21 "SleepBorder$Border" "travellerCount" "I", .fieldLink RX0 37 "SleepBorder$Border" "state" "[I"] ++ wsX10 ++ wsX00)
def wsX1_expired : List Cond := .code yX1_expired cX1_expired 1 (some .int) :: ([.fieldLink RX1 10 "SleepBorder" "now" "LSleepBorder$Border;", .fieldLink RX1 78 "SleepBorder$Border" "expiredCount" "I"] ++ wsX10 ++ wsX00)
def wsX1_paid : List Cond := .code yX1_paid cX1_paid 1 (some .int) :: ([.fieldLink RX1 10 "SleepBorder" "now" "LSleepBorder$Border;", .fieldLink RX1 81 "SleepBorder$Border" "till" "I"] ++ wsX10 ++ wsX00)
def wsX1_noise : List Cond := .code yX1_noise cX1_noise 1 (some .int) :: ([.fieldLink RX1 10 "SleepBorder" "now" "LSleepBorder$Border;", .methodLink RX1 84 yX0_addedSnores, .instanceMethod yX0_addedSnores, .selects RX0 yX0_addedSnores yX0_addedSnores, .initialized RX0, .code yX0_addedSnores cX0_addedSnores 3 (some .int), .fieldLink RX0 21 "SleepBorder$Border" "travellerCount" "I", .fieldLink RX0 37 "SleepBorder$Border" "state" "[I", .fieldLink RX0 31 "SleepBorder$Border" "snore" "[I"] ++ wsX10 ++ wsX00)
def wsX1_nextInLine : List Cond := .code yX1_nextInLine cX1_nextInLine 1 (some .int) :: ([.fieldLink RX1 10 "SleepBorder" "now" "LSleepBorder$Border;", .methodLink RX1 88 yX0_firstWaiting, .instanceMethod yX0_firstWaiting, .selects RX0 yX0_firstWaiting yX0_firstWaiting, .initialized RX0, .code yX0_firstWaiting cX0_firstWaiting 2 (some .int), .fieldLink RX0 21 "SleepBorder$Border" "travellerCount" "I", .fieldLink RX0 37 "SleepBorder$Border" "state" "[I"] ++ wsX10 ++ wsX00)
def wsX1_stateOf : List Cond := .code yX1_stateOf cX1_stateOf 2 (some .int) :: ([.fieldLink RX1 10 "SleepBorder" "now" "LSleepBorder$Border;", .fieldLink RX1 91 "SleepBorder$Border" "state" "[I", .methodLink RX1 49 yX1_requireTraveller, .instanceMethod yX1_requireTraveller, .selects RX1 yX1_requireTraveller yX1_requireTraveller, .initialized RX1, .code yX1_requireTraveller cX1_requireTraveller 2 none, .classLink RX1 208 "java/lang/IndexOutOfBoundsException", .initialized "java/lang/IndexOutOfBoundsException", .methodLink RX1 204 yX0_isTraveller, .instanceMethod yX0_isTraveller, .selects RX0 yX0_isTraveller yX0_isTraveller, .initialized RX0, .code yX0_isTraveller cX0_isTraveller 2 (some .boolean), .fieldLink RX0 21 "SleepBorder$Border" "travellerCount" "I"] ++ wsX10 ++ wsX00 ++ (vx_atS RX1 212 "java/lang/IndexOutOfBoundsException" ["java/lang/RuntimeException", "java/lang/Exception"]).filter goodWord)
def wsX1_hiddenOf : List Cond := .code yX1_hiddenOf cX1_hiddenOf 2 (some .int) :: ([.fieldLink RX1 10 "SleepBorder" "now" "LSleepBorder$Border;", .methodLink RX1 49 yX1_requireTraveller, .instanceMethod yX1_requireTraveller, .selects RX1 yX1_requireTraveller yX1_requireTraveller, .initialized RX1, .code yX1_requireTraveller cX1_requireTraveller 2 none, .classLink RX1 208 "java/lang/IndexOutOfBoundsException", .initialized "java/lang/IndexOutOfBoundsException", .methodLink RX1 204 yX0_isTraveller, .instanceMethod yX0_isTraveller, .selects RX0 yX0_isTraveller yX0_isTraveller, .initialized RX0, .code yX0_isTraveller cX0_isTraveller 2 (some .boolean), .fieldLink RX0 21 "SleepBorder$Border" "travellerCount" "I", .methodLink RX1 94 yX0_hiddenDreams, .instanceMethod yX0_hiddenDreams, .selects RX0 yX0_hiddenDreams yX0_hiddenDreams, .code yX0_hiddenDreams cX0_hiddenDreams 2 (some .int), .fieldLink RX0 24 "SleepBorder$Border" "dreams" "[I", .fieldLink RX0 28 "SleepBorder$Border" "declared" "[I", .methodLink RX0 58 Lib.Math.max.name, .static Lib.Math.max.name, .initialized "java/lang/Math", .code Lib.Math.max.name Lib.Math.max.code 2 (some .int)] ++ wsX10 ++ wsX00 ++ (vx_atS RX1 212 "java/lang/IndexOutOfBoundsException" ["java/lang/RuntimeException", "java/lang/Exception"]).filter goodWord)
def wsX1_lullabyOf : List Cond := .code yX1_lullabyOf cX1_lullabyOf 2 (some .int) :: ([.fieldLink RX1 10 "SleepBorder" "now" "LSleepBorder$Border;", .fieldLink RX1 59 "SleepBorder$Border" "lullaby" "[I", .methodLink RX1 49 yX1_requireTraveller, .instanceMethod yX1_requireTraveller, .selects RX1 yX1_requireTraveller yX1_requireTraveller, .initialized RX1, .code yX1_requireTraveller cX1_requireTraveller 2 none, .classLink RX1 208 "java/lang/IndexOutOfBoundsException", .initialized "java/lang/IndexOutOfBoundsException", .methodLink RX1 204 yX0_isTraveller, .instanceMethod yX0_isTraveller, .selects RX0 yX0_isTraveller yX0_isTraveller, .initialized RX0, .code yX0_isTraveller cX0_isTraveller 2 (some .boolean), .fieldLink RX0 21 "SleepBorder$Border" "travellerCount" "I"] ++ wsX10 ++ wsX00 ++ (vx_atS RX1 212 "java/lang/IndexOutOfBoundsException" ["java/lang/RuntimeException", "java/lang/Exception"]).filter goodWord)
def wsX1_placeInLine : List Cond := .code yX1_placeInLine cX1_placeInLine 2 (some .int) :: ([.fieldLink RX1 10 "SleepBorder" "now" "LSleepBorder$Border;", .fieldLink RX1 91 "SleepBorder$Border" "state" "[I", .methodLink RX1 49 yX1_requireTraveller, .instanceMethod yX1_requireTraveller, .selects RX1 yX1_requireTraveller yX1_requireTraveller, .initialized RX1, .code yX1_requireTraveller cX1_requireTraveller 2 none, .classLink RX1 208 "java/lang/IndexOutOfBoundsException", .initialized "java/lang/IndexOutOfBoundsException", .methodLink RX1 204 yX0_isTraveller, .instanceMethod yX0_isTraveller, .selects RX0 yX0_isTraveller yX0_isTraveller, .initialized RX0, .code yX0_isTraveller cX0_isTraveller 2 (some .boolean), .fieldLink RX0 21 "SleepBorder$Border" "travellerCount" "I", .methodLink RX1 97 yX0_waitingAhead, .instanceMethod yX0_waitingAhead, .selects RX0 yX0_waitingAhead yX0_waitingAhead, .code yX0_waitingAhead cX0_waitingAhead 4 (some .int), .fieldLink RX0 37 "SleepBorder$Border" "state" "[I"] ++ wsX10 ++ wsX00 ++ (vx_atS RX1 212 "java/lang/IndexOutOfBoundsException" ["java/lang/RuntimeException", "java/lang/Exception"]).filter goodWord)
def wsX1_searchTime_r1 : List Cond := [Cond.fieldLink RX1 10 "SleepBorder" "now" "LSleepBorder$Border;", Cond.methodLink RX1 49 yX1_requireTraveller, Cond.instanceMethod yX1_requireTraveller, Cond.selects RX1 yX1_requireTraveller yX1_requireTraveller, Cond.initialized RX1, Cond.code yX1_requireTraveller cX1_requireTraveller 2 none, Cond.classLink RX1 208 "java/lang/IndexOutOfBoundsException", Cond.initialized "java/lang/IndexOutOfBoundsException", Cond.methodLink RX1 204 yX0_isTraveller, Cond.instanceMethod yX0_isTraveller, Cond.selects RX0 yX0_isTraveller yX0_isTraveller, Cond.initialized RX0, Cond.code yX0_isTraveller cX0_isTraveller 2 (some .boolean), Cond.fieldLink RX0 21 "SleepBorder$Border" "travellerCount" "I", Cond.methodLink RX1 100 yX0_searchMinutes, Cond.instanceMethod yX0_searchMinutes, Cond.selects RX0 yX0_searchMinutes yX0_searchMinutes, Cond.code yX0_searchMinutes cX0_searchMinutes 2 (some .int), Cond.fieldLink RX0 28 "SleepBorder$Border" "declared" "[I", Cond.methodLink RX0 64 yX0_addedSnores, Cond.instanceMethod yX0_addedSnores, Cond.selects RX0 yX0_addedSnores yX0_addedSnores, Cond.code yX0_addedSnores cX0_addedSnores 3 (some .int), Cond.fieldLink RX0 37 "SleepBorder$Border" "state" "[I"]
def wsX1_searchTime_r2 : List Cond := [Cond.fieldLink RX0 31 "SleepBorder$Border" "snore" "[I"]
def wsX1_searchTime : List Cond := .code yX1_searchTime cX1_searchTime 2 (some .int) :: ((wsX1_searchTime_r1 ++ wsX1_searchTime_r2) ++ wsX10 ++ wsX00 ++ (vx_atS RX1 212 "java/lang/IndexOutOfBoundsException" ["java/lang/RuntimeException", "java/lang/Exception"]).filter goodWord)
def wsX1_guards : List Cond := .code yX1_guards cX1_guards 1 (some .int) :: ([.fieldLink RX1 10 "SleepBorder" "now" "LSleepBorder$Border;", .fieldLink RX1 19 "SleepBorder$Border" "guardCount" "I"] ++ wsX10 ++ wsX00)
def wsX1_alertnessOf : List Cond := .code yX1_alertnessOf cX1_alertnessOf 2 (some .int) :: ([.fieldLink RX1 10 "SleepBorder" "now" "LSleepBorder$Border;", .fieldLink RX1 65 "SleepBorder$Border" "alertness" "[I", .methodLink RX1 62 yX1_requireGuard, .instanceMethod yX1_requireGuard, .selects RX1 yX1_requireGuard yX1_requireGuard, .initialized RX1, .code yX1_requireGuard cX1_requireGuard 2 none, .classLink RX1 208 "java/lang/IndexOutOfBoundsException", .initialized "java/lang/IndexOutOfBoundsException", .methodLink RX1 213 yX0_isGuard, .instanceMethod yX0_isGuard, .selects RX0 yX0_isGuard yX0_isGuard, .initialized RX0, .code yX0_isGuard cX0_isGuard 2 (some .boolean), .fieldLink RX0 46 "SleepBorder$Border" "guardCount" "I"] ++ wsX10 ++ wsX00 ++ (vx_atS RX1 212 "java/lang/IndexOutOfBoundsException" ["java/lang/RuntimeException", "java/lang/Exception"]).filter goodWord)
def wsX1_searches : List Cond := .code yX1_searches cX1_searches 2 (some .int) :: ([.fieldLink RX1 10 "SleepBorder" "now" "LSleepBorder$Border;", .fieldLink RX1 103 "SleepBorder$Border" "searched" "[I", .methodLink RX1 62 yX1_requireGuard, .instanceMethod yX1_requireGuard, .selects RX1 yX1_requireGuard yX1_requireGuard, .initialized RX1, .code yX1_requireGuard cX1_requireGuard 2 none, .classLink RX1 208 "java/lang/IndexOutOfBoundsException", .initialized "java/lang/IndexOutOfBoundsException", .methodLink RX1 213 yX0_isGuard, .instanceMethod yX0_isGuard, .selects RX0 yX0_isGuard yX0_isGuard, .initialized RX0, .code yX0_isGuard cX0_isGuard 2 (some .boolean), .fieldLink RX0 46 "SleepBorder$Border" "guardCount" "I"] ++ wsX10 ++ wsX00 ++ (vx_atS RX1 212 "java/lang/IndexOutOfBoundsException" ["java/lang/RuntimeException", "java/lang/Exception"]).filter goodWord)
def wsX1_minutesToGo : List Cond := .code yX1_minutesToGo cX1_minutesToGo 2 (some .int) :: ([.fieldLink RX1 10 "SleepBorder" "now" "LSleepBorder$Border;", .fieldLink RX1 106 "SleepBorder$Border" "searchLeft" "[I", .methodLink RX1 62 yX1_requireGuard, .instanceMethod yX1_requireGuard, .selects RX1 yX1_requireGuard yX1_requireGuard, .initialized RX1, .code yX1_requireGuard cX1_requireGuard 2 none, .classLink RX1 208 "java/lang/IndexOutOfBoundsException", .initialized "java/lang/IndexOutOfBoundsException", .methodLink RX1 213 yX0_isGuard, .instanceMethod yX0_isGuard, .selects RX0 yX0_isGuard yX0_isGuard, .initialized RX0, .code yX0_isGuard cX0_isGuard 2 (some .boolean), .fieldLink RX0 46 "SleepBorder$Border" "guardCount" "I"] ++ wsX10 ++ wsX00 ++ (vx_atS RX1 212 "java/lang/IndexOutOfBoundsException" ["java/lang/RuntimeException", "java/lang/Exception"]).filter goodWord)
def wsX1_wouldFind_r1 : List Cond := [Cond.fieldLink RX1 10 "SleepBorder" "now" "LSleepBorder$Border;", Cond.methodLink RX1 62 yX1_requireGuard, Cond.instanceMethod yX1_requireGuard, Cond.selects RX1 yX1_requireGuard yX1_requireGuard, Cond.initialized RX1, Cond.code yX1_requireGuard cX1_requireGuard 2 none, Cond.classLink RX1 208 "java/lang/IndexOutOfBoundsException", Cond.initialized "java/lang/IndexOutOfBoundsException", Cond.methodLink RX1 213 yX0_isGuard, Cond.instanceMethod yX0_isGuard, Cond.selects RX0 yX0_isGuard yX0_isGuard, Cond.initialized RX0, Cond.code yX0_isGuard cX0_isGuard 2 (some .boolean), Cond.fieldLink RX0 46 "SleepBorder$Border" "guardCount" "I", Cond.methodLink RX1 49 yX1_requireTraveller, Cond.instanceMethod yX1_requireTraveller, Cond.selects RX1 yX1_requireTraveller yX1_requireTraveller, Cond.code yX1_requireTraveller cX1_requireTraveller 2 none, Cond.methodLink RX1 204 yX0_isTraveller, Cond.instanceMethod yX0_isTraveller, Cond.selects RX0 yX0_isTraveller yX0_isTraveller, Cond.code yX0_isTraveller cX0_isTraveller 2 (some .boolean), Cond.fieldLink RX0 21 "SleepBorder$Border" "travellerCount" "I", Cond.methodLink RX1 109 yX0_finds]
def wsX1_wouldFind_r2 : List Cond := [Cond.instanceMethod yX0_finds, Cond.selects RX0 yX0_finds yX0_finds, Cond.code yX0_finds cX0_finds 4 (some .boolean), Cond.fieldLink RX0 49 "SleepBorder$Border" "alertness" "[I", Cond.methodLink RX0 68 yX0_hiddenDreams, Cond.instanceMethod yX0_hiddenDreams, Cond.selects RX0 yX0_hiddenDreams yX0_hiddenDreams, Cond.code yX0_hiddenDreams cX0_hiddenDreams 2 (some .int), Cond.fieldLink RX0 24 "SleepBorder$Border" "dreams" "[I", Cond.fieldLink RX0 28 "SleepBorder$Border" "declared" "[I", Cond.methodLink RX0 58 Lib.Math.max.name, Cond.static Lib.Math.max.name, Cond.initialized "java/lang/Math", Cond.code Lib.Math.max.name Lib.Math.max.code 2 (some .int)]
def wsX1_wouldFind : List Cond := .code yX1_wouldFind cX1_wouldFind 3 (some .boolean) :: ((wsX1_wouldFind_r1 ++ wsX1_wouldFind_r2) ++ wsX10 ++ wsX00 ++ (vx_atS RX1 212 "java/lang/IndexOutOfBoundsException" ["java/lang/RuntimeException", "java/lang/Exception"]).filter goodWord)
def wsX1_mostAlert : List Cond := .code yX1_mostAlert cX1_mostAlert 4 (some .int) :: ([.fieldLink RX1 10 "SleepBorder" "now" "LSleepBorder$Border;", .fieldLink RX1 19 "SleepBorder$Border" "guardCount" "I", .fieldLink RX1 65 "SleepBorder$Border" "alertness" "[I"] ++ wsX10 ++ wsX00)
def wsX1_foreseenSleep : List Cond := .code yX1_foreseenSleep cX1_foreseenSleep 2 (some .int) :: ([.fieldLink RX1 10 "SleepBorder" "now" "LSleepBorder$Border;", .fieldLink RX1 91 "SleepBorder$Border" "state" "[I", .fieldLink RX1 16 "SleepBorder" "trial" "LSleepBorder$Border;", .fieldLink RX1 201 "SleepBorder$Border" "asleepSince" "[I", .fieldLink RX1 75 "SleepBorder$Border" "clock" "I"] ++ wsX10 ++ wsX00)
def wsX1_minutesUntilAsleep_r1 : List Cond := [Cond.fieldLink RX1 16 "SleepBorder" "trial" "LSleepBorder$Border;", Cond.fieldLink RX1 10 "SleepBorder" "now" "LSleepBorder$Border;", Cond.methodLink RX1 49 yX1_requireTraveller, Cond.instanceMethod yX1_requireTraveller, Cond.selects RX1 yX1_requireTraveller yX1_requireTraveller, Cond.initialized RX1, Cond.code yX1_requireTraveller cX1_requireTraveller 2 none, Cond.classLink RX1 208 "java/lang/IndexOutOfBoundsException", Cond.initialized "java/lang/IndexOutOfBoundsException", Cond.methodLink RX1 204 yX0_isTraveller, Cond.instanceMethod yX0_isTraveller, Cond.selects RX0 yX0_isTraveller yX0_isTraveller, Cond.initialized RX0, Cond.code yX0_isTraveller cX0_isTraveller 2 (some .boolean), Cond.fieldLink RX0 21 "SleepBorder$Border" "travellerCount" "I", Cond.methodLink RX1 113 yX0_become, Cond.instanceMethod yX0_become, Cond.selects RX0 yX0_become yX0_become, Cond.code yX0_become cX0_become 3 none, Cond.fieldLink RX0 9 "SleepBorder$Border" "clock" "I", Cond.fieldLink RX0 15 "SleepBorder$Border" "expiredCount" "I", Cond.fieldLink RX0 18 "SleepBorder$Border" "till" "I", Cond.fieldLink RX0 24 "SleepBorder$Border" "dreams" "[I", Cond.fieldLink RX0 28 "SleepBorder$Border" "declared" "[I"]
def wsX1_minutesUntilAsleep_r2 : List Cond := [Cond.fieldLink RX0 31 "SleepBorder$Border" "snore" "[I", Cond.fieldLink RX0 34 "SleepBorder$Border" "lullaby" "[I", Cond.fieldLink RX0 37 "SleepBorder$Border" "state" "[I", Cond.fieldLink RX0 40 "SleepBorder$Border" "transitLeft" "[I", Cond.fieldLink RX0 43 "SleepBorder$Border" "asleepSince" "[I", Cond.fieldLink RX0 46 "SleepBorder$Border" "guardCount" "I", Cond.fieldLink RX0 49 "SleepBorder$Border" "alertness" "[I", Cond.fieldLink RX0 52 "SleepBorder$Border" "searched" "[I", Cond.fieldLink RX0 55 "SleepBorder$Border" "searchLeft" "[I", Cond.methodLink RX1 117 yX0_goOn, Cond.instanceMethod yX0_goOn, Cond.selects RX0 yX0_goOn yX0_goOn, Cond.code yX0_goOn cX0_goOn 3 none, Cond.methodLink RX0 72 yX0_isSettled, Cond.instanceMethod yX0_isSettled, Cond.selects RX0 yX0_isSettled yX0_isSettled, Cond.code yX0_isSettled cX0_isSettled 2 (some .boolean), Cond.methodLink RX0 76 yX0_goOneMinute, Cond.instanceMethod yX0_goOneMinute, Cond.selects RX0 yX0_goOneMinute yX0_goOneMinute, Cond.code yX0_goOneMinute cX0_goOneMinute 2 none, Cond.methodLink RX0 79 yX0_advanceTransits, Cond.instanceMethod yX0_advanceTransits, Cond.selects RX0 yX0_advanceTransits yX0_advanceTransits]
def wsX1_minutesUntilAsleep_r3 : List Cond := [Cond.code yX0_advanceTransits cX0_advanceTransits 2 none, Cond.methodLink RX0 82 yX0_shortenLullabies, Cond.instanceMethod yX0_shortenLullabies, Cond.selects RX0 yX0_shortenLullabies yX0_shortenLullabies, Cond.code yX0_shortenLullabies cX0_shortenLullabies 2 none, Cond.methodLink RX0 85 yX0_work, Cond.instanceMethod yX0_work, Cond.selects RX0 yX0_work yX0_work, Cond.code yX0_work cX0_work 4 none, Cond.methodLink RX0 103 Lib.Math.min.name, Cond.static Lib.Math.min.name, Cond.initialized "java/lang/Math", Cond.code Lib.Math.min.name Lib.Math.min.code 2 (some .int), Cond.methodLink RX0 89 yX0_isTraveller, Cond.methodLink RX0 93 yX0_searchOn, Cond.instanceMethod yX0_searchOn, Cond.selects RX0 yX0_searchOn yX0_searchOn, Cond.code yX0_searchOn cX0_searchOn 3 none, Cond.methodLink RX0 58 Lib.Math.max.name, Cond.static Lib.Math.max.name, Cond.code Lib.Math.max.name Lib.Math.max.code 2 (some .int), Cond.methodLink RX0 109 yX0_finds, Cond.instanceMethod yX0_finds, Cond.selects RX0 yX0_finds yX0_finds]
def wsX1_minutesUntilAsleep_r4 : List Cond := [Cond.code yX0_finds cX0_finds 4 (some .boolean), Cond.methodLink RX0 68 yX0_hiddenDreams, Cond.instanceMethod yX0_hiddenDreams, Cond.selects RX0 yX0_hiddenDreams yX0_hiddenDreams, Cond.code yX0_hiddenDreams cX0_hiddenDreams 2 (some .int), Cond.methodLink RX0 97 yX0_firstWaiting, Cond.instanceMethod yX0_firstWaiting, Cond.selects RX0 yX0_firstWaiting yX0_firstWaiting, Cond.code yX0_firstWaiting cX0_firstWaiting 2 (some .int), Cond.methodLink RX0 100 yX0_beginSearch, Cond.instanceMethod yX0_beginSearch, Cond.selects RX0 yX0_beginSearch yX0_beginSearch, Cond.code yX0_beginSearch cX0_beginSearch 3 none, Cond.methodLink RX0 106 yX0_searchMinutes, Cond.instanceMethod yX0_searchMinutes, Cond.selects RX0 yX0_searchMinutes yX0_searchMinutes, Cond.code yX0_searchMinutes cX0_searchMinutes 2 (some .int), Cond.methodLink RX0 64 yX0_addedSnores, Cond.instanceMethod yX0_addedSnores, Cond.selects RX0 yX0_addedSnores yX0_addedSnores, Cond.code yX0_addedSnores cX0_addedSnores 3 (some .int), Cond.methodLink RX1 120 yX1_foreseenSleep, Cond.instanceMethod yX1_foreseenSleep, Cond.selects RX1 yX1_foreseenSleep yX1_foreseenSleep]
def wsX1_minutesUntilAsleep_r5 : List Cond := [Cond.code yX1_foreseenSleep cX1_foreseenSleep 2 (some .int), Cond.fieldLink RX1 91 "SleepBorder$Border" "state" "[I", Cond.fieldLink RX1 201 "SleepBorder$Border" "asleepSince" "[I", Cond.fieldLink RX1 75 "SleepBorder$Border" "clock" "I"]
def wsX1_minutesUntilAsleep : List Cond := .code yX1_minutesUntilAsleep cX1_minutesUntilAsleep 2 (some .int) :: ((wsX1_minutesUntilAsleep_r1 ++ (wsX1_minutesUntilAsleep_r2 ++ (wsX1_minutesUntilAsleep_r3 ++ (wsX1_minutesUntilAsleep_r4 ++ wsX1_minutesUntilAsleep_r5)))) ++ wsX10 ++ wsX00 ++ (vx_atS RX1 212 "java/lang/IndexOutOfBoundsException" ["java/lang/RuntimeException", "java/lang/Exception"]).filter goodWord)
def wsX1_asleepIn_r1 : List Cond := [Cond.fieldLink RX1 16 "SleepBorder" "trial" "LSleepBorder$Border;", Cond.fieldLink RX1 10 "SleepBorder" "now" "LSleepBorder$Border;", Cond.methodLink RX1 37 yX1_requireMinutes, Cond.static yX1_requireMinutes, Cond.initialized RX1, Cond.code yX1_requireMinutes cX1_requireMinutes 1 none, Cond.classLink RX1 218 "java/lang/IllegalArgumentException", Cond.initialized "java/lang/IllegalArgumentException", Cond.methodLink RX1 113 yX0_become, Cond.instanceMethod yX0_become, Cond.selects RX0 yX0_become yX0_become, Cond.initialized RX0, Cond.code yX0_become cX0_become 3 none, Cond.fieldLink RX0 9 "SleepBorder$Border" "clock" "I", Cond.fieldLink RX0 15 "SleepBorder$Border" "expiredCount" "I", Cond.fieldLink RX0 18 "SleepBorder$Border" "till" "I", Cond.fieldLink RX0 21 "SleepBorder$Border" "travellerCount" "I", Cond.fieldLink RX0 24 "SleepBorder$Border" "dreams" "[I", Cond.fieldLink RX0 28 "SleepBorder$Border" "declared" "[I", Cond.fieldLink RX0 31 "SleepBorder$Border" "snore" "[I", Cond.fieldLink RX0 34 "SleepBorder$Border" "lullaby" "[I", Cond.fieldLink RX0 37 "SleepBorder$Border" "state" "[I", Cond.fieldLink RX0 40 "SleepBorder$Border" "transitLeft" "[I", Cond.fieldLink RX0 43 "SleepBorder$Border" "asleepSince" "[I"]
def wsX1_asleepIn_r2 : List Cond := [Cond.fieldLink RX0 46 "SleepBorder$Border" "guardCount" "I", Cond.fieldLink RX0 49 "SleepBorder$Border" "alertness" "[I", Cond.fieldLink RX0 52 "SleepBorder$Border" "searched" "[I", Cond.fieldLink RX0 55 "SleepBorder$Border" "searchLeft" "[I", Cond.methodLink RX1 117 yX0_goOn, Cond.instanceMethod yX0_goOn, Cond.selects RX0 yX0_goOn yX0_goOn, Cond.code yX0_goOn cX0_goOn 3 none, Cond.methodLink RX0 72 yX0_isSettled, Cond.instanceMethod yX0_isSettled, Cond.selects RX0 yX0_isSettled yX0_isSettled, Cond.code yX0_isSettled cX0_isSettled 2 (some .boolean), Cond.methodLink RX0 76 yX0_goOneMinute, Cond.instanceMethod yX0_goOneMinute, Cond.selects RX0 yX0_goOneMinute yX0_goOneMinute, Cond.code yX0_goOneMinute cX0_goOneMinute 2 none, Cond.methodLink RX0 79 yX0_advanceTransits, Cond.instanceMethod yX0_advanceTransits, Cond.selects RX0 yX0_advanceTransits yX0_advanceTransits, Cond.code yX0_advanceTransits cX0_advanceTransits 2 none, Cond.methodLink RX0 82 yX0_shortenLullabies, Cond.instanceMethod yX0_shortenLullabies, Cond.selects RX0 yX0_shortenLullabies yX0_shortenLullabies, Cond.code yX0_shortenLullabies cX0_shortenLullabies 2 none]
def wsX1_asleepIn_r3 : List Cond := [Cond.methodLink RX0 85 yX0_work, Cond.instanceMethod yX0_work, Cond.selects RX0 yX0_work yX0_work, Cond.code yX0_work cX0_work 4 none, Cond.methodLink RX0 103 Lib.Math.min.name, Cond.static Lib.Math.min.name, Cond.initialized "java/lang/Math", Cond.code Lib.Math.min.name Lib.Math.min.code 2 (some .int), Cond.methodLink RX0 89 yX0_isTraveller, Cond.instanceMethod yX0_isTraveller, Cond.selects RX0 yX0_isTraveller yX0_isTraveller, Cond.code yX0_isTraveller cX0_isTraveller 2 (some .boolean), Cond.methodLink RX0 93 yX0_searchOn, Cond.instanceMethod yX0_searchOn, Cond.selects RX0 yX0_searchOn yX0_searchOn, Cond.code yX0_searchOn cX0_searchOn 3 none, Cond.methodLink RX0 58 Lib.Math.max.name, Cond.static Lib.Math.max.name, Cond.code Lib.Math.max.name Lib.Math.max.code 2 (some .int), Cond.methodLink RX0 109 yX0_finds, Cond.instanceMethod yX0_finds, Cond.selects RX0 yX0_finds yX0_finds, Cond.code yX0_finds cX0_finds 4 (some .boolean), Cond.methodLink RX0 68 yX0_hiddenDreams]
def wsX1_asleepIn_r4 : List Cond := [Cond.instanceMethod yX0_hiddenDreams, Cond.selects RX0 yX0_hiddenDreams yX0_hiddenDreams, Cond.code yX0_hiddenDreams cX0_hiddenDreams 2 (some .int), Cond.methodLink RX0 97 yX0_firstWaiting, Cond.instanceMethod yX0_firstWaiting, Cond.selects RX0 yX0_firstWaiting yX0_firstWaiting, Cond.code yX0_firstWaiting cX0_firstWaiting 2 (some .int), Cond.methodLink RX0 100 yX0_beginSearch, Cond.instanceMethod yX0_beginSearch, Cond.selects RX0 yX0_beginSearch yX0_beginSearch, Cond.code yX0_beginSearch cX0_beginSearch 3 none, Cond.methodLink RX0 106 yX0_searchMinutes, Cond.instanceMethod yX0_searchMinutes, Cond.selects RX0 yX0_searchMinutes yX0_searchMinutes, Cond.code yX0_searchMinutes cX0_searchMinutes 2 (some .int), Cond.methodLink RX0 64 yX0_addedSnores, Cond.instanceMethod yX0_addedSnores, Cond.selects RX0 yX0_addedSnores yX0_addedSnores, Cond.code yX0_addedSnores cX0_addedSnores 3 (some .int), Cond.methodLink RX1 68 yX0_countIn, Cond.instanceMethod yX0_countIn, Cond.selects RX0 yX0_countIn yX0_countIn, Cond.code yX0_countIn cX0_countIn 4 (some .int)]
def wsX1_asleepIn : List Cond := .code yX1_asleepIn cX1_asleepIn 2 (some .int) :: ((wsX1_asleepIn_r1 ++ (wsX1_asleepIn_r2 ++ (wsX1_asleepIn_r3 ++ wsX1_asleepIn_r4))) ++ wsX10 ++ wsX00 ++ (vx_atS RX1 222 "java/lang/IllegalArgumentException" ["java/lang/RuntimeException", "java/lang/Exception"]).filter goodWord)
def wsX1_bestToDeclare_r1 : List Cond := [Cond.fieldLink RX1 10 "SleepBorder" "now" "LSleepBorder$Border;", Cond.fieldLink RX1 91 "SleepBorder$Border" "state" "[I", Cond.fieldLink RX1 16 "SleepBorder" "trial" "LSleepBorder$Border;", Cond.fieldLink RX1 55 "SleepBorder$Border" "declared" "[I", Cond.methodLink RX1 49 yX1_requireTraveller, Cond.instanceMethod yX1_requireTraveller, Cond.selects RX1 yX1_requireTraveller yX1_requireTraveller, Cond.initialized RX1, Cond.code yX1_requireTraveller cX1_requireTraveller 2 none, Cond.classLink RX1 208 "java/lang/IndexOutOfBoundsException", Cond.initialized "java/lang/IndexOutOfBoundsException", Cond.methodLink RX1 204 yX0_isTraveller, Cond.instanceMethod yX0_isTraveller, Cond.selects RX0 yX0_isTraveller yX0_isTraveller, Cond.initialized RX0, Cond.code yX0_isTraveller cX0_isTraveller 2 (some .boolean), Cond.fieldLink RX0 21 "SleepBorder$Border" "travellerCount" "I", Cond.methodLink RX1 113 yX0_become, Cond.instanceMethod yX0_become, Cond.selects RX0 yX0_become yX0_become, Cond.code yX0_become cX0_become 3 none, Cond.fieldLink RX0 9 "SleepBorder$Border" "clock" "I", Cond.fieldLink RX0 15 "SleepBorder$Border" "expiredCount" "I", Cond.fieldLink RX0 18 "SleepBorder$Border" "till" "I"]
def wsX1_bestToDeclare_r2 : List Cond := [Cond.fieldLink RX0 24 "SleepBorder$Border" "dreams" "[I", Cond.fieldLink RX0 28 "SleepBorder$Border" "declared" "[I", Cond.fieldLink RX0 31 "SleepBorder$Border" "snore" "[I", Cond.fieldLink RX0 34 "SleepBorder$Border" "lullaby" "[I", Cond.fieldLink RX0 37 "SleepBorder$Border" "state" "[I", Cond.fieldLink RX0 40 "SleepBorder$Border" "transitLeft" "[I", Cond.fieldLink RX0 43 "SleepBorder$Border" "asleepSince" "[I", Cond.fieldLink RX0 46 "SleepBorder$Border" "guardCount" "I", Cond.fieldLink RX0 49 "SleepBorder$Border" "alertness" "[I", Cond.fieldLink RX0 52 "SleepBorder$Border" "searched" "[I", Cond.fieldLink RX0 55 "SleepBorder$Border" "searchLeft" "[I", Cond.methodLink RX1 117 yX0_goOn, Cond.instanceMethod yX0_goOn, Cond.selects RX0 yX0_goOn yX0_goOn, Cond.code yX0_goOn cX0_goOn 3 none, Cond.methodLink RX0 72 yX0_isSettled, Cond.instanceMethod yX0_isSettled, Cond.selects RX0 yX0_isSettled yX0_isSettled, Cond.code yX0_isSettled cX0_isSettled 2 (some .boolean), Cond.methodLink RX0 76 yX0_goOneMinute, Cond.instanceMethod yX0_goOneMinute, Cond.selects RX0 yX0_goOneMinute yX0_goOneMinute, Cond.code yX0_goOneMinute cX0_goOneMinute 2 none, Cond.methodLink RX0 79 yX0_advanceTransits]
def wsX1_bestToDeclare_r3 : List Cond := [Cond.instanceMethod yX0_advanceTransits, Cond.selects RX0 yX0_advanceTransits yX0_advanceTransits, Cond.code yX0_advanceTransits cX0_advanceTransits 2 none, Cond.methodLink RX0 82 yX0_shortenLullabies, Cond.instanceMethod yX0_shortenLullabies, Cond.selects RX0 yX0_shortenLullabies yX0_shortenLullabies, Cond.code yX0_shortenLullabies cX0_shortenLullabies 2 none, Cond.methodLink RX0 85 yX0_work, Cond.instanceMethod yX0_work, Cond.selects RX0 yX0_work yX0_work, Cond.code yX0_work cX0_work 4 none, Cond.methodLink RX0 103 Lib.Math.min.name, Cond.static Lib.Math.min.name, Cond.initialized "java/lang/Math", Cond.code Lib.Math.min.name Lib.Math.min.code 2 (some .int), Cond.methodLink RX0 89 yX0_isTraveller, Cond.methodLink RX0 93 yX0_searchOn, Cond.instanceMethod yX0_searchOn, Cond.selects RX0 yX0_searchOn yX0_searchOn, Cond.code yX0_searchOn cX0_searchOn 3 none, Cond.methodLink RX0 58 Lib.Math.max.name, Cond.static Lib.Math.max.name, Cond.code Lib.Math.max.name Lib.Math.max.code 2 (some .int), Cond.methodLink RX0 109 yX0_finds]
def wsX1_bestToDeclare_r4 : List Cond := [Cond.instanceMethod yX0_finds, Cond.selects RX0 yX0_finds yX0_finds, Cond.code yX0_finds cX0_finds 4 (some .boolean), Cond.methodLink RX0 68 yX0_hiddenDreams, Cond.instanceMethod yX0_hiddenDreams, Cond.selects RX0 yX0_hiddenDreams yX0_hiddenDreams, Cond.code yX0_hiddenDreams cX0_hiddenDreams 2 (some .int), Cond.methodLink RX0 97 yX0_firstWaiting, Cond.instanceMethod yX0_firstWaiting, Cond.selects RX0 yX0_firstWaiting yX0_firstWaiting, Cond.code yX0_firstWaiting cX0_firstWaiting 2 (some .int), Cond.methodLink RX0 100 yX0_beginSearch, Cond.instanceMethod yX0_beginSearch, Cond.selects RX0 yX0_beginSearch yX0_beginSearch, Cond.code yX0_beginSearch cX0_beginSearch 3 none, Cond.methodLink RX0 106 yX0_searchMinutes, Cond.instanceMethod yX0_searchMinutes, Cond.selects RX0 yX0_searchMinutes yX0_searchMinutes, Cond.code yX0_searchMinutes cX0_searchMinutes 2 (some .int), Cond.methodLink RX0 64 yX0_addedSnores, Cond.instanceMethod yX0_addedSnores, Cond.selects RX0 yX0_addedSnores yX0_addedSnores, Cond.code yX0_addedSnores cX0_addedSnores 3 (some .int), Cond.methodLink RX1 120 yX1_foreseenSleep]
def wsX1_bestToDeclare_r5 : List Cond := [Cond.instanceMethod yX1_foreseenSleep, Cond.selects RX1 yX1_foreseenSleep yX1_foreseenSleep, Cond.code yX1_foreseenSleep cX1_foreseenSleep 2 (some .int), Cond.fieldLink RX1 201 "SleepBorder$Border" "asleepSince" "[I", Cond.fieldLink RX1 75 "SleepBorder$Border" "clock" "I"]
def wsX1_bestToDeclare : List Cond := .code yX1_bestToDeclare cX1_bestToDeclare 6 (some .int) :: ((wsX1_bestToDeclare_r1 ++ (wsX1_bestToDeclare_r2 ++ (wsX1_bestToDeclare_r3 ++ (wsX1_bestToDeclare_r4 ++ wsX1_bestToDeclare_r5)))) ++ wsX10 ++ wsX00 ++ (vx_atS RX1 212 "java/lang/IndexOutOfBoundsException" ["java/lang/RuntimeException", "java/lang/Exception"]).filter goodWord)
def wsX1_guardsWanted_r1 : List Cond := [Cond.fieldLink RX1 16 "SleepBorder" "trial" "LSleepBorder$Border;", Cond.fieldLink RX1 10 "SleepBorder" "now" "LSleepBorder$Border;", Cond.fieldLink RX1 78 "SleepBorder$Border" "expiredCount" "I", Cond.methodLink RX1 113 yX0_become, Cond.instanceMethod yX0_become, Cond.selects RX0 yX0_become yX0_become, Cond.initialized RX0, Cond.code yX0_become cX0_become 3 none, Cond.fieldLink RX0 9 "SleepBorder$Border" "clock" "I", Cond.fieldLink RX0 15 "SleepBorder$Border" "expiredCount" "I", Cond.fieldLink RX0 18 "SleepBorder$Border" "till" "I", Cond.fieldLink RX0 21 "SleepBorder$Border" "travellerCount" "I", Cond.fieldLink RX0 24 "SleepBorder$Border" "dreams" "[I", Cond.fieldLink RX0 28 "SleepBorder$Border" "declared" "[I", Cond.fieldLink RX0 31 "SleepBorder$Border" "snore" "[I", Cond.fieldLink RX0 34 "SleepBorder$Border" "lullaby" "[I", Cond.fieldLink RX0 37 "SleepBorder$Border" "state" "[I", Cond.fieldLink RX0 40 "SleepBorder$Border" "transitLeft" "[I", Cond.fieldLink RX0 43 "SleepBorder$Border" "asleepSince" "[I", Cond.fieldLink RX0 46 "SleepBorder$Border" "guardCount" "I", Cond.fieldLink RX0 49 "SleepBorder$Border" "alertness" "[I", Cond.fieldLink RX0 52 "SleepBorder$Border" "searched" "[I", Cond.fieldLink RX0 55 "SleepBorder$Border" "searchLeft" "[I", Cond.methodLink RX1 30 yX0_admitGuard]
def wsX1_guardsWanted_r2 : List Cond := [Cond.instanceMethod yX0_admitGuard, Cond.selects RX0 yX0_admitGuard yX0_admitGuard, Cond.code yX0_admitGuard cX0_admitGuard 1 none, Cond.methodLink RX1 117 yX0_goOn, Cond.instanceMethod yX0_goOn, Cond.selects RX0 yX0_goOn yX0_goOn, Cond.code yX0_goOn cX0_goOn 3 none, Cond.methodLink RX0 72 yX0_isSettled, Cond.instanceMethod yX0_isSettled, Cond.selects RX0 yX0_isSettled yX0_isSettled, Cond.code yX0_isSettled cX0_isSettled 2 (some .boolean), Cond.methodLink RX0 76 yX0_goOneMinute, Cond.instanceMethod yX0_goOneMinute, Cond.selects RX0 yX0_goOneMinute yX0_goOneMinute, Cond.code yX0_goOneMinute cX0_goOneMinute 2 none, Cond.methodLink RX0 79 yX0_advanceTransits, Cond.instanceMethod yX0_advanceTransits, Cond.selects RX0 yX0_advanceTransits yX0_advanceTransits, Cond.code yX0_advanceTransits cX0_advanceTransits 2 none, Cond.methodLink RX0 82 yX0_shortenLullabies, Cond.instanceMethod yX0_shortenLullabies, Cond.selects RX0 yX0_shortenLullabies yX0_shortenLullabies, Cond.code yX0_shortenLullabies cX0_shortenLullabies 2 none, Cond.methodLink RX0 85 yX0_work]
def wsX1_guardsWanted_r3 : List Cond := [Cond.instanceMethod yX0_work, Cond.selects RX0 yX0_work yX0_work, Cond.code yX0_work cX0_work 4 none, Cond.methodLink RX0 103 Lib.Math.min.name, Cond.static Lib.Math.min.name, Cond.initialized "java/lang/Math", Cond.code Lib.Math.min.name Lib.Math.min.code 2 (some .int), Cond.methodLink RX0 89 yX0_isTraveller, Cond.instanceMethod yX0_isTraveller, Cond.selects RX0 yX0_isTraveller yX0_isTraveller, Cond.code yX0_isTraveller cX0_isTraveller 2 (some .boolean), Cond.methodLink RX0 93 yX0_searchOn, Cond.instanceMethod yX0_searchOn, Cond.selects RX0 yX0_searchOn yX0_searchOn, Cond.code yX0_searchOn cX0_searchOn 3 none, Cond.methodLink RX0 58 Lib.Math.max.name, Cond.static Lib.Math.max.name, Cond.code Lib.Math.max.name Lib.Math.max.code 2 (some .int), Cond.methodLink RX0 109 yX0_finds, Cond.instanceMethod yX0_finds, Cond.selects RX0 yX0_finds yX0_finds, Cond.code yX0_finds cX0_finds 4 (some .boolean), Cond.methodLink RX0 68 yX0_hiddenDreams, Cond.instanceMethod yX0_hiddenDreams]
def wsX1_guardsWanted_r4 : List Cond := [Cond.selects RX0 yX0_hiddenDreams yX0_hiddenDreams, Cond.code yX0_hiddenDreams cX0_hiddenDreams 2 (some .int), Cond.methodLink RX0 97 yX0_firstWaiting, Cond.instanceMethod yX0_firstWaiting, Cond.selects RX0 yX0_firstWaiting yX0_firstWaiting, Cond.code yX0_firstWaiting cX0_firstWaiting 2 (some .int), Cond.methodLink RX0 100 yX0_beginSearch, Cond.instanceMethod yX0_beginSearch, Cond.selects RX0 yX0_beginSearch yX0_beginSearch, Cond.code yX0_beginSearch cX0_beginSearch 3 none, Cond.methodLink RX0 106 yX0_searchMinutes, Cond.instanceMethod yX0_searchMinutes, Cond.selects RX0 yX0_searchMinutes yX0_searchMinutes, Cond.code yX0_searchMinutes cX0_searchMinutes 2 (some .int), Cond.methodLink RX0 64 yX0_addedSnores, Cond.instanceMethod yX0_addedSnores, Cond.selects RX0 yX0_addedSnores yX0_addedSnores, Cond.code yX0_addedSnores cX0_addedSnores 3 (some .int)]
def wsX1_guardsWanted : List Cond := .code yX1_guardsWanted cX1_guardsWanted 3 (some .int) :: ((wsX1_guardsWanted_r1 ++ (wsX1_guardsWanted_r2 ++ (wsX1_guardsWanted_r3 ++ wsX1_guardsWanted_r4))) ++ wsX10 ++ wsX00)
def wsX1_meanAlertness : List Cond := .code yX1_meanAlertness cX1_meanAlertness 3 (some .double) :: ([.fieldLink RX1 10 "SleepBorder" "now" "LSleepBorder$Border;", .fieldLink RX1 19 "SleepBorder$Border" "guardCount" "I", .fieldLink RX1 65 "SleepBorder$Border" "alertness" "[I"] ++ wsX10 ++ wsX00)
def wsX1_mix : List Cond := .code yX1_mix cX1_mix 3 (some .long) :: ([.constantLong RX1 199 (31)])
def wsX1_mixTravellers_r1 : List Cond := [Cond.fieldLink RX1 16 "SleepBorder" "trial" "LSleepBorder$Border;", Cond.fieldLink RX1 10 "SleepBorder" "now" "LSleepBorder$Border;", Cond.fieldLink RX1 40 "SleepBorder$Border" "travellerCount" "I", Cond.methodLink RX1 113 yX0_become, Cond.instanceMethod yX0_become, Cond.selects RX0 yX0_become yX0_become, Cond.initialized RX0, Cond.code yX0_become cX0_become 3 none, Cond.fieldLink RX0 9 "SleepBorder$Border" "clock" "I", Cond.fieldLink RX0 15 "SleepBorder$Border" "expiredCount" "I", Cond.fieldLink RX0 18 "SleepBorder$Border" "till" "I", Cond.fieldLink RX0 21 "SleepBorder$Border" "travellerCount" "I", Cond.fieldLink RX0 24 "SleepBorder$Border" "dreams" "[I", Cond.fieldLink RX0 28 "SleepBorder$Border" "declared" "[I", Cond.fieldLink RX0 31 "SleepBorder$Border" "snore" "[I", Cond.fieldLink RX0 34 "SleepBorder$Border" "lullaby" "[I", Cond.fieldLink RX0 37 "SleepBorder$Border" "state" "[I", Cond.fieldLink RX0 40 "SleepBorder$Border" "transitLeft" "[I", Cond.fieldLink RX0 43 "SleepBorder$Border" "asleepSince" "[I", Cond.fieldLink RX0 46 "SleepBorder$Border" "guardCount" "I", Cond.fieldLink RX0 49 "SleepBorder$Border" "alertness" "[I", Cond.fieldLink RX0 52 "SleepBorder$Border" "searched" "[I", Cond.fieldLink RX0 55 "SleepBorder$Border" "searchLeft" "[I", Cond.methodLink RX1 117 yX0_goOn]
def wsX1_mixTravellers_r2 : List Cond := [Cond.instanceMethod yX0_goOn, Cond.selects RX0 yX0_goOn yX0_goOn, Cond.code yX0_goOn cX0_goOn 3 none, Cond.methodLink RX0 72 yX0_isSettled, Cond.instanceMethod yX0_isSettled, Cond.selects RX0 yX0_isSettled yX0_isSettled, Cond.code yX0_isSettled cX0_isSettled 2 (some .boolean), Cond.methodLink RX0 76 yX0_goOneMinute, Cond.instanceMethod yX0_goOneMinute, Cond.selects RX0 yX0_goOneMinute yX0_goOneMinute, Cond.code yX0_goOneMinute cX0_goOneMinute 2 none, Cond.methodLink RX0 79 yX0_advanceTransits, Cond.instanceMethod yX0_advanceTransits, Cond.selects RX0 yX0_advanceTransits yX0_advanceTransits, Cond.code yX0_advanceTransits cX0_advanceTransits 2 none, Cond.methodLink RX0 82 yX0_shortenLullabies, Cond.instanceMethod yX0_shortenLullabies, Cond.selects RX0 yX0_shortenLullabies yX0_shortenLullabies, Cond.code yX0_shortenLullabies cX0_shortenLullabies 2 none, Cond.methodLink RX0 85 yX0_work, Cond.instanceMethod yX0_work, Cond.selects RX0 yX0_work yX0_work, Cond.code yX0_work cX0_work 4 none, Cond.methodLink RX0 103 Lib.Math.min.name]
def wsX1_mixTravellers_r3 : List Cond := [Cond.static Lib.Math.min.name, Cond.initialized "java/lang/Math", Cond.code Lib.Math.min.name Lib.Math.min.code 2 (some .int), Cond.methodLink RX0 89 yX0_isTraveller, Cond.instanceMethod yX0_isTraveller, Cond.selects RX0 yX0_isTraveller yX0_isTraveller, Cond.code yX0_isTraveller cX0_isTraveller 2 (some .boolean), Cond.methodLink RX0 93 yX0_searchOn, Cond.instanceMethod yX0_searchOn, Cond.selects RX0 yX0_searchOn yX0_searchOn, Cond.code yX0_searchOn cX0_searchOn 3 none, Cond.methodLink RX0 58 Lib.Math.max.name, Cond.static Lib.Math.max.name, Cond.code Lib.Math.max.name Lib.Math.max.code 2 (some .int), Cond.methodLink RX0 109 yX0_finds, Cond.instanceMethod yX0_finds, Cond.selects RX0 yX0_finds yX0_finds, Cond.code yX0_finds cX0_finds 4 (some .boolean), Cond.methodLink RX0 68 yX0_hiddenDreams, Cond.instanceMethod yX0_hiddenDreams, Cond.selects RX0 yX0_hiddenDreams yX0_hiddenDreams, Cond.code yX0_hiddenDreams cX0_hiddenDreams 2 (some .int), Cond.methodLink RX0 97 yX0_firstWaiting, Cond.instanceMethod yX0_firstWaiting]
def wsX1_mixTravellers_r4 : List Cond := [Cond.selects RX0 yX0_firstWaiting yX0_firstWaiting, Cond.code yX0_firstWaiting cX0_firstWaiting 2 (some .int), Cond.methodLink RX0 100 yX0_beginSearch, Cond.instanceMethod yX0_beginSearch, Cond.selects RX0 yX0_beginSearch yX0_beginSearch, Cond.code yX0_beginSearch cX0_beginSearch 3 none, Cond.methodLink RX0 106 yX0_searchMinutes, Cond.instanceMethod yX0_searchMinutes, Cond.selects RX0 yX0_searchMinutes yX0_searchMinutes, Cond.code yX0_searchMinutes cX0_searchMinutes 2 (some .int), Cond.methodLink RX0 64 yX0_addedSnores, Cond.instanceMethod yX0_addedSnores, Cond.selects RX0 yX0_addedSnores yX0_addedSnores, Cond.code yX0_addedSnores cX0_addedSnores 3 (some .int), Cond.methodLink RX1 175 yX1_stateOf, Cond.instanceMethod yX1_stateOf, Cond.selects RX1 yX1_stateOf yX1_stateOf, Cond.initialized RX1, Cond.code yX1_stateOf cX1_stateOf 2 (some .int), Cond.fieldLink RX1 91 "SleepBorder$Border" "state" "[I", Cond.methodLink RX1 49 yX1_requireTraveller, Cond.instanceMethod yX1_requireTraveller, Cond.selects RX1 yX1_requireTraveller yX1_requireTraveller, Cond.code yX1_requireTraveller cX1_requireTraveller 2 none]
def wsX1_mixTravellers_r5 : List Cond := [Cond.classLink RX1 208 "java/lang/IndexOutOfBoundsException", Cond.initialized "java/lang/IndexOutOfBoundsException", Cond.methodLink RX1 204 yX0_isTraveller, Cond.methodLink RX1 128 yX1_mix, Cond.static yX1_mix, Cond.code yX1_mix cX1_mix 3 (some .long), Cond.constantLong RX1 199 (31), Cond.methodLink RX1 178 yX1_hiddenOf, Cond.instanceMethod yX1_hiddenOf, Cond.selects RX1 yX1_hiddenOf yX1_hiddenOf, Cond.code yX1_hiddenOf cX1_hiddenOf 2 (some .int), Cond.methodLink RX1 94 yX0_hiddenDreams, Cond.methodLink RX1 181 yX1_lullabyOf, Cond.instanceMethod yX1_lullabyOf, Cond.selects RX1 yX1_lullabyOf yX1_lullabyOf, Cond.code yX1_lullabyOf cX1_lullabyOf 2 (some .int), Cond.fieldLink RX1 59 "SleepBorder$Border" "lullaby" "[I", Cond.methodLink RX1 184 yX1_placeInLine, Cond.instanceMethod yX1_placeInLine, Cond.selects RX1 yX1_placeInLine yX1_placeInLine, Cond.code yX1_placeInLine cX1_placeInLine 2 (some .int), Cond.methodLink RX1 97 yX0_waitingAhead, Cond.instanceMethod yX0_waitingAhead, Cond.selects RX0 yX0_waitingAhead yX0_waitingAhead]
def wsX1_mixTravellers_r6 : List Cond := [Cond.code yX0_waitingAhead cX0_waitingAhead 4 (some .int), Cond.methodLink RX1 187 yX1_searchTime, Cond.instanceMethod yX1_searchTime, Cond.selects RX1 yX1_searchTime yX1_searchTime, Cond.code yX1_searchTime cX1_searchTime 2 (some .int), Cond.methodLink RX1 100 yX0_searchMinutes, Cond.methodLink RX1 120 yX1_foreseenSleep, Cond.instanceMethod yX1_foreseenSleep, Cond.selects RX1 yX1_foreseenSleep yX1_foreseenSleep, Cond.code yX1_foreseenSleep cX1_foreseenSleep 2 (some .int), Cond.fieldLink RX1 201 "SleepBorder$Border" "asleepSince" "[I", Cond.fieldLink RX1 75 "SleepBorder$Border" "clock" "I"]
def wsX1_mixTravellers : List Cond := .code yX1_mixTravellers cX1_mixTravellers 6 (some .long) :: ((wsX1_mixTravellers_r1 ++ (wsX1_mixTravellers_r2 ++ (wsX1_mixTravellers_r3 ++ (wsX1_mixTravellers_r4 ++ (wsX1_mixTravellers_r5 ++ wsX1_mixTravellers_r6))))) ++ wsX10 ++ wsX00 ++ (vx_atS RX1 212 "java/lang/IndexOutOfBoundsException" ["java/lang/RuntimeException", "java/lang/Exception"]).filter goodWord)
def wsX1_mixGuards_r1 : List Cond := [Cond.fieldLink RX1 10 "SleepBorder" "now" "LSleepBorder$Border;", Cond.fieldLink RX1 19 "SleepBorder$Border" "guardCount" "I", Cond.methodLink RX1 190 yX1_alertnessOf, Cond.instanceMethod yX1_alertnessOf, Cond.selects RX1 yX1_alertnessOf yX1_alertnessOf, Cond.initialized RX1, Cond.code yX1_alertnessOf cX1_alertnessOf 2 (some .int), Cond.fieldLink RX1 65 "SleepBorder$Border" "alertness" "[I", Cond.methodLink RX1 62 yX1_requireGuard, Cond.instanceMethod yX1_requireGuard, Cond.selects RX1 yX1_requireGuard yX1_requireGuard, Cond.code yX1_requireGuard cX1_requireGuard 2 none, Cond.classLink RX1 208 "java/lang/IndexOutOfBoundsException", Cond.initialized "java/lang/IndexOutOfBoundsException", Cond.methodLink RX1 213 yX0_isGuard, Cond.instanceMethod yX0_isGuard, Cond.selects RX0 yX0_isGuard yX0_isGuard, Cond.initialized RX0, Cond.code yX0_isGuard cX0_isGuard 2 (some .boolean), Cond.fieldLink RX0 46 "SleepBorder$Border" "guardCount" "I", Cond.methodLink RX1 128 yX1_mix, Cond.static yX1_mix, Cond.code yX1_mix cX1_mix 3 (some .long), Cond.constantLong RX1 199 (31)]
def wsX1_mixGuards_r2 : List Cond := [Cond.methodLink RX1 193 yX1_searches, Cond.instanceMethod yX1_searches, Cond.selects RX1 yX1_searches yX1_searches, Cond.code yX1_searches cX1_searches 2 (some .int), Cond.fieldLink RX1 103 "SleepBorder$Border" "searched" "[I", Cond.methodLink RX1 196 yX1_minutesToGo, Cond.instanceMethod yX1_minutesToGo, Cond.selects RX1 yX1_minutesToGo yX1_minutesToGo, Cond.code yX1_minutesToGo cX1_minutesToGo 2 (some .int), Cond.fieldLink RX1 106 "SleepBorder$Border" "searchLeft" "[I"]
def wsX1_mixGuards : List Cond := .code yX1_mixGuards cX1_mixGuards 6 (some .long) :: ((wsX1_mixGuards_r1 ++ wsX1_mixGuards_r2) ++ wsX10 ++ wsX00 ++ (vx_atS RX1 212 "java/lang/IndexOutOfBoundsException" ["java/lang/RuntimeException", "java/lang/Exception"]).filter goodWord)
def wsX1_digest_r1 : List Cond := [Cond.constantLong RX1 123 (2131), Cond.methodLink RX1 125 yX1_minute, Cond.instanceMethod yX1_minute, Cond.selects RX1 yX1_minute yX1_minute, Cond.initialized RX1, Cond.code yX1_minute cX1_minute 1 (some .int), Cond.fieldLink RX1 10 "SleepBorder" "now" "LSleepBorder$Border;", Cond.fieldLink RX1 75 "SleepBorder$Border" "clock" "I", Cond.methodLink RX1 128 yX1_mix, Cond.static yX1_mix, Cond.code yX1_mix cX1_mix 3 (some .long), Cond.constantLong RX1 199 (31), Cond.methodLink RX1 132 yX1_travellers, Cond.instanceMethod yX1_travellers, Cond.selects RX1 yX1_travellers yX1_travellers, Cond.code yX1_travellers cX1_travellers 1 (some .int), Cond.fieldLink RX1 40 "SleepBorder$Border" "travellerCount" "I", Cond.methodLink RX1 135 yX1_waiting, Cond.instanceMethod yX1_waiting, Cond.selects RX1 yX1_waiting yX1_waiting, Cond.code yX1_waiting cX1_waiting 1 (some .int), Cond.methodLink RX1 68 yX0_countIn, Cond.instanceMethod yX0_countIn, Cond.selects RX0 yX0_countIn yX0_countIn]
def wsX1_digest_r2 : List Cond := [Cond.initialized RX0, Cond.code yX0_countIn cX0_countIn 4 (some .int), Cond.fieldLink RX0 21 "SleepBorder$Border" "travellerCount" "I", Cond.fieldLink RX0 37 "SleepBorder$Border" "state" "[I", Cond.methodLink RX1 138 yX1_asleep, Cond.instanceMethod yX1_asleep, Cond.selects RX1 yX1_asleep yX1_asleep, Cond.code yX1_asleep cX1_asleep 1 (some .int), Cond.methodLink RX1 141 yX1_sentBack, Cond.instanceMethod yX1_sentBack, Cond.selects RX1 yX1_sentBack yX1_sentBack, Cond.code yX1_sentBack cX1_sentBack 1 (some .int), Cond.methodLink RX1 144 yX1_expired, Cond.instanceMethod yX1_expired, Cond.selects RX1 yX1_expired yX1_expired, Cond.code yX1_expired cX1_expired 1 (some .int), Cond.fieldLink RX1 78 "SleepBorder$Border" "expiredCount" "I", Cond.methodLink RX1 147 yX1_paid, Cond.instanceMethod yX1_paid, Cond.selects RX1 yX1_paid yX1_paid, Cond.code yX1_paid cX1_paid 1 (some .int), Cond.fieldLink RX1 81 "SleepBorder$Border" "till" "I", Cond.methodLink RX1 150 yX1_noise, Cond.instanceMethod yX1_noise]
def wsX1_digest_r3 : List Cond := [Cond.selects RX1 yX1_noise yX1_noise, Cond.code yX1_noise cX1_noise 1 (some .int), Cond.methodLink RX1 84 yX0_addedSnores, Cond.instanceMethod yX0_addedSnores, Cond.selects RX0 yX0_addedSnores yX0_addedSnores, Cond.code yX0_addedSnores cX0_addedSnores 3 (some .int), Cond.fieldLink RX0 31 "SleepBorder$Border" "snore" "[I", Cond.methodLink RX1 153 yX1_nextInLine, Cond.instanceMethod yX1_nextInLine, Cond.selects RX1 yX1_nextInLine yX1_nextInLine, Cond.code yX1_nextInLine cX1_nextInLine 1 (some .int), Cond.methodLink RX1 88 yX0_firstWaiting, Cond.instanceMethod yX0_firstWaiting, Cond.selects RX0 yX0_firstWaiting yX0_firstWaiting, Cond.code yX0_firstWaiting cX0_firstWaiting 2 (some .int), Cond.methodLink RX1 156 yX1_guards, Cond.instanceMethod yX1_guards, Cond.selects RX1 yX1_guards yX1_guards, Cond.code yX1_guards cX1_guards 1 (some .int), Cond.fieldLink RX1 19 "SleepBorder$Border" "guardCount" "I", Cond.methodLink RX1 159 yX1_mostAlert, Cond.instanceMethod yX1_mostAlert, Cond.selects RX1 yX1_mostAlert yX1_mostAlert, Cond.code yX1_mostAlert cX1_mostAlert 4 (some .int)]
def wsX1_digest_r4 : List Cond := [Cond.fieldLink RX1 65 "SleepBorder$Border" "alertness" "[I", Cond.methodLink RX1 162 yX1_asleepIn, Cond.instanceMethod yX1_asleepIn, Cond.selects RX1 yX1_asleepIn yX1_asleepIn, Cond.code yX1_asleepIn cX1_asleepIn 2 (some .int), Cond.fieldLink RX1 16 "SleepBorder" "trial" "LSleepBorder$Border;", Cond.methodLink RX1 37 yX1_requireMinutes, Cond.static yX1_requireMinutes, Cond.code yX1_requireMinutes cX1_requireMinutes 1 none, Cond.classLink RX1 218 "java/lang/IllegalArgumentException", Cond.initialized "java/lang/IllegalArgumentException", Cond.methodLink RX1 113 yX0_become, Cond.instanceMethod yX0_become, Cond.selects RX0 yX0_become yX0_become, Cond.code yX0_become cX0_become 3 none, Cond.fieldLink RX0 9 "SleepBorder$Border" "clock" "I", Cond.fieldLink RX0 15 "SleepBorder$Border" "expiredCount" "I", Cond.fieldLink RX0 18 "SleepBorder$Border" "till" "I", Cond.fieldLink RX0 24 "SleepBorder$Border" "dreams" "[I", Cond.fieldLink RX0 28 "SleepBorder$Border" "declared" "[I", Cond.fieldLink RX0 34 "SleepBorder$Border" "lullaby" "[I", Cond.fieldLink RX0 40 "SleepBorder$Border" "transitLeft" "[I", Cond.fieldLink RX0 43 "SleepBorder$Border" "asleepSince" "[I", Cond.fieldLink RX0 46 "SleepBorder$Border" "guardCount" "I"]
def wsX1_digest_r5 : List Cond := [Cond.fieldLink RX0 49 "SleepBorder$Border" "alertness" "[I", Cond.fieldLink RX0 52 "SleepBorder$Border" "searched" "[I", Cond.fieldLink RX0 55 "SleepBorder$Border" "searchLeft" "[I", Cond.methodLink RX1 117 yX0_goOn, Cond.instanceMethod yX0_goOn, Cond.selects RX0 yX0_goOn yX0_goOn, Cond.code yX0_goOn cX0_goOn 3 none, Cond.methodLink RX0 72 yX0_isSettled, Cond.instanceMethod yX0_isSettled, Cond.selects RX0 yX0_isSettled yX0_isSettled, Cond.code yX0_isSettled cX0_isSettled 2 (some .boolean), Cond.methodLink RX0 76 yX0_goOneMinute, Cond.instanceMethod yX0_goOneMinute, Cond.selects RX0 yX0_goOneMinute yX0_goOneMinute, Cond.code yX0_goOneMinute cX0_goOneMinute 2 none, Cond.methodLink RX0 79 yX0_advanceTransits, Cond.instanceMethod yX0_advanceTransits, Cond.selects RX0 yX0_advanceTransits yX0_advanceTransits, Cond.code yX0_advanceTransits cX0_advanceTransits 2 none, Cond.methodLink RX0 82 yX0_shortenLullabies, Cond.instanceMethod yX0_shortenLullabies, Cond.selects RX0 yX0_shortenLullabies yX0_shortenLullabies, Cond.code yX0_shortenLullabies cX0_shortenLullabies 2 none, Cond.methodLink RX0 85 yX0_work]
def wsX1_digest_r6 : List Cond := [Cond.instanceMethod yX0_work, Cond.selects RX0 yX0_work yX0_work, Cond.code yX0_work cX0_work 4 none, Cond.methodLink RX0 103 Lib.Math.min.name, Cond.static Lib.Math.min.name, Cond.initialized "java/lang/Math", Cond.code Lib.Math.min.name Lib.Math.min.code 2 (some .int), Cond.methodLink RX0 89 yX0_isTraveller, Cond.instanceMethod yX0_isTraveller, Cond.selects RX0 yX0_isTraveller yX0_isTraveller, Cond.code yX0_isTraveller cX0_isTraveller 2 (some .boolean), Cond.methodLink RX0 93 yX0_searchOn, Cond.instanceMethod yX0_searchOn, Cond.selects RX0 yX0_searchOn yX0_searchOn, Cond.code yX0_searchOn cX0_searchOn 3 none, Cond.methodLink RX0 58 Lib.Math.max.name, Cond.static Lib.Math.max.name, Cond.code Lib.Math.max.name Lib.Math.max.code 2 (some .int), Cond.methodLink RX0 109 yX0_finds, Cond.instanceMethod yX0_finds, Cond.selects RX0 yX0_finds yX0_finds, Cond.code yX0_finds cX0_finds 4 (some .boolean), Cond.methodLink RX0 68 yX0_hiddenDreams, Cond.instanceMethod yX0_hiddenDreams]
def wsX1_digest_r7 : List Cond := [Cond.selects RX0 yX0_hiddenDreams yX0_hiddenDreams, Cond.code yX0_hiddenDreams cX0_hiddenDreams 2 (some .int), Cond.methodLink RX0 97 yX0_firstWaiting, Cond.methodLink RX0 100 yX0_beginSearch, Cond.instanceMethod yX0_beginSearch, Cond.selects RX0 yX0_beginSearch yX0_beginSearch, Cond.code yX0_beginSearch cX0_beginSearch 3 none, Cond.methodLink RX0 106 yX0_searchMinutes, Cond.instanceMethod yX0_searchMinutes, Cond.selects RX0 yX0_searchMinutes yX0_searchMinutes, Cond.code yX0_searchMinutes cX0_searchMinutes 2 (some .int), Cond.methodLink RX0 64 yX0_addedSnores, Cond.methodLink RX1 165 yX1_guardsWanted, Cond.instanceMethod yX1_guardsWanted, Cond.selects RX1 yX1_guardsWanted yX1_guardsWanted, Cond.code yX1_guardsWanted cX1_guardsWanted 3 (some .int), Cond.methodLink RX1 30 yX0_admitGuard, Cond.instanceMethod yX0_admitGuard, Cond.selects RX0 yX0_admitGuard yX0_admitGuard, Cond.code yX0_admitGuard cX0_admitGuard 1 none, Cond.methodLink RX1 168 yX1_mixTravellers, Cond.instanceMethod yX1_mixTravellers, Cond.selects RX1 yX1_mixTravellers yX1_mixTravellers, Cond.code yX1_mixTravellers cX1_mixTravellers 6 (some .long)]
def wsX1_digest_r8 : List Cond := [Cond.methodLink RX1 175 yX1_stateOf, Cond.instanceMethod yX1_stateOf, Cond.selects RX1 yX1_stateOf yX1_stateOf, Cond.code yX1_stateOf cX1_stateOf 2 (some .int), Cond.fieldLink RX1 91 "SleepBorder$Border" "state" "[I", Cond.methodLink RX1 49 yX1_requireTraveller, Cond.instanceMethod yX1_requireTraveller, Cond.selects RX1 yX1_requireTraveller yX1_requireTraveller, Cond.code yX1_requireTraveller cX1_requireTraveller 2 none, Cond.classLink RX1 208 "java/lang/IndexOutOfBoundsException", Cond.initialized "java/lang/IndexOutOfBoundsException", Cond.methodLink RX1 204 yX0_isTraveller, Cond.methodLink RX1 178 yX1_hiddenOf, Cond.instanceMethod yX1_hiddenOf, Cond.selects RX1 yX1_hiddenOf yX1_hiddenOf, Cond.code yX1_hiddenOf cX1_hiddenOf 2 (some .int), Cond.methodLink RX1 94 yX0_hiddenDreams, Cond.methodLink RX1 181 yX1_lullabyOf, Cond.instanceMethod yX1_lullabyOf, Cond.selects RX1 yX1_lullabyOf yX1_lullabyOf, Cond.code yX1_lullabyOf cX1_lullabyOf 2 (some .int), Cond.fieldLink RX1 59 "SleepBorder$Border" "lullaby" "[I", Cond.methodLink RX1 184 yX1_placeInLine, Cond.instanceMethod yX1_placeInLine]
def wsX1_digest_r9 : List Cond := [Cond.selects RX1 yX1_placeInLine yX1_placeInLine, Cond.code yX1_placeInLine cX1_placeInLine 2 (some .int), Cond.methodLink RX1 97 yX0_waitingAhead, Cond.instanceMethod yX0_waitingAhead, Cond.selects RX0 yX0_waitingAhead yX0_waitingAhead, Cond.code yX0_waitingAhead cX0_waitingAhead 4 (some .int), Cond.methodLink RX1 187 yX1_searchTime, Cond.instanceMethod yX1_searchTime, Cond.selects RX1 yX1_searchTime yX1_searchTime, Cond.code yX1_searchTime cX1_searchTime 2 (some .int), Cond.methodLink RX1 100 yX0_searchMinutes, Cond.methodLink RX1 120 yX1_foreseenSleep, Cond.instanceMethod yX1_foreseenSleep, Cond.selects RX1 yX1_foreseenSleep yX1_foreseenSleep, Cond.code yX1_foreseenSleep cX1_foreseenSleep 2 (some .int), Cond.fieldLink RX1 201 "SleepBorder$Border" "asleepSince" "[I", Cond.methodLink RX1 172 yX1_mixGuards, Cond.instanceMethod yX1_mixGuards, Cond.selects RX1 yX1_mixGuards yX1_mixGuards, Cond.code yX1_mixGuards cX1_mixGuards 6 (some .long), Cond.methodLink RX1 190 yX1_alertnessOf, Cond.instanceMethod yX1_alertnessOf, Cond.selects RX1 yX1_alertnessOf yX1_alertnessOf, Cond.code yX1_alertnessOf cX1_alertnessOf 2 (some .int)]
def wsX1_digest_r10 : List Cond := [Cond.methodLink RX1 62 yX1_requireGuard, Cond.instanceMethod yX1_requireGuard, Cond.selects RX1 yX1_requireGuard yX1_requireGuard, Cond.code yX1_requireGuard cX1_requireGuard 2 none, Cond.methodLink RX1 213 yX0_isGuard, Cond.instanceMethod yX0_isGuard, Cond.selects RX0 yX0_isGuard yX0_isGuard, Cond.code yX0_isGuard cX0_isGuard 2 (some .boolean), Cond.methodLink RX1 193 yX1_searches, Cond.instanceMethod yX1_searches, Cond.selects RX1 yX1_searches yX1_searches, Cond.code yX1_searches cX1_searches 2 (some .int), Cond.fieldLink RX1 103 "SleepBorder$Border" "searched" "[I", Cond.methodLink RX1 196 yX1_minutesToGo, Cond.instanceMethod yX1_minutesToGo, Cond.selects RX1 yX1_minutesToGo yX1_minutesToGo, Cond.code yX1_minutesToGo cX1_minutesToGo 2 (some .int), Cond.fieldLink RX1 106 "SleepBorder$Border" "searchLeft" "[I"]
def wsX1_digest : List Cond := .code yX1_digest cX1_digest 3 (some .long) :: ((wsX1_digest_r1 ++ (wsX1_digest_r2 ++ (wsX1_digest_r3 ++ (wsX1_digest_r4 ++ (wsX1_digest_r5 ++ (wsX1_digest_r6 ++ (wsX1_digest_r7 ++ (wsX1_digest_r8 ++ (wsX1_digest_r9 ++ wsX1_digest_r10))))))))) ++ wsX10 ++ wsX00 ++ (vx_atS RX1 222 "java/lang/IllegalArgumentException" ["java/lang/RuntimeException", "java/lang/Exception"]).filter goodWord ++ (vx_atS RX1 212 "java/lang/IndexOutOfBoundsException" ["java/lang/RuntimeException", "java/lang/Exception"]).filter goodWord)
def wsX2_init : List Cond := .code yX2_init cX2_init 1 none :: ([.methodLink RX2 1 objectInit, .instanceMethod objectInit, .code objectInit ⟨#[0xb1]⟩ 1 none, .arrayClass .int, .fieldLink RX2 9 "SleepBorderModel" "dreams" "[I", .fieldLink RX2 13 "SleepBorderModel" "snore" "[I", .fieldLink RX2 16 "SleepBorderModel" "now" "[I", .fieldLink RX2 19 "SleepBorderModel" "kept" "[I", .arrayClass .boolean, .fieldLink RX2 22 "SleepBorderModel" "free" "[Z"] ++ wsX20)
def wsX2_thrown : List Cond := .code yX2_thrown cX2_thrown 1 (some .int) :: ([.fieldLink RX2 26 "SleepBorderModel" "thrown" "I"] ++ wsX20)
def wsX2_fail : List Cond := .code yX2_fail cX2_fail 2 (some .int) :: ([.fieldLink RX2 26 "SleepBorderModel" "thrown" "I"] ++ wsX20)
def wsX2_told : List Cond := .code yX2_told cX2_told 2 (some .int) :: ([.fieldLink RX2 26 "SleepBorderModel" "thrown" "I"] ++ wsX20)
def wsX2_isIn : List Cond := .code yX2_isIn cX2_isIn 3 (some .boolean) :: ([])
def wsX2_isTraveller : List Cond := .code yX2_isTraveller cX2_isTraveller 2 (some .boolean) :: ([.fieldLink RX2 30 "SleepBorderModel" "travellers" "I", .methodLink RX2 33 yX2_isIn, .static yX2_isIn, .initialized RX2, .code yX2_isIn cX2_isIn 3 (some .boolean)] ++ wsX20)
def wsX2_isGuard : List Cond := .code yX2_isGuard cX2_isGuard 2 (some .boolean) :: ([.fieldLink RX2 16 "SleepBorderModel" "now" "[I", .methodLink RX2 33 yX2_isIn, .static yX2_isIn, .initialized RX2, .code yX2_isIn cX2_isIn 3 (some .boolean)] ++ wsX20)
def wsX2_tr : List Cond := .code yX2_tr cX2_tr 3 (some .int) :: ([.fieldLink RX2 16 "SleepBorderModel" "now" "[I"] ++ wsX20)
def wsX2_let : List Cond := .code yX2_let cX2_let 4 none :: ([.fieldLink RX2 16 "SleepBorderModel" "now" "[I"] ++ wsX20)
def wsX2_gu : List Cond := .code yX2_gu cX2_gu 3 (some .int) :: ([.fieldLink RX2 16 "SleepBorderModel" "now" "[I"] ++ wsX20)
def wsX2_post : List Cond := .code yX2_post cX2_post 4 none :: ([.fieldLink RX2 16 "SleepBorderModel" "now" "[I"] ++ wsX20)
def wsX2_keep : List Cond := .code yX2_keep cX2_keep 1 none :: ([.fieldLink RX2 16 "SleepBorderModel" "now" "[I", .fieldLink RX2 19 "SleepBorderModel" "kept" "[I", .methodLink RX2 37 arraycopyName, .native arraycopyName, .static arraycopyName, .initialized "java/lang/System"] ++ wsX20)
def wsX2_bringBack : List Cond := .code yX2_bringBack cX2_bringBack 1 none :: ([.fieldLink RX2 19 "SleepBorderModel" "kept" "[I", .fieldLink RX2 16 "SleepBorderModel" "now" "[I", .methodLink RX2 37 arraycopyName, .native arraycopyName, .static arraycopyName, .initialized "java/lang/System"] ++ wsX20)
def wsX2_count : List Cond := .code yX2_count cX2_count 4 (some .int) :: ([.fieldLink RX2 30 "SleepBorderModel" "travellers" "I", .methodLink RX2 43 yX2_tr, .instanceMethod yX2_tr, .selects RX2 yX2_tr yX2_tr, .initialized RX2, .code yX2_tr cX2_tr 3 (some .int), .fieldLink RX2 16 "SleepBorderModel" "now" "[I"] ++ wsX20)
def wsX2_loud : List Cond := .code yX2_loud cX2_loud 3 (some .int) :: ([.fieldLink RX2 30 "SleepBorderModel" "travellers" "I", .fieldLink RX2 13 "SleepBorderModel" "snore" "[I", .methodLink RX2 43 yX2_tr, .instanceMethod yX2_tr, .selects RX2 yX2_tr yX2_tr, .initialized RX2, .code yX2_tr cX2_tr 3 (some .int), .fieldLink RX2 16 "SleepBorderModel" "now" "[I"] ++ wsX20)
def wsX2_hidden : List Cond := .code yX2_hidden cX2_hidden 2 (some .int) :: ([.fieldLink RX2 9 "SleepBorderModel" "dreams" "[I", .methodLink RX2 47 Lib.Math.max.name, .static Lib.Math.max.name, .initialized "java/lang/Math", .code Lib.Math.max.name Lib.Math.max.code 2 (some .int), .methodLink RX2 43 yX2_tr, .instanceMethod yX2_tr, .selects RX2 yX2_tr yX2_tr, .initialized RX2, .code yX2_tr cX2_tr 3 (some .int), .fieldLink RX2 16 "SleepBorderModel" "now" "[I"] ++ wsX20)
def wsX2_finds : List Cond := .code yX2_finds cX2_finds 3 (some .boolean) :: ([.methodLink RX2 52 yX2_hidden, .instanceMethod yX2_hidden, .selects RX2 yX2_hidden yX2_hidden, .initialized RX2, .code yX2_hidden cX2_hidden 2 (some .int), .fieldLink RX2 9 "SleepBorderModel" "dreams" "[I", .methodLink RX2 47 Lib.Math.max.name, .static Lib.Math.max.name, .initialized "java/lang/Math", .code Lib.Math.max.name Lib.Math.max.code 2 (some .int), .methodLink RX2 43 yX2_tr, .instanceMethod yX2_tr, .selects RX2 yX2_tr yX2_tr, .code yX2_tr cX2_tr 3 (some .int), .fieldLink RX2 16 "SleepBorderModel" "now" "[I", .methodLink RX2 56 yX2_gu, .instanceMethod yX2_gu, .selects RX2 yX2_gu yX2_gu, .code yX2_gu cX2_gu 3 (some .int)] ++ wsX20)
def wsX2_takes : List Cond := .code yX2_takes cX2_takes 2 (some .int) :: ([.methodLink RX2 43 yX2_tr, .instanceMethod yX2_tr, .selects RX2 yX2_tr yX2_tr, .initialized RX2, .code yX2_tr cX2_tr 3 (some .int), .fieldLink RX2 16 "SleepBorderModel" "now" "[I", .methodLink RX2 59 yX2_loud, .instanceMethod yX2_loud, .selects RX2 yX2_loud yX2_loud, .code yX2_loud cX2_loud 3 (some .int), .fieldLink RX2 30 "SleepBorderModel" "travellers" "I", .fieldLink RX2 13 "SleepBorderModel" "snore" "[I"] ++ wsX20)
def wsX2_first : List Cond := .code yX2_first cX2_first 2 (some .int) :: ([.fieldLink RX2 30 "SleepBorderModel" "travellers" "I", .methodLink RX2 43 yX2_tr, .instanceMethod yX2_tr, .selects RX2 yX2_tr yX2_tr, .initialized RX2, .code yX2_tr cX2_tr 3 (some .int), .fieldLink RX2 16 "SleepBorderModel" "now" "[I"] ++ wsX20)
def wsX2_travel : List Cond := .code yX2_travel cX2_travel 2 none :: ([.methodLink RX2 43 yX2_tr, .instanceMethod yX2_tr, .selects RX2 yX2_tr yX2_tr, .initialized RX2, .code yX2_tr cX2_tr 3 (some .int), .fieldLink RX2 16 "SleepBorderModel" "now" "[I", .methodLink RX2 63 yX2_let, .instanceMethod yX2_let, .selects RX2 yX2_let yX2_let, .code yX2_let cX2_let 4 none] ++ wsX20)
def wsX2_listen : List Cond := .code yX2_listen cX2_listen 2 none :: ([.fieldLink RX2 16 "SleepBorderModel" "now" "[I", .methodLink RX2 43 yX2_tr, .instanceMethod yX2_tr, .selects RX2 yX2_tr yX2_tr, .initialized RX2, .code yX2_tr cX2_tr 3 (some .int), .methodLink RX2 63 yX2_let, .instanceMethod yX2_let, .selects RX2 yX2_let yX2_let, .code yX2_let cX2_let 4 none] ++ wsX20)
def wsX2_searchOn_r1 : List Cond := [Cond.fieldLink RX2 16 "SleepBorderModel" "now" "[I", Cond.methodLink RX2 47 Lib.Math.max.name, Cond.static Lib.Math.max.name, Cond.initialized "java/lang/Math", Cond.code Lib.Math.max.name Lib.Math.max.code 2 (some .int), Cond.methodLink RX2 56 yX2_gu, Cond.instanceMethod yX2_gu, Cond.selects RX2 yX2_gu yX2_gu, Cond.initialized RX2, Cond.code yX2_gu cX2_gu 3 (some .int), Cond.methodLink RX2 67 yX2_post, Cond.instanceMethod yX2_post, Cond.selects RX2 yX2_post yX2_post, Cond.code yX2_post cX2_post 4 none, Cond.methodLink RX2 70 yX2_finds, Cond.instanceMethod yX2_finds, Cond.selects RX2 yX2_finds yX2_finds, Cond.code yX2_finds cX2_finds 3 (some .boolean), Cond.methodLink RX2 52 yX2_hidden, Cond.instanceMethod yX2_hidden, Cond.selects RX2 yX2_hidden yX2_hidden, Cond.code yX2_hidden cX2_hidden 2 (some .int), Cond.fieldLink RX2 9 "SleepBorderModel" "dreams" "[I", Cond.methodLink RX2 43 yX2_tr]
def wsX2_searchOn_r2 : List Cond := [Cond.instanceMethod yX2_tr, Cond.selects RX2 yX2_tr yX2_tr, Cond.code yX2_tr cX2_tr 3 (some .int), Cond.methodLink RX2 63 yX2_let, Cond.instanceMethod yX2_let, Cond.selects RX2 yX2_let yX2_let, Cond.code yX2_let cX2_let 4 none]
def wsX2_searchOn : List Cond := .code yX2_searchOn cX2_searchOn 4 none :: ((wsX2_searchOn_r1 ++ wsX2_searchOn_r2) ++ wsX20)
def wsX2_begin_r1 : List Cond := [Cond.methodLink RX2 77 Lib.Math.min.name, Cond.static Lib.Math.min.name, Cond.initialized "java/lang/Math", Cond.code Lib.Math.min.name Lib.Math.min.code 2 (some .int), Cond.methodLink RX2 74 yX2_first, Cond.instanceMethod yX2_first, Cond.selects RX2 yX2_first yX2_first, Cond.initialized RX2, Cond.code yX2_first cX2_first 2 (some .int), Cond.fieldLink RX2 30 "SleepBorderModel" "travellers" "I", Cond.methodLink RX2 43 yX2_tr, Cond.instanceMethod yX2_tr, Cond.selects RX2 yX2_tr yX2_tr, Cond.code yX2_tr cX2_tr 3 (some .int), Cond.fieldLink RX2 16 "SleepBorderModel" "now" "[I", Cond.methodLink RX2 56 yX2_gu, Cond.instanceMethod yX2_gu, Cond.selects RX2 yX2_gu yX2_gu, Cond.code yX2_gu cX2_gu 3 (some .int), Cond.methodLink RX2 67 yX2_post, Cond.instanceMethod yX2_post, Cond.selects RX2 yX2_post yX2_post, Cond.code yX2_post cX2_post 4 none, Cond.methodLink RX2 80 yX2_takes]
def wsX2_begin_r2 : List Cond := [Cond.instanceMethod yX2_takes, Cond.selects RX2 yX2_takes yX2_takes, Cond.code yX2_takes cX2_takes 2 (some .int), Cond.methodLink RX2 59 yX2_loud, Cond.instanceMethod yX2_loud, Cond.selects RX2 yX2_loud yX2_loud, Cond.code yX2_loud cX2_loud 3 (some .int), Cond.fieldLink RX2 13 "SleepBorderModel" "snore" "[I", Cond.methodLink RX2 63 yX2_let, Cond.instanceMethod yX2_let, Cond.selects RX2 yX2_let yX2_let, Cond.code yX2_let cX2_let 4 none]
def wsX2_begin : List Cond := .code yX2_begin cX2_begin 3 none :: ((wsX2_begin_r1 ++ wsX2_begin_r2) ++ wsX20)
def wsX2_minuteOn_r1 : List Cond := [Cond.fieldLink RX2 16 "SleepBorderModel" "now" "[I", Cond.fieldLink RX2 22 "SleepBorderModel" "free" "[Z", Cond.fieldLink RX2 30 "SleepBorderModel" "travellers" "I", Cond.methodLink RX2 56 yX2_gu, Cond.instanceMethod yX2_gu, Cond.selects RX2 yX2_gu yX2_gu, Cond.initialized RX2, Cond.code yX2_gu cX2_gu 3 (some .int), Cond.methodLink RX2 83 yX2_travel, Cond.instanceMethod yX2_travel, Cond.selects RX2 yX2_travel yX2_travel, Cond.code yX2_travel cX2_travel 2 none, Cond.methodLink RX2 43 yX2_tr, Cond.instanceMethod yX2_tr, Cond.selects RX2 yX2_tr yX2_tr, Cond.code yX2_tr cX2_tr 3 (some .int), Cond.methodLink RX2 63 yX2_let, Cond.instanceMethod yX2_let, Cond.selects RX2 yX2_let yX2_let, Cond.code yX2_let cX2_let 4 none, Cond.methodLink RX2 87 yX2_listen, Cond.instanceMethod yX2_listen, Cond.selects RX2 yX2_listen yX2_listen, Cond.code yX2_listen cX2_listen 2 none]
def wsX2_minuteOn_r2 : List Cond := [Cond.methodLink RX2 90 yX2_begin, Cond.instanceMethod yX2_begin, Cond.selects RX2 yX2_begin yX2_begin, Cond.code yX2_begin cX2_begin 3 none, Cond.methodLink RX2 77 Lib.Math.min.name, Cond.static Lib.Math.min.name, Cond.initialized "java/lang/Math", Cond.code Lib.Math.min.name Lib.Math.min.code 2 (some .int), Cond.methodLink RX2 74 yX2_first, Cond.instanceMethod yX2_first, Cond.selects RX2 yX2_first yX2_first, Cond.code yX2_first cX2_first 2 (some .int), Cond.methodLink RX2 67 yX2_post, Cond.instanceMethod yX2_post, Cond.selects RX2 yX2_post yX2_post, Cond.code yX2_post cX2_post 4 none, Cond.methodLink RX2 80 yX2_takes, Cond.instanceMethod yX2_takes, Cond.selects RX2 yX2_takes yX2_takes, Cond.code yX2_takes cX2_takes 2 (some .int), Cond.methodLink RX2 59 yX2_loud, Cond.instanceMethod yX2_loud, Cond.selects RX2 yX2_loud yX2_loud, Cond.code yX2_loud cX2_loud 3 (some .int)]
def wsX2_minuteOn_r3 : List Cond := [Cond.fieldLink RX2 13 "SleepBorderModel" "snore" "[I", Cond.methodLink RX2 93 yX2_searchOn, Cond.instanceMethod yX2_searchOn, Cond.selects RX2 yX2_searchOn yX2_searchOn, Cond.code yX2_searchOn cX2_searchOn 4 none, Cond.methodLink RX2 47 Lib.Math.max.name, Cond.static Lib.Math.max.name, Cond.code Lib.Math.max.name Lib.Math.max.code 2 (some .int), Cond.methodLink RX2 70 yX2_finds, Cond.instanceMethod yX2_finds, Cond.selects RX2 yX2_finds yX2_finds, Cond.code yX2_finds cX2_finds 3 (some .boolean), Cond.methodLink RX2 52 yX2_hidden, Cond.instanceMethod yX2_hidden, Cond.selects RX2 yX2_hidden yX2_hidden, Cond.code yX2_hidden cX2_hidden 2 (some .int), Cond.fieldLink RX2 9 "SleepBorderModel" "dreams" "[I"]
def wsX2_minuteOn : List Cond := .code yX2_minuteOn cX2_minuteOn 2 none :: ((wsX2_minuteOn_r1 ++ (wsX2_minuteOn_r2 ++ wsX2_minuteOn_r3)) ++ wsX20)
def wsX2_minutesOn_r1 : List Cond := [Cond.methodLink RX2 96 yX2_minuteOn, Cond.instanceMethod yX2_minuteOn, Cond.selects RX2 yX2_minuteOn yX2_minuteOn, Cond.initialized RX2, Cond.code yX2_minuteOn cX2_minuteOn 2 none, Cond.fieldLink RX2 16 "SleepBorderModel" "now" "[I", Cond.fieldLink RX2 22 "SleepBorderModel" "free" "[Z", Cond.fieldLink RX2 30 "SleepBorderModel" "travellers" "I", Cond.methodLink RX2 56 yX2_gu, Cond.instanceMethod yX2_gu, Cond.selects RX2 yX2_gu yX2_gu, Cond.code yX2_gu cX2_gu 3 (some .int), Cond.methodLink RX2 83 yX2_travel, Cond.instanceMethod yX2_travel, Cond.selects RX2 yX2_travel yX2_travel, Cond.code yX2_travel cX2_travel 2 none, Cond.methodLink RX2 43 yX2_tr, Cond.instanceMethod yX2_tr, Cond.selects RX2 yX2_tr yX2_tr, Cond.code yX2_tr cX2_tr 3 (some .int), Cond.methodLink RX2 63 yX2_let, Cond.instanceMethod yX2_let, Cond.selects RX2 yX2_let yX2_let, Cond.code yX2_let cX2_let 4 none]
def wsX2_minutesOn_r2 : List Cond := [Cond.methodLink RX2 87 yX2_listen, Cond.instanceMethod yX2_listen, Cond.selects RX2 yX2_listen yX2_listen, Cond.code yX2_listen cX2_listen 2 none, Cond.methodLink RX2 90 yX2_begin, Cond.instanceMethod yX2_begin, Cond.selects RX2 yX2_begin yX2_begin, Cond.code yX2_begin cX2_begin 3 none, Cond.methodLink RX2 77 Lib.Math.min.name, Cond.static Lib.Math.min.name, Cond.initialized "java/lang/Math", Cond.code Lib.Math.min.name Lib.Math.min.code 2 (some .int), Cond.methodLink RX2 74 yX2_first, Cond.instanceMethod yX2_first, Cond.selects RX2 yX2_first yX2_first, Cond.code yX2_first cX2_first 2 (some .int), Cond.methodLink RX2 67 yX2_post, Cond.instanceMethod yX2_post, Cond.selects RX2 yX2_post yX2_post, Cond.code yX2_post cX2_post 4 none, Cond.methodLink RX2 80 yX2_takes, Cond.instanceMethod yX2_takes, Cond.selects RX2 yX2_takes yX2_takes, Cond.code yX2_takes cX2_takes 2 (some .int)]
def wsX2_minutesOn_r3 : List Cond := [Cond.methodLink RX2 59 yX2_loud, Cond.instanceMethod yX2_loud, Cond.selects RX2 yX2_loud yX2_loud, Cond.code yX2_loud cX2_loud 3 (some .int), Cond.fieldLink RX2 13 "SleepBorderModel" "snore" "[I", Cond.methodLink RX2 93 yX2_searchOn, Cond.instanceMethod yX2_searchOn, Cond.selects RX2 yX2_searchOn yX2_searchOn, Cond.code yX2_searchOn cX2_searchOn 4 none, Cond.methodLink RX2 47 Lib.Math.max.name, Cond.static Lib.Math.max.name, Cond.code Lib.Math.max.name Lib.Math.max.code 2 (some .int), Cond.methodLink RX2 70 yX2_finds, Cond.instanceMethod yX2_finds, Cond.selects RX2 yX2_finds yX2_finds, Cond.code yX2_finds cX2_finds 3 (some .boolean), Cond.methodLink RX2 52 yX2_hidden, Cond.instanceMethod yX2_hidden, Cond.selects RX2 yX2_hidden yX2_hidden, Cond.code yX2_hidden cX2_hidden 2 (some .int), Cond.fieldLink RX2 9 "SleepBorderModel" "dreams" "[I"]
def wsX2_minutesOn : List Cond := .code yX2_minutesOn cX2_minutesOn 3 none :: ((wsX2_minutesOn_r1 ++ (wsX2_minutesOn_r2 ++ wsX2_minutesOn_r3)) ++ wsX20)
def wsX2_hire : List Cond := .code yX2_hire cX2_hire 2 none :: ([.fieldLink RX2 16 "SleepBorderModel" "now" "[I", .methodLink RX2 67 yX2_post, .instanceMethod yX2_post, .selects RX2 yX2_post yX2_post, .initialized RX2, .code yX2_post cX2_post 4 none] ++ wsX20)
def wsX2_addGuard : List Cond := .code yX2_addGuard cX2_addGuard 1 (some .int) :: ([.fieldLink RX2 26 "SleepBorderModel" "thrown" "I", .fieldLink RX2 16 "SleepBorderModel" "now" "[I", .methodLink RX2 99 yX2_fail, .instanceMethod yX2_fail, .selects RX2 yX2_fail yX2_fail, .initialized RX2, .code yX2_fail cX2_fail 2 (some .int), .methodLink RX2 102 yX2_hire, .instanceMethod yX2_hire, .selects RX2 yX2_hire yX2_hire, .code yX2_hire cX2_hire 2 none, .methodLink RX2 67 yX2_post, .instanceMethod yX2_post, .selects RX2 yX2_post yX2_post, .code yX2_post cX2_post 4 none] ++ wsX20)
def wsX2_arrive : List Cond := .code yX2_arrive cX2_arrive 5 (some .int) :: ([.fieldLink RX2 26 "SleepBorderModel" "thrown" "I", .fieldLink RX2 30 "SleepBorderModel" "travellers" "I", .fieldLink RX2 9 "SleepBorderModel" "dreams" "[I", .fieldLink RX2 13 "SleepBorderModel" "snore" "[I", .methodLink RX2 33 yX2_isIn, .static yX2_isIn, .initialized RX2, .code yX2_isIn cX2_isIn 3 (some .boolean), .methodLink RX2 99 yX2_fail, .instanceMethod yX2_fail, .selects RX2 yX2_fail yX2_fail, .code yX2_fail cX2_fail 2 (some .int), .methodLink RX2 63 yX2_let, .instanceMethod yX2_let, .selects RX2 yX2_let yX2_let, .code yX2_let cX2_let 4 none, .fieldLink RX2 16 "SleepBorderModel" "now" "[I"] ++ wsX20)
def wsX2_write : List Cond := .code yX2_write cX2_write 7 (some .int) :: ([.fieldLink RX2 26 "SleepBorderModel" "thrown" "I", .methodLink RX2 105 yX2_isTraveller, .instanceMethod yX2_isTraveller, .selects RX2 yX2_isTraveller yX2_isTraveller, .initialized RX2, .code yX2_isTraveller cX2_isTraveller 2 (some .boolean), .fieldLink RX2 30 "SleepBorderModel" "travellers" "I", .methodLink RX2 33 yX2_isIn, .static yX2_isIn, .code yX2_isIn cX2_isIn 3 (some .boolean), .methodLink RX2 99 yX2_fail, .instanceMethod yX2_fail, .selects RX2 yX2_fail yX2_fail, .code yX2_fail cX2_fail 2 (some .int), .methodLink RX2 43 yX2_tr, .instanceMethod yX2_tr, .selects RX2 yX2_tr yX2_tr, .code yX2_tr cX2_tr 3 (some .int), .fieldLink RX2 16 "SleepBorderModel" "now" "[I", .methodLink RX2 63 yX2_let, .instanceMethod yX2_let, .selects RX2 yX2_let yX2_let, .code yX2_let cX2_let 4 none] ++ wsX20)
def wsX2_declare_r1 : List Cond := [Cond.methodLink RX2 109 yX2_write, Cond.instanceMethod yX2_write, Cond.selects RX2 yX2_write yX2_write, Cond.initialized RX2, Cond.code yX2_write cX2_write 7 (some .int), Cond.fieldLink RX2 26 "SleepBorderModel" "thrown" "I", Cond.methodLink RX2 105 yX2_isTraveller, Cond.instanceMethod yX2_isTraveller, Cond.selects RX2 yX2_isTraveller yX2_isTraveller, Cond.code yX2_isTraveller cX2_isTraveller 2 (some .boolean), Cond.fieldLink RX2 30 "SleepBorderModel" "travellers" "I", Cond.methodLink RX2 33 yX2_isIn, Cond.static yX2_isIn, Cond.code yX2_isIn cX2_isIn 3 (some .boolean), Cond.methodLink RX2 99 yX2_fail, Cond.instanceMethod yX2_fail, Cond.selects RX2 yX2_fail yX2_fail, Cond.code yX2_fail cX2_fail 2 (some .int), Cond.methodLink RX2 43 yX2_tr, Cond.instanceMethod yX2_tr, Cond.selects RX2 yX2_tr yX2_tr, Cond.code yX2_tr cX2_tr 3 (some .int), Cond.fieldLink RX2 16 "SleepBorderModel" "now" "[I", Cond.methodLink RX2 63 yX2_let]
def wsX2_declare_r2 : List Cond := [Cond.instanceMethod yX2_let, Cond.selects RX2 yX2_let yX2_let, Cond.code yX2_let cX2_let 4 none]
def wsX2_declare : List Cond := .code yX2_declare cX2_declare 3 (some .int) :: ((wsX2_declare_r1 ++ wsX2_declare_r2) ++ wsX20)
def wsX2_sing_r1 : List Cond := [Cond.methodLink RX2 109 yX2_write, Cond.instanceMethod yX2_write, Cond.selects RX2 yX2_write yX2_write, Cond.initialized RX2, Cond.code yX2_write cX2_write 7 (some .int), Cond.fieldLink RX2 26 "SleepBorderModel" "thrown" "I", Cond.methodLink RX2 105 yX2_isTraveller, Cond.instanceMethod yX2_isTraveller, Cond.selects RX2 yX2_isTraveller yX2_isTraveller, Cond.code yX2_isTraveller cX2_isTraveller 2 (some .boolean), Cond.fieldLink RX2 30 "SleepBorderModel" "travellers" "I", Cond.methodLink RX2 33 yX2_isIn, Cond.static yX2_isIn, Cond.code yX2_isIn cX2_isIn 3 (some .boolean), Cond.methodLink RX2 99 yX2_fail, Cond.instanceMethod yX2_fail, Cond.selects RX2 yX2_fail yX2_fail, Cond.code yX2_fail cX2_fail 2 (some .int), Cond.methodLink RX2 43 yX2_tr, Cond.instanceMethod yX2_tr, Cond.selects RX2 yX2_tr yX2_tr, Cond.code yX2_tr cX2_tr 3 (some .int), Cond.fieldLink RX2 16 "SleepBorderModel" "now" "[I", Cond.methodLink RX2 63 yX2_let]
def wsX2_sing_r2 : List Cond := [Cond.instanceMethod yX2_let, Cond.selects RX2 yX2_let yX2_let, Cond.code yX2_let cX2_let 4 none]
def wsX2_sing : List Cond := .code yX2_sing cX2_sing 3 (some .int) :: ((wsX2_sing_r1 ++ wsX2_sing_r2) ++ wsX20)
def wsX2_wake : List Cond := .code yX2_wake cX2_wake 3 (some .int) :: ([.fieldLink RX2 26 "SleepBorderModel" "thrown" "I", .methodLink RX2 113 yX2_isGuard, .instanceMethod yX2_isGuard, .selects RX2 yX2_isGuard yX2_isGuard, .initialized RX2, .code yX2_isGuard cX2_isGuard 2 (some .boolean), .fieldLink RX2 16 "SleepBorderModel" "now" "[I", .methodLink RX2 33 yX2_isIn, .static yX2_isIn, .code yX2_isIn cX2_isIn 3 (some .boolean), .methodLink RX2 99 yX2_fail, .instanceMethod yX2_fail, .selects RX2 yX2_fail yX2_fail, .code yX2_fail cX2_fail 2 (some .int), .methodLink RX2 56 yX2_gu, .instanceMethod yX2_gu, .selects RX2 yX2_gu yX2_gu, .code yX2_gu cX2_gu 3 (some .int), .methodLink RX2 67 yX2_post, .instanceMethod yX2_post, .selects RX2 yX2_post yX2_post, .code yX2_post cX2_post 4 none] ++ wsX20)
def wsX2_pass_r1 : List Cond := [Cond.fieldLink RX2 26 "SleepBorderModel" "thrown" "I", Cond.methodLink RX2 33 yX2_isIn, Cond.static yX2_isIn, Cond.initialized RX2, Cond.code yX2_isIn cX2_isIn 3 (some .boolean), Cond.methodLink RX2 99 yX2_fail, Cond.instanceMethod yX2_fail, Cond.selects RX2 yX2_fail yX2_fail, Cond.code yX2_fail cX2_fail 2 (some .int), Cond.methodLink RX2 116 yX2_count, Cond.instanceMethod yX2_count, Cond.selects RX2 yX2_count yX2_count, Cond.code yX2_count cX2_count 4 (some .int), Cond.fieldLink RX2 30 "SleepBorderModel" "travellers" "I", Cond.methodLink RX2 43 yX2_tr, Cond.instanceMethod yX2_tr, Cond.selects RX2 yX2_tr yX2_tr, Cond.code yX2_tr cX2_tr 3 (some .int), Cond.fieldLink RX2 16 "SleepBorderModel" "now" "[I", Cond.methodLink RX2 119 yX2_minutesOn, Cond.instanceMethod yX2_minutesOn, Cond.selects RX2 yX2_minutesOn yX2_minutesOn, Cond.code yX2_minutesOn cX2_minutesOn 3 none, Cond.methodLink RX2 96 yX2_minuteOn]
def wsX2_pass_r2 : List Cond := [Cond.instanceMethod yX2_minuteOn, Cond.selects RX2 yX2_minuteOn yX2_minuteOn, Cond.code yX2_minuteOn cX2_minuteOn 2 none, Cond.fieldLink RX2 22 "SleepBorderModel" "free" "[Z", Cond.methodLink RX2 56 yX2_gu, Cond.instanceMethod yX2_gu, Cond.selects RX2 yX2_gu yX2_gu, Cond.code yX2_gu cX2_gu 3 (some .int), Cond.methodLink RX2 83 yX2_travel, Cond.instanceMethod yX2_travel, Cond.selects RX2 yX2_travel yX2_travel, Cond.code yX2_travel cX2_travel 2 none, Cond.methodLink RX2 63 yX2_let, Cond.instanceMethod yX2_let, Cond.selects RX2 yX2_let yX2_let, Cond.code yX2_let cX2_let 4 none, Cond.methodLink RX2 87 yX2_listen, Cond.instanceMethod yX2_listen, Cond.selects RX2 yX2_listen yX2_listen, Cond.code yX2_listen cX2_listen 2 none, Cond.methodLink RX2 90 yX2_begin, Cond.instanceMethod yX2_begin, Cond.selects RX2 yX2_begin yX2_begin, Cond.code yX2_begin cX2_begin 3 none]
def wsX2_pass_r3 : List Cond := [Cond.methodLink RX2 77 Lib.Math.min.name, Cond.static Lib.Math.min.name, Cond.initialized "java/lang/Math", Cond.code Lib.Math.min.name Lib.Math.min.code 2 (some .int), Cond.methodLink RX2 74 yX2_first, Cond.instanceMethod yX2_first, Cond.selects RX2 yX2_first yX2_first, Cond.code yX2_first cX2_first 2 (some .int), Cond.methodLink RX2 67 yX2_post, Cond.instanceMethod yX2_post, Cond.selects RX2 yX2_post yX2_post, Cond.code yX2_post cX2_post 4 none, Cond.methodLink RX2 80 yX2_takes, Cond.instanceMethod yX2_takes, Cond.selects RX2 yX2_takes yX2_takes, Cond.code yX2_takes cX2_takes 2 (some .int), Cond.methodLink RX2 59 yX2_loud, Cond.instanceMethod yX2_loud, Cond.selects RX2 yX2_loud yX2_loud, Cond.code yX2_loud cX2_loud 3 (some .int), Cond.fieldLink RX2 13 "SleepBorderModel" "snore" "[I", Cond.methodLink RX2 93 yX2_searchOn, Cond.instanceMethod yX2_searchOn, Cond.selects RX2 yX2_searchOn yX2_searchOn]
def wsX2_pass_r4 : List Cond := [Cond.code yX2_searchOn cX2_searchOn 4 none, Cond.methodLink RX2 47 Lib.Math.max.name, Cond.static Lib.Math.max.name, Cond.code Lib.Math.max.name Lib.Math.max.code 2 (some .int), Cond.methodLink RX2 70 yX2_finds, Cond.instanceMethod yX2_finds, Cond.selects RX2 yX2_finds yX2_finds, Cond.code yX2_finds cX2_finds 3 (some .boolean), Cond.methodLink RX2 52 yX2_hidden, Cond.instanceMethod yX2_hidden, Cond.selects RX2 yX2_hidden yX2_hidden, Cond.code yX2_hidden cX2_hidden 2 (some .int), Cond.fieldLink RX2 9 "SleepBorderModel" "dreams" "[I"]
def wsX2_pass : List Cond := .code yX2_pass cX2_pass 3 (some .int) :: ((wsX2_pass_r1 ++ (wsX2_pass_r2 ++ (wsX2_pass_r3 ++ wsX2_pass_r4))) ++ wsX20)
def wsX2_minute : List Cond := .code yX2_minute cX2_minute 1 (some .int) :: ([.fieldLink RX2 16 "SleepBorderModel" "now" "[I", .methodLink RX2 122 yX2_told, .instanceMethod yX2_told, .selects RX2 yX2_told yX2_told, .initialized RX2, .code yX2_told cX2_told 2 (some .int), .fieldLink RX2 26 "SleepBorderModel" "thrown" "I"] ++ wsX20)
def wsX2_travellers : List Cond := .code yX2_travellers cX2_travellers 1 (some .int) :: ([.fieldLink RX2 30 "SleepBorderModel" "travellers" "I", .methodLink RX2 122 yX2_told, .instanceMethod yX2_told, .selects RX2 yX2_told yX2_told, .initialized RX2, .code yX2_told cX2_told 2 (some .int), .fieldLink RX2 26 "SleepBorderModel" "thrown" "I"] ++ wsX20)
def wsX2_waiting : List Cond := .code yX2_waiting cX2_waiting 1 (some .int) :: ([.methodLink RX2 116 yX2_count, .instanceMethod yX2_count, .selects RX2 yX2_count yX2_count, .initialized RX2, .code yX2_count cX2_count 4 (some .int), .fieldLink RX2 30 "SleepBorderModel" "travellers" "I", .methodLink RX2 43 yX2_tr, .instanceMethod yX2_tr, .selects RX2 yX2_tr yX2_tr, .code yX2_tr cX2_tr 3 (some .int), .fieldLink RX2 16 "SleepBorderModel" "now" "[I", .methodLink RX2 122 yX2_told, .instanceMethod yX2_told, .selects RX2 yX2_told yX2_told, .code yX2_told cX2_told 2 (some .int), .fieldLink RX2 26 "SleepBorderModel" "thrown" "I"] ++ wsX20)
def wsX2_asleep : List Cond := .code yX2_asleep cX2_asleep 1 (some .int) :: ([.methodLink RX2 116 yX2_count, .instanceMethod yX2_count, .selects RX2 yX2_count yX2_count, .initialized RX2, .code yX2_count cX2_count 4 (some .int), .fieldLink RX2 30 "SleepBorderModel" "travellers" "I", .methodLink RX2 43 yX2_tr, .instanceMethod yX2_tr, .selects RX2 yX2_tr yX2_tr, .code yX2_tr cX2_tr 3 (some .int), .fieldLink RX2 16 "SleepBorderModel" "now" "[I", .methodLink RX2 122 yX2_told, .instanceMethod yX2_told, .selects RX2 yX2_told yX2_told, .code yX2_told cX2_told 2 (some .int), .fieldLink RX2 26 "SleepBorderModel" "thrown" "I"] ++ wsX20)
def wsX2_sentBack : List Cond := .code yX2_sentBack cX2_sentBack 1 (some .int) :: ([.methodLink RX2 116 yX2_count, .instanceMethod yX2_count, .selects RX2 yX2_count yX2_count, .initialized RX2, .code yX2_count cX2_count 4 (some .int), .fieldLink RX2 30 "SleepBorderModel" "travellers" "I", .methodLink RX2 43 yX2_tr, .instanceMethod yX2_tr, .selects RX2 yX2_tr yX2_tr, .code yX2_tr cX2_tr 3 (some .int), .fieldLink RX2 16 "SleepBorderModel" "now" "[I", .methodLink RX2 122 yX2_told, .instanceMethod yX2_told, .selects RX2 yX2_told yX2_told, .code yX2_told cX2_told 2 (some .int), .fieldLink RX2 26 "SleepBorderModel" "thrown" "I"] ++ wsX20)
def wsX2_expired : List Cond := .code yX2_expired cX2_expired 1 (some .int) :: ([.fieldLink RX2 16 "SleepBorderModel" "now" "[I", .methodLink RX2 122 yX2_told, .instanceMethod yX2_told, .selects RX2 yX2_told yX2_told, .initialized RX2, .code yX2_told cX2_told 2 (some .int), .fieldLink RX2 26 "SleepBorderModel" "thrown" "I"] ++ wsX20)
def wsX2_paid : List Cond := .code yX2_paid cX2_paid 1 (some .int) :: ([.fieldLink RX2 16 "SleepBorderModel" "now" "[I", .methodLink RX2 122 yX2_told, .instanceMethod yX2_told, .selects RX2 yX2_told yX2_told, .initialized RX2, .code yX2_told cX2_told 2 (some .int), .fieldLink RX2 26 "SleepBorderModel" "thrown" "I"] ++ wsX20)
def wsX2_noise : List Cond := .code yX2_noise cX2_noise 1 (some .int) :: ([.methodLink RX2 59 yX2_loud, .instanceMethod yX2_loud, .selects RX2 yX2_loud yX2_loud, .initialized RX2, .code yX2_loud cX2_loud 3 (some .int), .fieldLink RX2 30 "SleepBorderModel" "travellers" "I", .fieldLink RX2 13 "SleepBorderModel" "snore" "[I", .methodLink RX2 43 yX2_tr, .instanceMethod yX2_tr, .selects RX2 yX2_tr yX2_tr, .code yX2_tr cX2_tr 3 (some .int), .fieldLink RX2 16 "SleepBorderModel" "now" "[I", .methodLink RX2 122 yX2_told, .instanceMethod yX2_told, .selects RX2 yX2_told yX2_told, .code yX2_told cX2_told 2 (some .int), .fieldLink RX2 26 "SleepBorderModel" "thrown" "I"] ++ wsX20)
def wsX2_nextInLine : List Cond := .code yX2_nextInLine cX2_nextInLine 1 (some .int) :: ([.methodLink RX2 74 yX2_first, .instanceMethod yX2_first, .selects RX2 yX2_first yX2_first, .initialized RX2, .code yX2_first cX2_first 2 (some .int), .fieldLink RX2 30 "SleepBorderModel" "travellers" "I", .methodLink RX2 43 yX2_tr, .instanceMethod yX2_tr, .selects RX2 yX2_tr yX2_tr, .code yX2_tr cX2_tr 3 (some .int), .fieldLink RX2 16 "SleepBorderModel" "now" "[I", .methodLink RX2 122 yX2_told, .instanceMethod yX2_told, .selects RX2 yX2_told yX2_told, .code yX2_told cX2_told 2 (some .int), .fieldLink RX2 26 "SleepBorderModel" "thrown" "I"] ++ wsX20)
def wsX2_stateOf : List Cond := .code yX2_stateOf cX2_stateOf 2 (some .int) :: ([.fieldLink RX2 26 "SleepBorderModel" "thrown" "I", .methodLink RX2 105 yX2_isTraveller, .instanceMethod yX2_isTraveller, .selects RX2 yX2_isTraveller yX2_isTraveller, .initialized RX2, .code yX2_isTraveller cX2_isTraveller 2 (some .boolean), .fieldLink RX2 30 "SleepBorderModel" "travellers" "I", .methodLink RX2 33 yX2_isIn, .static yX2_isIn, .code yX2_isIn cX2_isIn 3 (some .boolean), .methodLink RX2 43 yX2_tr, .instanceMethod yX2_tr, .selects RX2 yX2_tr yX2_tr, .code yX2_tr cX2_tr 3 (some .int), .fieldLink RX2 16 "SleepBorderModel" "now" "[I", .methodLink RX2 99 yX2_fail, .instanceMethod yX2_fail, .selects RX2 yX2_fail yX2_fail, .code yX2_fail cX2_fail 2 (some .int)] ++ wsX20)
def wsX2_hiddenOf_r1 : List Cond := [Cond.fieldLink RX2 26 "SleepBorderModel" "thrown" "I", Cond.methodLink RX2 105 yX2_isTraveller, Cond.instanceMethod yX2_isTraveller, Cond.selects RX2 yX2_isTraveller yX2_isTraveller, Cond.initialized RX2, Cond.code yX2_isTraveller cX2_isTraveller 2 (some .boolean), Cond.fieldLink RX2 30 "SleepBorderModel" "travellers" "I", Cond.methodLink RX2 33 yX2_isIn, Cond.static yX2_isIn, Cond.code yX2_isIn cX2_isIn 3 (some .boolean), Cond.methodLink RX2 52 yX2_hidden, Cond.instanceMethod yX2_hidden, Cond.selects RX2 yX2_hidden yX2_hidden, Cond.code yX2_hidden cX2_hidden 2 (some .int), Cond.fieldLink RX2 9 "SleepBorderModel" "dreams" "[I", Cond.methodLink RX2 47 Lib.Math.max.name, Cond.static Lib.Math.max.name, Cond.initialized "java/lang/Math", Cond.code Lib.Math.max.name Lib.Math.max.code 2 (some .int), Cond.methodLink RX2 43 yX2_tr, Cond.instanceMethod yX2_tr, Cond.selects RX2 yX2_tr yX2_tr, Cond.code yX2_tr cX2_tr 3 (some .int), Cond.fieldLink RX2 16 "SleepBorderModel" "now" "[I"]
def wsX2_hiddenOf_r2 : List Cond := [Cond.methodLink RX2 99 yX2_fail, Cond.instanceMethod yX2_fail, Cond.selects RX2 yX2_fail yX2_fail, Cond.code yX2_fail cX2_fail 2 (some .int)]
def wsX2_hiddenOf : List Cond := .code yX2_hiddenOf cX2_hiddenOf 2 (some .int) :: ((wsX2_hiddenOf_r1 ++ wsX2_hiddenOf_r2) ++ wsX20)
def wsX2_lullabyOf : List Cond := .code yX2_lullabyOf cX2_lullabyOf 2 (some .int) :: ([.fieldLink RX2 26 "SleepBorderModel" "thrown" "I", .methodLink RX2 105 yX2_isTraveller, .instanceMethod yX2_isTraveller, .selects RX2 yX2_isTraveller yX2_isTraveller, .initialized RX2, .code yX2_isTraveller cX2_isTraveller 2 (some .boolean), .fieldLink RX2 30 "SleepBorderModel" "travellers" "I", .methodLink RX2 33 yX2_isIn, .static yX2_isIn, .code yX2_isIn cX2_isIn 3 (some .boolean), .methodLink RX2 43 yX2_tr, .instanceMethod yX2_tr, .selects RX2 yX2_tr yX2_tr, .code yX2_tr cX2_tr 3 (some .int), .fieldLink RX2 16 "SleepBorderModel" "now" "[I", .methodLink RX2 99 yX2_fail, .instanceMethod yX2_fail, .selects RX2 yX2_fail yX2_fail, .code yX2_fail cX2_fail 2 (some .int)] ++ wsX20)
def wsX2_place : List Cond := .code yX2_place cX2_place 4 (some .int) :: ([.methodLink RX2 43 yX2_tr, .instanceMethod yX2_tr, .selects RX2 yX2_tr yX2_tr, .initialized RX2, .code yX2_tr cX2_tr 3 (some .int), .fieldLink RX2 16 "SleepBorderModel" "now" "[I"] ++ wsX20)
def wsX2_placeInLine : List Cond := .code yX2_placeInLine cX2_placeInLine 2 (some .int) :: ([.fieldLink RX2 26 "SleepBorderModel" "thrown" "I", .methodLink RX2 105 yX2_isTraveller, .instanceMethod yX2_isTraveller, .selects RX2 yX2_isTraveller yX2_isTraveller, .initialized RX2, .code yX2_isTraveller cX2_isTraveller 2 (some .boolean), .fieldLink RX2 30 "SleepBorderModel" "travellers" "I", .methodLink RX2 33 yX2_isIn, .static yX2_isIn, .code yX2_isIn cX2_isIn 3 (some .boolean), .methodLink RX2 125 yX2_place, .instanceMethod yX2_place, .selects RX2 yX2_place yX2_place, .code yX2_place cX2_place 4 (some .int), .methodLink RX2 43 yX2_tr, .instanceMethod yX2_tr, .selects RX2 yX2_tr yX2_tr, .code yX2_tr cX2_tr 3 (some .int), .fieldLink RX2 16 "SleepBorderModel" "now" "[I", .methodLink RX2 99 yX2_fail, .instanceMethod yX2_fail, .selects RX2 yX2_fail yX2_fail, .code yX2_fail cX2_fail 2 (some .int)] ++ wsX20)
def wsX2_searchTime_r1 : List Cond := [Cond.fieldLink RX2 26 "SleepBorderModel" "thrown" "I", Cond.methodLink RX2 105 yX2_isTraveller, Cond.instanceMethod yX2_isTraveller, Cond.selects RX2 yX2_isTraveller yX2_isTraveller, Cond.initialized RX2, Cond.code yX2_isTraveller cX2_isTraveller 2 (some .boolean), Cond.fieldLink RX2 30 "SleepBorderModel" "travellers" "I", Cond.methodLink RX2 33 yX2_isIn, Cond.static yX2_isIn, Cond.code yX2_isIn cX2_isIn 3 (some .boolean), Cond.methodLink RX2 80 yX2_takes, Cond.instanceMethod yX2_takes, Cond.selects RX2 yX2_takes yX2_takes, Cond.code yX2_takes cX2_takes 2 (some .int), Cond.methodLink RX2 43 yX2_tr, Cond.instanceMethod yX2_tr, Cond.selects RX2 yX2_tr yX2_tr, Cond.code yX2_tr cX2_tr 3 (some .int), Cond.fieldLink RX2 16 "SleepBorderModel" "now" "[I", Cond.methodLink RX2 59 yX2_loud, Cond.instanceMethod yX2_loud, Cond.selects RX2 yX2_loud yX2_loud, Cond.code yX2_loud cX2_loud 3 (some .int), Cond.fieldLink RX2 13 "SleepBorderModel" "snore" "[I"]
def wsX2_searchTime_r2 : List Cond := [Cond.methodLink RX2 99 yX2_fail, Cond.instanceMethod yX2_fail, Cond.selects RX2 yX2_fail yX2_fail, Cond.code yX2_fail cX2_fail 2 (some .int)]
def wsX2_searchTime : List Cond := .code yX2_searchTime cX2_searchTime 2 (some .int) :: ((wsX2_searchTime_r1 ++ wsX2_searchTime_r2) ++ wsX20)
def wsX2_guards : List Cond := .code yX2_guards cX2_guards 1 (some .int) :: ([.fieldLink RX2 16 "SleepBorderModel" "now" "[I", .methodLink RX2 122 yX2_told, .instanceMethod yX2_told, .selects RX2 yX2_told yX2_told, .initialized RX2, .code yX2_told cX2_told 2 (some .int), .fieldLink RX2 26 "SleepBorderModel" "thrown" "I"] ++ wsX20)
def wsX2_guard : List Cond := .code yX2_guard cX2_guard 3 (some .int) :: ([.fieldLink RX2 26 "SleepBorderModel" "thrown" "I", .methodLink RX2 113 yX2_isGuard, .instanceMethod yX2_isGuard, .selects RX2 yX2_isGuard yX2_isGuard, .initialized RX2, .code yX2_isGuard cX2_isGuard 2 (some .boolean), .fieldLink RX2 16 "SleepBorderModel" "now" "[I", .methodLink RX2 33 yX2_isIn, .static yX2_isIn, .code yX2_isIn cX2_isIn 3 (some .boolean), .methodLink RX2 56 yX2_gu, .instanceMethod yX2_gu, .selects RX2 yX2_gu yX2_gu, .code yX2_gu cX2_gu 3 (some .int), .methodLink RX2 99 yX2_fail, .instanceMethod yX2_fail, .selects RX2 yX2_fail yX2_fail, .code yX2_fail cX2_fail 2 (some .int)] ++ wsX20)
def wsX2_alertnessOf : List Cond := .code yX2_alertnessOf cX2_alertnessOf 2 (some .int) :: ([.methodLink RX2 128 yX2_guard, .instanceMethod yX2_guard, .selects RX2 yX2_guard yX2_guard, .initialized RX2, .code yX2_guard cX2_guard 3 (some .int), .fieldLink RX2 26 "SleepBorderModel" "thrown" "I", .methodLink RX2 113 yX2_isGuard, .instanceMethod yX2_isGuard, .selects RX2 yX2_isGuard yX2_isGuard, .code yX2_isGuard cX2_isGuard 2 (some .boolean), .fieldLink RX2 16 "SleepBorderModel" "now" "[I", .methodLink RX2 33 yX2_isIn, .static yX2_isIn, .code yX2_isIn cX2_isIn 3 (some .boolean), .methodLink RX2 56 yX2_gu, .instanceMethod yX2_gu, .selects RX2 yX2_gu yX2_gu, .code yX2_gu cX2_gu 3 (some .int), .methodLink RX2 99 yX2_fail, .instanceMethod yX2_fail, .selects RX2 yX2_fail yX2_fail, .code yX2_fail cX2_fail 2 (some .int)] ++ wsX20)
def wsX2_searches : List Cond := .code yX2_searches cX2_searches 2 (some .int) :: ([.methodLink RX2 128 yX2_guard, .instanceMethod yX2_guard, .selects RX2 yX2_guard yX2_guard, .initialized RX2, .code yX2_guard cX2_guard 3 (some .int), .fieldLink RX2 26 "SleepBorderModel" "thrown" "I", .methodLink RX2 113 yX2_isGuard, .instanceMethod yX2_isGuard, .selects RX2 yX2_isGuard yX2_isGuard, .code yX2_isGuard cX2_isGuard 2 (some .boolean), .fieldLink RX2 16 "SleepBorderModel" "now" "[I", .methodLink RX2 33 yX2_isIn, .static yX2_isIn, .code yX2_isIn cX2_isIn 3 (some .boolean), .methodLink RX2 56 yX2_gu, .instanceMethod yX2_gu, .selects RX2 yX2_gu yX2_gu, .code yX2_gu cX2_gu 3 (some .int), .methodLink RX2 99 yX2_fail, .instanceMethod yX2_fail, .selects RX2 yX2_fail yX2_fail, .code yX2_fail cX2_fail 2 (some .int)] ++ wsX20)
def wsX2_minutesToGo : List Cond := .code yX2_minutesToGo cX2_minutesToGo 2 (some .int) :: ([.methodLink RX2 128 yX2_guard, .instanceMethod yX2_guard, .selects RX2 yX2_guard yX2_guard, .initialized RX2, .code yX2_guard cX2_guard 3 (some .int), .fieldLink RX2 26 "SleepBorderModel" "thrown" "I", .methodLink RX2 113 yX2_isGuard, .instanceMethod yX2_isGuard, .selects RX2 yX2_isGuard yX2_isGuard, .code yX2_isGuard cX2_isGuard 2 (some .boolean), .fieldLink RX2 16 "SleepBorderModel" "now" "[I", .methodLink RX2 33 yX2_isIn, .static yX2_isIn, .code yX2_isIn cX2_isIn 3 (some .boolean), .methodLink RX2 56 yX2_gu, .instanceMethod yX2_gu, .selects RX2 yX2_gu yX2_gu, .code yX2_gu cX2_gu 3 (some .int), .methodLink RX2 99 yX2_fail, .instanceMethod yX2_fail, .selects RX2 yX2_fail yX2_fail, .code yX2_fail cX2_fail 2 (some .int)] ++ wsX20)
def wsX2_wouldFind_r1 : List Cond := [Cond.fieldLink RX2 26 "SleepBorderModel" "thrown" "I", Cond.methodLink RX2 113 yX2_isGuard, Cond.instanceMethod yX2_isGuard, Cond.selects RX2 yX2_isGuard yX2_isGuard, Cond.initialized RX2, Cond.code yX2_isGuard cX2_isGuard 2 (some .boolean), Cond.fieldLink RX2 16 "SleepBorderModel" "now" "[I", Cond.methodLink RX2 33 yX2_isIn, Cond.static yX2_isIn, Cond.code yX2_isIn cX2_isIn 3 (some .boolean), Cond.methodLink RX2 105 yX2_isTraveller, Cond.instanceMethod yX2_isTraveller, Cond.selects RX2 yX2_isTraveller yX2_isTraveller, Cond.code yX2_isTraveller cX2_isTraveller 2 (some .boolean), Cond.fieldLink RX2 30 "SleepBorderModel" "travellers" "I", Cond.methodLink RX2 70 yX2_finds, Cond.instanceMethod yX2_finds, Cond.selects RX2 yX2_finds yX2_finds, Cond.code yX2_finds cX2_finds 3 (some .boolean), Cond.methodLink RX2 52 yX2_hidden, Cond.instanceMethod yX2_hidden, Cond.selects RX2 yX2_hidden yX2_hidden, Cond.code yX2_hidden cX2_hidden 2 (some .int), Cond.fieldLink RX2 9 "SleepBorderModel" "dreams" "[I"]
def wsX2_wouldFind_r2 : List Cond := [Cond.methodLink RX2 47 Lib.Math.max.name, Cond.static Lib.Math.max.name, Cond.initialized "java/lang/Math", Cond.code Lib.Math.max.name Lib.Math.max.code 2 (some .int), Cond.methodLink RX2 43 yX2_tr, Cond.instanceMethod yX2_tr, Cond.selects RX2 yX2_tr yX2_tr, Cond.code yX2_tr cX2_tr 3 (some .int), Cond.methodLink RX2 56 yX2_gu, Cond.instanceMethod yX2_gu, Cond.selects RX2 yX2_gu yX2_gu, Cond.code yX2_gu cX2_gu 3 (some .int)]
def wsX2_wouldFind : List Cond := .code yX2_wouldFind cX2_wouldFind 3 (some .boolean) :: ((wsX2_wouldFind_r1 ++ wsX2_wouldFind_r2) ++ wsX20)
def wsX2_alertest : List Cond := .code yX2_alertest cX2_alertest 3 (some .int) :: ([.fieldLink RX2 16 "SleepBorderModel" "now" "[I", .methodLink RX2 56 yX2_gu, .instanceMethod yX2_gu, .selects RX2 yX2_gu yX2_gu, .initialized RX2, .code yX2_gu cX2_gu 3 (some .int)] ++ wsX20)
def wsX2_mostAlert : List Cond := .code yX2_mostAlert cX2_mostAlert 1 (some .int) :: ([.methodLink RX2 131 yX2_alertest, .instanceMethod yX2_alertest, .selects RX2 yX2_alertest yX2_alertest, .initialized RX2, .code yX2_alertest cX2_alertest 3 (some .int), .fieldLink RX2 16 "SleepBorderModel" "now" "[I", .methodLink RX2 56 yX2_gu, .instanceMethod yX2_gu, .selects RX2 yX2_gu yX2_gu, .code yX2_gu cX2_gu 3 (some .int), .methodLink RX2 122 yX2_told, .instanceMethod yX2_told, .selects RX2 yX2_told yX2_told, .code yX2_told cX2_told 2 (some .int), .fieldLink RX2 26 "SleepBorderModel" "thrown" "I"] ++ wsX20)
def wsX2_run_r1 : List Cond := [Cond.methodLink RX2 43 yX2_tr, Cond.instanceMethod yX2_tr, Cond.selects RX2 yX2_tr yX2_tr, Cond.initialized RX2, Cond.code yX2_tr cX2_tr 3 (some .int), Cond.fieldLink RX2 16 "SleepBorderModel" "now" "[I", Cond.methodLink RX2 96 yX2_minuteOn, Cond.instanceMethod yX2_minuteOn, Cond.selects RX2 yX2_minuteOn yX2_minuteOn, Cond.code yX2_minuteOn cX2_minuteOn 2 none, Cond.fieldLink RX2 22 "SleepBorderModel" "free" "[Z", Cond.fieldLink RX2 30 "SleepBorderModel" "travellers" "I", Cond.methodLink RX2 56 yX2_gu, Cond.instanceMethod yX2_gu, Cond.selects RX2 yX2_gu yX2_gu, Cond.code yX2_gu cX2_gu 3 (some .int), Cond.methodLink RX2 83 yX2_travel, Cond.instanceMethod yX2_travel, Cond.selects RX2 yX2_travel yX2_travel, Cond.code yX2_travel cX2_travel 2 none, Cond.methodLink RX2 63 yX2_let, Cond.instanceMethod yX2_let, Cond.selects RX2 yX2_let yX2_let, Cond.code yX2_let cX2_let 4 none]
def wsX2_run_r2 : List Cond := [Cond.methodLink RX2 87 yX2_listen, Cond.instanceMethod yX2_listen, Cond.selects RX2 yX2_listen yX2_listen, Cond.code yX2_listen cX2_listen 2 none, Cond.methodLink RX2 90 yX2_begin, Cond.instanceMethod yX2_begin, Cond.selects RX2 yX2_begin yX2_begin, Cond.code yX2_begin cX2_begin 3 none, Cond.methodLink RX2 77 Lib.Math.min.name, Cond.static Lib.Math.min.name, Cond.initialized "java/lang/Math", Cond.code Lib.Math.min.name Lib.Math.min.code 2 (some .int), Cond.methodLink RX2 74 yX2_first, Cond.instanceMethod yX2_first, Cond.selects RX2 yX2_first yX2_first, Cond.code yX2_first cX2_first 2 (some .int), Cond.methodLink RX2 67 yX2_post, Cond.instanceMethod yX2_post, Cond.selects RX2 yX2_post yX2_post, Cond.code yX2_post cX2_post 4 none, Cond.methodLink RX2 80 yX2_takes, Cond.instanceMethod yX2_takes, Cond.selects RX2 yX2_takes yX2_takes, Cond.code yX2_takes cX2_takes 2 (some .int)]
def wsX2_run_r3 : List Cond := [Cond.methodLink RX2 59 yX2_loud, Cond.instanceMethod yX2_loud, Cond.selects RX2 yX2_loud yX2_loud, Cond.code yX2_loud cX2_loud 3 (some .int), Cond.fieldLink RX2 13 "SleepBorderModel" "snore" "[I", Cond.methodLink RX2 93 yX2_searchOn, Cond.instanceMethod yX2_searchOn, Cond.selects RX2 yX2_searchOn yX2_searchOn, Cond.code yX2_searchOn cX2_searchOn 4 none, Cond.methodLink RX2 47 Lib.Math.max.name, Cond.static Lib.Math.max.name, Cond.code Lib.Math.max.name Lib.Math.max.code 2 (some .int), Cond.methodLink RX2 70 yX2_finds, Cond.instanceMethod yX2_finds, Cond.selects RX2 yX2_finds yX2_finds, Cond.code yX2_finds cX2_finds 3 (some .boolean), Cond.methodLink RX2 52 yX2_hidden, Cond.instanceMethod yX2_hidden, Cond.selects RX2 yX2_hidden yX2_hidden, Cond.code yX2_hidden cX2_hidden 2 (some .int), Cond.fieldLink RX2 9 "SleepBorderModel" "dreams" "[I"]
def wsX2_run : List Cond := .code yX2_run cX2_run 3 (some .int) :: ((wsX2_run_r1 ++ (wsX2_run_r2 ++ wsX2_run_r3)) ++ wsX20)
def wsX2_until_r1 : List Cond := [Cond.methodLink RX2 134 yX2_keep, Cond.instanceMethod yX2_keep, Cond.selects RX2 yX2_keep yX2_keep, Cond.initialized RX2, Cond.code yX2_keep cX2_keep 1 none, Cond.fieldLink RX2 16 "SleepBorderModel" "now" "[I", Cond.fieldLink RX2 19 "SleepBorderModel" "kept" "[I", Cond.methodLink RX2 37 arraycopyName, Cond.native arraycopyName, Cond.static arraycopyName, Cond.initialized "java/lang/System", Cond.methodLink RX2 137 yX2_run, Cond.instanceMethod yX2_run, Cond.selects RX2 yX2_run yX2_run, Cond.code yX2_run cX2_run 3 (some .int), Cond.methodLink RX2 43 yX2_tr, Cond.instanceMethod yX2_tr, Cond.selects RX2 yX2_tr yX2_tr, Cond.code yX2_tr cX2_tr 3 (some .int), Cond.methodLink RX2 96 yX2_minuteOn, Cond.instanceMethod yX2_minuteOn, Cond.selects RX2 yX2_minuteOn yX2_minuteOn, Cond.code yX2_minuteOn cX2_minuteOn 2 none, Cond.fieldLink RX2 22 "SleepBorderModel" "free" "[Z"]
def wsX2_until_r2 : List Cond := [Cond.fieldLink RX2 30 "SleepBorderModel" "travellers" "I", Cond.methodLink RX2 56 yX2_gu, Cond.instanceMethod yX2_gu, Cond.selects RX2 yX2_gu yX2_gu, Cond.code yX2_gu cX2_gu 3 (some .int), Cond.methodLink RX2 83 yX2_travel, Cond.instanceMethod yX2_travel, Cond.selects RX2 yX2_travel yX2_travel, Cond.code yX2_travel cX2_travel 2 none, Cond.methodLink RX2 63 yX2_let, Cond.instanceMethod yX2_let, Cond.selects RX2 yX2_let yX2_let, Cond.code yX2_let cX2_let 4 none, Cond.methodLink RX2 87 yX2_listen, Cond.instanceMethod yX2_listen, Cond.selects RX2 yX2_listen yX2_listen, Cond.code yX2_listen cX2_listen 2 none, Cond.methodLink RX2 90 yX2_begin, Cond.instanceMethod yX2_begin, Cond.selects RX2 yX2_begin yX2_begin, Cond.code yX2_begin cX2_begin 3 none, Cond.methodLink RX2 77 Lib.Math.min.name, Cond.static Lib.Math.min.name, Cond.initialized "java/lang/Math"]
def wsX2_until_r3 : List Cond := [Cond.code Lib.Math.min.name Lib.Math.min.code 2 (some .int), Cond.methodLink RX2 74 yX2_first, Cond.instanceMethod yX2_first, Cond.selects RX2 yX2_first yX2_first, Cond.code yX2_first cX2_first 2 (some .int), Cond.methodLink RX2 67 yX2_post, Cond.instanceMethod yX2_post, Cond.selects RX2 yX2_post yX2_post, Cond.code yX2_post cX2_post 4 none, Cond.methodLink RX2 80 yX2_takes, Cond.instanceMethod yX2_takes, Cond.selects RX2 yX2_takes yX2_takes, Cond.code yX2_takes cX2_takes 2 (some .int), Cond.methodLink RX2 59 yX2_loud, Cond.instanceMethod yX2_loud, Cond.selects RX2 yX2_loud yX2_loud, Cond.code yX2_loud cX2_loud 3 (some .int), Cond.fieldLink RX2 13 "SleepBorderModel" "snore" "[I", Cond.methodLink RX2 93 yX2_searchOn, Cond.instanceMethod yX2_searchOn, Cond.selects RX2 yX2_searchOn yX2_searchOn, Cond.code yX2_searchOn cX2_searchOn 4 none, Cond.methodLink RX2 47 Lib.Math.max.name, Cond.static Lib.Math.max.name]
def wsX2_until_r4 : List Cond := [Cond.code Lib.Math.max.name Lib.Math.max.code 2 (some .int), Cond.methodLink RX2 70 yX2_finds, Cond.instanceMethod yX2_finds, Cond.selects RX2 yX2_finds yX2_finds, Cond.code yX2_finds cX2_finds 3 (some .boolean), Cond.methodLink RX2 52 yX2_hidden, Cond.instanceMethod yX2_hidden, Cond.selects RX2 yX2_hidden yX2_hidden, Cond.code yX2_hidden cX2_hidden 2 (some .int), Cond.fieldLink RX2 9 "SleepBorderModel" "dreams" "[I", Cond.methodLink RX2 140 yX2_bringBack, Cond.instanceMethod yX2_bringBack, Cond.selects RX2 yX2_bringBack yX2_bringBack, Cond.code yX2_bringBack cX2_bringBack 1 none]
def wsX2_until : List Cond := .code yX2_until cX2_until 3 (some .int) :: ((wsX2_until_r1 ++ (wsX2_until_r2 ++ (wsX2_until_r3 ++ wsX2_until_r4))) ++ wsX20)
def wsX2_minutesUntilAsleep_r1 : List Cond := [Cond.fieldLink RX2 26 "SleepBorderModel" "thrown" "I", Cond.methodLink RX2 105 yX2_isTraveller, Cond.instanceMethod yX2_isTraveller, Cond.selects RX2 yX2_isTraveller yX2_isTraveller, Cond.initialized RX2, Cond.code yX2_isTraveller cX2_isTraveller 2 (some .boolean), Cond.fieldLink RX2 30 "SleepBorderModel" "travellers" "I", Cond.methodLink RX2 33 yX2_isIn, Cond.static yX2_isIn, Cond.code yX2_isIn cX2_isIn 3 (some .boolean), Cond.methodLink RX2 143 yX2_until, Cond.instanceMethod yX2_until, Cond.selects RX2 yX2_until yX2_until, Cond.code yX2_until cX2_until 3 (some .int), Cond.methodLink RX2 134 yX2_keep, Cond.instanceMethod yX2_keep, Cond.selects RX2 yX2_keep yX2_keep, Cond.code yX2_keep cX2_keep 1 none, Cond.fieldLink RX2 16 "SleepBorderModel" "now" "[I", Cond.fieldLink RX2 19 "SleepBorderModel" "kept" "[I", Cond.methodLink RX2 37 arraycopyName, Cond.native arraycopyName, Cond.static arraycopyName, Cond.initialized "java/lang/System"]
def wsX2_minutesUntilAsleep_r2 : List Cond := [Cond.methodLink RX2 137 yX2_run, Cond.instanceMethod yX2_run, Cond.selects RX2 yX2_run yX2_run, Cond.code yX2_run cX2_run 3 (some .int), Cond.methodLink RX2 43 yX2_tr, Cond.instanceMethod yX2_tr, Cond.selects RX2 yX2_tr yX2_tr, Cond.code yX2_tr cX2_tr 3 (some .int), Cond.methodLink RX2 96 yX2_minuteOn, Cond.instanceMethod yX2_minuteOn, Cond.selects RX2 yX2_minuteOn yX2_minuteOn, Cond.code yX2_minuteOn cX2_minuteOn 2 none, Cond.fieldLink RX2 22 "SleepBorderModel" "free" "[Z", Cond.methodLink RX2 56 yX2_gu, Cond.instanceMethod yX2_gu, Cond.selects RX2 yX2_gu yX2_gu, Cond.code yX2_gu cX2_gu 3 (some .int), Cond.methodLink RX2 83 yX2_travel, Cond.instanceMethod yX2_travel, Cond.selects RX2 yX2_travel yX2_travel, Cond.code yX2_travel cX2_travel 2 none, Cond.methodLink RX2 63 yX2_let, Cond.instanceMethod yX2_let, Cond.selects RX2 yX2_let yX2_let]
def wsX2_minutesUntilAsleep_r3 : List Cond := [Cond.code yX2_let cX2_let 4 none, Cond.methodLink RX2 87 yX2_listen, Cond.instanceMethod yX2_listen, Cond.selects RX2 yX2_listen yX2_listen, Cond.code yX2_listen cX2_listen 2 none, Cond.methodLink RX2 90 yX2_begin, Cond.instanceMethod yX2_begin, Cond.selects RX2 yX2_begin yX2_begin, Cond.code yX2_begin cX2_begin 3 none, Cond.methodLink RX2 77 Lib.Math.min.name, Cond.static Lib.Math.min.name, Cond.initialized "java/lang/Math", Cond.code Lib.Math.min.name Lib.Math.min.code 2 (some .int), Cond.methodLink RX2 74 yX2_first, Cond.instanceMethod yX2_first, Cond.selects RX2 yX2_first yX2_first, Cond.code yX2_first cX2_first 2 (some .int), Cond.methodLink RX2 67 yX2_post, Cond.instanceMethod yX2_post, Cond.selects RX2 yX2_post yX2_post, Cond.code yX2_post cX2_post 4 none, Cond.methodLink RX2 80 yX2_takes, Cond.instanceMethod yX2_takes, Cond.selects RX2 yX2_takes yX2_takes]
def wsX2_minutesUntilAsleep_r4 : List Cond := [Cond.code yX2_takes cX2_takes 2 (some .int), Cond.methodLink RX2 59 yX2_loud, Cond.instanceMethod yX2_loud, Cond.selects RX2 yX2_loud yX2_loud, Cond.code yX2_loud cX2_loud 3 (some .int), Cond.fieldLink RX2 13 "SleepBorderModel" "snore" "[I", Cond.methodLink RX2 93 yX2_searchOn, Cond.instanceMethod yX2_searchOn, Cond.selects RX2 yX2_searchOn yX2_searchOn, Cond.code yX2_searchOn cX2_searchOn 4 none, Cond.methodLink RX2 47 Lib.Math.max.name, Cond.static Lib.Math.max.name, Cond.code Lib.Math.max.name Lib.Math.max.code 2 (some .int), Cond.methodLink RX2 70 yX2_finds, Cond.instanceMethod yX2_finds, Cond.selects RX2 yX2_finds yX2_finds, Cond.code yX2_finds cX2_finds 3 (some .boolean), Cond.methodLink RX2 52 yX2_hidden, Cond.instanceMethod yX2_hidden, Cond.selects RX2 yX2_hidden yX2_hidden, Cond.code yX2_hidden cX2_hidden 2 (some .int), Cond.fieldLink RX2 9 "SleepBorderModel" "dreams" "[I", Cond.methodLink RX2 140 yX2_bringBack, Cond.instanceMethod yX2_bringBack]
def wsX2_minutesUntilAsleep_r5 : List Cond := [Cond.selects RX2 yX2_bringBack yX2_bringBack, Cond.code yX2_bringBack cX2_bringBack 1 none, Cond.methodLink RX2 99 yX2_fail, Cond.instanceMethod yX2_fail, Cond.selects RX2 yX2_fail yX2_fail, Cond.code yX2_fail cX2_fail 2 (some .int)]
def wsX2_minutesUntilAsleep : List Cond := .code yX2_minutesUntilAsleep cX2_minutesUntilAsleep 2 (some .int) :: ((wsX2_minutesUntilAsleep_r1 ++ (wsX2_minutesUntilAsleep_r2 ++ (wsX2_minutesUntilAsleep_r3 ++ (wsX2_minutesUntilAsleep_r4 ++ wsX2_minutesUntilAsleep_r5)))) ++ wsX20)
def wsX2_sleepers_r1 : List Cond := [Cond.methodLink RX2 134 yX2_keep, Cond.instanceMethod yX2_keep, Cond.selects RX2 yX2_keep yX2_keep, Cond.initialized RX2, Cond.code yX2_keep cX2_keep 1 none, Cond.fieldLink RX2 16 "SleepBorderModel" "now" "[I", Cond.fieldLink RX2 19 "SleepBorderModel" "kept" "[I", Cond.methodLink RX2 37 arraycopyName, Cond.native arraycopyName, Cond.static arraycopyName, Cond.initialized "java/lang/System", Cond.methodLink RX2 119 yX2_minutesOn, Cond.instanceMethod yX2_minutesOn, Cond.selects RX2 yX2_minutesOn yX2_minutesOn, Cond.code yX2_minutesOn cX2_minutesOn 3 none, Cond.methodLink RX2 96 yX2_minuteOn, Cond.instanceMethod yX2_minuteOn, Cond.selects RX2 yX2_minuteOn yX2_minuteOn, Cond.code yX2_minuteOn cX2_minuteOn 2 none, Cond.fieldLink RX2 22 "SleepBorderModel" "free" "[Z", Cond.fieldLink RX2 30 "SleepBorderModel" "travellers" "I", Cond.methodLink RX2 56 yX2_gu, Cond.instanceMethod yX2_gu, Cond.selects RX2 yX2_gu yX2_gu]
def wsX2_sleepers_r2 : List Cond := [Cond.code yX2_gu cX2_gu 3 (some .int), Cond.methodLink RX2 83 yX2_travel, Cond.instanceMethod yX2_travel, Cond.selects RX2 yX2_travel yX2_travel, Cond.code yX2_travel cX2_travel 2 none, Cond.methodLink RX2 43 yX2_tr, Cond.instanceMethod yX2_tr, Cond.selects RX2 yX2_tr yX2_tr, Cond.code yX2_tr cX2_tr 3 (some .int), Cond.methodLink RX2 63 yX2_let, Cond.instanceMethod yX2_let, Cond.selects RX2 yX2_let yX2_let, Cond.code yX2_let cX2_let 4 none, Cond.methodLink RX2 87 yX2_listen, Cond.instanceMethod yX2_listen, Cond.selects RX2 yX2_listen yX2_listen, Cond.code yX2_listen cX2_listen 2 none, Cond.methodLink RX2 90 yX2_begin, Cond.instanceMethod yX2_begin, Cond.selects RX2 yX2_begin yX2_begin, Cond.code yX2_begin cX2_begin 3 none, Cond.methodLink RX2 77 Lib.Math.min.name, Cond.static Lib.Math.min.name, Cond.initialized "java/lang/Math"]
def wsX2_sleepers_r3 : List Cond := [Cond.code Lib.Math.min.name Lib.Math.min.code 2 (some .int), Cond.methodLink RX2 74 yX2_first, Cond.instanceMethod yX2_first, Cond.selects RX2 yX2_first yX2_first, Cond.code yX2_first cX2_first 2 (some .int), Cond.methodLink RX2 67 yX2_post, Cond.instanceMethod yX2_post, Cond.selects RX2 yX2_post yX2_post, Cond.code yX2_post cX2_post 4 none, Cond.methodLink RX2 80 yX2_takes, Cond.instanceMethod yX2_takes, Cond.selects RX2 yX2_takes yX2_takes, Cond.code yX2_takes cX2_takes 2 (some .int), Cond.methodLink RX2 59 yX2_loud, Cond.instanceMethod yX2_loud, Cond.selects RX2 yX2_loud yX2_loud, Cond.code yX2_loud cX2_loud 3 (some .int), Cond.fieldLink RX2 13 "SleepBorderModel" "snore" "[I", Cond.methodLink RX2 93 yX2_searchOn, Cond.instanceMethod yX2_searchOn, Cond.selects RX2 yX2_searchOn yX2_searchOn, Cond.code yX2_searchOn cX2_searchOn 4 none, Cond.methodLink RX2 47 Lib.Math.max.name, Cond.static Lib.Math.max.name]
def wsX2_sleepers_r4 : List Cond := [Cond.code Lib.Math.max.name Lib.Math.max.code 2 (some .int), Cond.methodLink RX2 70 yX2_finds, Cond.instanceMethod yX2_finds, Cond.selects RX2 yX2_finds yX2_finds, Cond.code yX2_finds cX2_finds 3 (some .boolean), Cond.methodLink RX2 52 yX2_hidden, Cond.instanceMethod yX2_hidden, Cond.selects RX2 yX2_hidden yX2_hidden, Cond.code yX2_hidden cX2_hidden 2 (some .int), Cond.fieldLink RX2 9 "SleepBorderModel" "dreams" "[I", Cond.methodLink RX2 116 yX2_count, Cond.instanceMethod yX2_count, Cond.selects RX2 yX2_count yX2_count, Cond.code yX2_count cX2_count 4 (some .int), Cond.methodLink RX2 140 yX2_bringBack, Cond.instanceMethod yX2_bringBack, Cond.selects RX2 yX2_bringBack yX2_bringBack, Cond.code yX2_bringBack cX2_bringBack 1 none]
def wsX2_sleepers : List Cond := .code yX2_sleepers cX2_sleepers 3 (some .int) :: ((wsX2_sleepers_r1 ++ (wsX2_sleepers_r2 ++ (wsX2_sleepers_r3 ++ wsX2_sleepers_r4))) ++ wsX20)
def wsX2_asleepIn_r1 : List Cond := [Cond.fieldLink RX2 26 "SleepBorderModel" "thrown" "I", Cond.methodLink RX2 33 yX2_isIn, Cond.static yX2_isIn, Cond.initialized RX2, Cond.code yX2_isIn cX2_isIn 3 (some .boolean), Cond.methodLink RX2 146 yX2_sleepers, Cond.instanceMethod yX2_sleepers, Cond.selects RX2 yX2_sleepers yX2_sleepers, Cond.code yX2_sleepers cX2_sleepers 3 (some .int), Cond.methodLink RX2 134 yX2_keep, Cond.instanceMethod yX2_keep, Cond.selects RX2 yX2_keep yX2_keep, Cond.code yX2_keep cX2_keep 1 none, Cond.fieldLink RX2 16 "SleepBorderModel" "now" "[I", Cond.fieldLink RX2 19 "SleepBorderModel" "kept" "[I", Cond.methodLink RX2 37 arraycopyName, Cond.native arraycopyName, Cond.static arraycopyName, Cond.initialized "java/lang/System", Cond.methodLink RX2 119 yX2_minutesOn, Cond.instanceMethod yX2_minutesOn, Cond.selects RX2 yX2_minutesOn yX2_minutesOn, Cond.code yX2_minutesOn cX2_minutesOn 3 none, Cond.methodLink RX2 96 yX2_minuteOn]
def wsX2_asleepIn_r2 : List Cond := [Cond.instanceMethod yX2_minuteOn, Cond.selects RX2 yX2_minuteOn yX2_minuteOn, Cond.code yX2_minuteOn cX2_minuteOn 2 none, Cond.fieldLink RX2 22 "SleepBorderModel" "free" "[Z", Cond.fieldLink RX2 30 "SleepBorderModel" "travellers" "I", Cond.methodLink RX2 56 yX2_gu, Cond.instanceMethod yX2_gu, Cond.selects RX2 yX2_gu yX2_gu, Cond.code yX2_gu cX2_gu 3 (some .int), Cond.methodLink RX2 83 yX2_travel, Cond.instanceMethod yX2_travel, Cond.selects RX2 yX2_travel yX2_travel, Cond.code yX2_travel cX2_travel 2 none, Cond.methodLink RX2 43 yX2_tr, Cond.instanceMethod yX2_tr, Cond.selects RX2 yX2_tr yX2_tr, Cond.code yX2_tr cX2_tr 3 (some .int), Cond.methodLink RX2 63 yX2_let, Cond.instanceMethod yX2_let, Cond.selects RX2 yX2_let yX2_let, Cond.code yX2_let cX2_let 4 none, Cond.methodLink RX2 87 yX2_listen, Cond.instanceMethod yX2_listen, Cond.selects RX2 yX2_listen yX2_listen]
def wsX2_asleepIn_r3 : List Cond := [Cond.code yX2_listen cX2_listen 2 none, Cond.methodLink RX2 90 yX2_begin, Cond.instanceMethod yX2_begin, Cond.selects RX2 yX2_begin yX2_begin, Cond.code yX2_begin cX2_begin 3 none, Cond.methodLink RX2 77 Lib.Math.min.name, Cond.static Lib.Math.min.name, Cond.initialized "java/lang/Math", Cond.code Lib.Math.min.name Lib.Math.min.code 2 (some .int), Cond.methodLink RX2 74 yX2_first, Cond.instanceMethod yX2_first, Cond.selects RX2 yX2_first yX2_first, Cond.code yX2_first cX2_first 2 (some .int), Cond.methodLink RX2 67 yX2_post, Cond.instanceMethod yX2_post, Cond.selects RX2 yX2_post yX2_post, Cond.code yX2_post cX2_post 4 none, Cond.methodLink RX2 80 yX2_takes, Cond.instanceMethod yX2_takes, Cond.selects RX2 yX2_takes yX2_takes, Cond.code yX2_takes cX2_takes 2 (some .int), Cond.methodLink RX2 59 yX2_loud, Cond.instanceMethod yX2_loud, Cond.selects RX2 yX2_loud yX2_loud]
def wsX2_asleepIn_r4 : List Cond := [Cond.code yX2_loud cX2_loud 3 (some .int), Cond.fieldLink RX2 13 "SleepBorderModel" "snore" "[I", Cond.methodLink RX2 93 yX2_searchOn, Cond.instanceMethod yX2_searchOn, Cond.selects RX2 yX2_searchOn yX2_searchOn, Cond.code yX2_searchOn cX2_searchOn 4 none, Cond.methodLink RX2 47 Lib.Math.max.name, Cond.static Lib.Math.max.name, Cond.code Lib.Math.max.name Lib.Math.max.code 2 (some .int), Cond.methodLink RX2 70 yX2_finds, Cond.instanceMethod yX2_finds, Cond.selects RX2 yX2_finds yX2_finds, Cond.code yX2_finds cX2_finds 3 (some .boolean), Cond.methodLink RX2 52 yX2_hidden, Cond.instanceMethod yX2_hidden, Cond.selects RX2 yX2_hidden yX2_hidden, Cond.code yX2_hidden cX2_hidden 2 (some .int), Cond.fieldLink RX2 9 "SleepBorderModel" "dreams" "[I", Cond.methodLink RX2 116 yX2_count, Cond.instanceMethod yX2_count, Cond.selects RX2 yX2_count yX2_count, Cond.code yX2_count cX2_count 4 (some .int), Cond.methodLink RX2 140 yX2_bringBack, Cond.instanceMethod yX2_bringBack]
def wsX2_asleepIn_r5 : List Cond := [Cond.selects RX2 yX2_bringBack yX2_bringBack, Cond.code yX2_bringBack cX2_bringBack 1 none, Cond.methodLink RX2 99 yX2_fail, Cond.instanceMethod yX2_fail, Cond.selects RX2 yX2_fail yX2_fail, Cond.code yX2_fail cX2_fail 2 (some .int)]
def wsX2_asleepIn : List Cond := .code yX2_asleepIn cX2_asleepIn 2 (some .int) :: ((wsX2_asleepIn_r1 ++ (wsX2_asleepIn_r2 ++ (wsX2_asleepIn_r3 ++ (wsX2_asleepIn_r4 ++ wsX2_asleepIn_r5)))) ++ wsX20)
def wsX2_bestToDeclare_r1 : List Cond := [Cond.fieldLink RX2 26 "SleepBorderModel" "thrown" "I", Cond.methodLink RX2 105 yX2_isTraveller, Cond.instanceMethod yX2_isTraveller, Cond.selects RX2 yX2_isTraveller yX2_isTraveller, Cond.initialized RX2, Cond.code yX2_isTraveller cX2_isTraveller 2 (some .boolean), Cond.fieldLink RX2 30 "SleepBorderModel" "travellers" "I", Cond.methodLink RX2 33 yX2_isIn, Cond.static yX2_isIn, Cond.code yX2_isIn cX2_isIn 3 (some .boolean), Cond.methodLink RX2 99 yX2_fail, Cond.instanceMethod yX2_fail, Cond.selects RX2 yX2_fail yX2_fail, Cond.code yX2_fail cX2_fail 2 (some .int), Cond.methodLink RX2 43 yX2_tr, Cond.instanceMethod yX2_tr, Cond.selects RX2 yX2_tr yX2_tr, Cond.code yX2_tr cX2_tr 3 (some .int), Cond.fieldLink RX2 16 "SleepBorderModel" "now" "[I", Cond.methodLink RX2 134 yX2_keep, Cond.instanceMethod yX2_keep, Cond.selects RX2 yX2_keep yX2_keep, Cond.code yX2_keep cX2_keep 1 none, Cond.fieldLink RX2 19 "SleepBorderModel" "kept" "[I"]
def wsX2_bestToDeclare_r2 : List Cond := [Cond.methodLink RX2 37 arraycopyName, Cond.native arraycopyName, Cond.static arraycopyName, Cond.initialized "java/lang/System", Cond.methodLink RX2 63 yX2_let, Cond.instanceMethod yX2_let, Cond.selects RX2 yX2_let yX2_let, Cond.code yX2_let cX2_let 4 none, Cond.methodLink RX2 137 yX2_run, Cond.instanceMethod yX2_run, Cond.selects RX2 yX2_run yX2_run, Cond.code yX2_run cX2_run 3 (some .int), Cond.methodLink RX2 96 yX2_minuteOn, Cond.instanceMethod yX2_minuteOn, Cond.selects RX2 yX2_minuteOn yX2_minuteOn, Cond.code yX2_minuteOn cX2_minuteOn 2 none, Cond.fieldLink RX2 22 "SleepBorderModel" "free" "[Z", Cond.methodLink RX2 56 yX2_gu, Cond.instanceMethod yX2_gu, Cond.selects RX2 yX2_gu yX2_gu, Cond.code yX2_gu cX2_gu 3 (some .int), Cond.methodLink RX2 83 yX2_travel, Cond.instanceMethod yX2_travel, Cond.selects RX2 yX2_travel yX2_travel]
def wsX2_bestToDeclare_r3 : List Cond := [Cond.code yX2_travel cX2_travel 2 none, Cond.methodLink RX2 87 yX2_listen, Cond.instanceMethod yX2_listen, Cond.selects RX2 yX2_listen yX2_listen, Cond.code yX2_listen cX2_listen 2 none, Cond.methodLink RX2 90 yX2_begin, Cond.instanceMethod yX2_begin, Cond.selects RX2 yX2_begin yX2_begin, Cond.code yX2_begin cX2_begin 3 none, Cond.methodLink RX2 77 Lib.Math.min.name, Cond.static Lib.Math.min.name, Cond.initialized "java/lang/Math", Cond.code Lib.Math.min.name Lib.Math.min.code 2 (some .int), Cond.methodLink RX2 74 yX2_first, Cond.instanceMethod yX2_first, Cond.selects RX2 yX2_first yX2_first, Cond.code yX2_first cX2_first 2 (some .int), Cond.methodLink RX2 67 yX2_post, Cond.instanceMethod yX2_post, Cond.selects RX2 yX2_post yX2_post, Cond.code yX2_post cX2_post 4 none, Cond.methodLink RX2 80 yX2_takes, Cond.instanceMethod yX2_takes, Cond.selects RX2 yX2_takes yX2_takes]
def wsX2_bestToDeclare_r4 : List Cond := [Cond.code yX2_takes cX2_takes 2 (some .int), Cond.methodLink RX2 59 yX2_loud, Cond.instanceMethod yX2_loud, Cond.selects RX2 yX2_loud yX2_loud, Cond.code yX2_loud cX2_loud 3 (some .int), Cond.fieldLink RX2 13 "SleepBorderModel" "snore" "[I", Cond.methodLink RX2 93 yX2_searchOn, Cond.instanceMethod yX2_searchOn, Cond.selects RX2 yX2_searchOn yX2_searchOn, Cond.code yX2_searchOn cX2_searchOn 4 none, Cond.methodLink RX2 47 Lib.Math.max.name, Cond.static Lib.Math.max.name, Cond.code Lib.Math.max.name Lib.Math.max.code 2 (some .int), Cond.methodLink RX2 70 yX2_finds, Cond.instanceMethod yX2_finds, Cond.selects RX2 yX2_finds yX2_finds, Cond.code yX2_finds cX2_finds 3 (some .boolean), Cond.methodLink RX2 52 yX2_hidden, Cond.instanceMethod yX2_hidden, Cond.selects RX2 yX2_hidden yX2_hidden, Cond.code yX2_hidden cX2_hidden 2 (some .int), Cond.fieldLink RX2 9 "SleepBorderModel" "dreams" "[I", Cond.methodLink RX2 140 yX2_bringBack, Cond.instanceMethod yX2_bringBack]
def wsX2_bestToDeclare_r5 : List Cond := [Cond.selects RX2 yX2_bringBack yX2_bringBack, Cond.code yX2_bringBack cX2_bringBack 1 none]
def wsX2_bestToDeclare : List Cond := .code yX2_bestToDeclare cX2_bestToDeclare 6 (some .int) :: ((wsX2_bestToDeclare_r1 ++ (wsX2_bestToDeclare_r2 ++ (wsX2_bestToDeclare_r3 ++ (wsX2_bestToDeclare_r4 ++ wsX2_bestToDeclare_r5)))) ++ wsX20)
def wsX2_wanted_r1 : List Cond := [Cond.fieldLink RX2 16 "SleepBorderModel" "now" "[I", Cond.methodLink RX2 134 yX2_keep, Cond.instanceMethod yX2_keep, Cond.selects RX2 yX2_keep yX2_keep, Cond.initialized RX2, Cond.code yX2_keep cX2_keep 1 none, Cond.fieldLink RX2 19 "SleepBorderModel" "kept" "[I", Cond.methodLink RX2 37 arraycopyName, Cond.native arraycopyName, Cond.static arraycopyName, Cond.initialized "java/lang/System", Cond.methodLink RX2 102 yX2_hire, Cond.instanceMethod yX2_hire, Cond.selects RX2 yX2_hire yX2_hire, Cond.code yX2_hire cX2_hire 2 none, Cond.methodLink RX2 67 yX2_post, Cond.instanceMethod yX2_post, Cond.selects RX2 yX2_post yX2_post, Cond.code yX2_post cX2_post 4 none, Cond.methodLink RX2 119 yX2_minutesOn, Cond.instanceMethod yX2_minutesOn, Cond.selects RX2 yX2_minutesOn yX2_minutesOn, Cond.code yX2_minutesOn cX2_minutesOn 3 none, Cond.methodLink RX2 96 yX2_minuteOn]
def wsX2_wanted_r2 : List Cond := [Cond.instanceMethod yX2_minuteOn, Cond.selects RX2 yX2_minuteOn yX2_minuteOn, Cond.code yX2_minuteOn cX2_minuteOn 2 none, Cond.fieldLink RX2 22 "SleepBorderModel" "free" "[Z", Cond.fieldLink RX2 30 "SleepBorderModel" "travellers" "I", Cond.methodLink RX2 56 yX2_gu, Cond.instanceMethod yX2_gu, Cond.selects RX2 yX2_gu yX2_gu, Cond.code yX2_gu cX2_gu 3 (some .int), Cond.methodLink RX2 83 yX2_travel, Cond.instanceMethod yX2_travel, Cond.selects RX2 yX2_travel yX2_travel, Cond.code yX2_travel cX2_travel 2 none, Cond.methodLink RX2 43 yX2_tr, Cond.instanceMethod yX2_tr, Cond.selects RX2 yX2_tr yX2_tr, Cond.code yX2_tr cX2_tr 3 (some .int), Cond.methodLink RX2 63 yX2_let, Cond.instanceMethod yX2_let, Cond.selects RX2 yX2_let yX2_let, Cond.code yX2_let cX2_let 4 none, Cond.methodLink RX2 87 yX2_listen, Cond.instanceMethod yX2_listen, Cond.selects RX2 yX2_listen yX2_listen]
def wsX2_wanted_r3 : List Cond := [Cond.code yX2_listen cX2_listen 2 none, Cond.methodLink RX2 90 yX2_begin, Cond.instanceMethod yX2_begin, Cond.selects RX2 yX2_begin yX2_begin, Cond.code yX2_begin cX2_begin 3 none, Cond.methodLink RX2 77 Lib.Math.min.name, Cond.static Lib.Math.min.name, Cond.initialized "java/lang/Math", Cond.code Lib.Math.min.name Lib.Math.min.code 2 (some .int), Cond.methodLink RX2 74 yX2_first, Cond.instanceMethod yX2_first, Cond.selects RX2 yX2_first yX2_first, Cond.code yX2_first cX2_first 2 (some .int), Cond.methodLink RX2 80 yX2_takes, Cond.instanceMethod yX2_takes, Cond.selects RX2 yX2_takes yX2_takes, Cond.code yX2_takes cX2_takes 2 (some .int), Cond.methodLink RX2 59 yX2_loud, Cond.instanceMethod yX2_loud, Cond.selects RX2 yX2_loud yX2_loud, Cond.code yX2_loud cX2_loud 3 (some .int), Cond.fieldLink RX2 13 "SleepBorderModel" "snore" "[I", Cond.methodLink RX2 93 yX2_searchOn, Cond.instanceMethod yX2_searchOn]
def wsX2_wanted_r4 : List Cond := [Cond.selects RX2 yX2_searchOn yX2_searchOn, Cond.code yX2_searchOn cX2_searchOn 4 none, Cond.methodLink RX2 47 Lib.Math.max.name, Cond.static Lib.Math.max.name, Cond.code Lib.Math.max.name Lib.Math.max.code 2 (some .int), Cond.methodLink RX2 70 yX2_finds, Cond.instanceMethod yX2_finds, Cond.selects RX2 yX2_finds yX2_finds, Cond.code yX2_finds cX2_finds 3 (some .boolean), Cond.methodLink RX2 52 yX2_hidden, Cond.instanceMethod yX2_hidden, Cond.selects RX2 yX2_hidden yX2_hidden, Cond.code yX2_hidden cX2_hidden 2 (some .int), Cond.fieldLink RX2 9 "SleepBorderModel" "dreams" "[I", Cond.methodLink RX2 140 yX2_bringBack, Cond.instanceMethod yX2_bringBack, Cond.selects RX2 yX2_bringBack yX2_bringBack, Cond.code yX2_bringBack cX2_bringBack 1 none]
def wsX2_wanted : List Cond := .code yX2_wanted cX2_wanted 5 (some .int) :: ((wsX2_wanted_r1 ++ (wsX2_wanted_r2 ++ (wsX2_wanted_r3 ++ wsX2_wanted_r4))) ++ wsX20)
def wsX2_guardsWanted_r1 : List Cond := [Cond.methodLink RX2 149 yX2_wanted, Cond.instanceMethod yX2_wanted, Cond.selects RX2 yX2_wanted yX2_wanted, Cond.initialized RX2, Cond.code yX2_wanted cX2_wanted 5 (some .int), Cond.fieldLink RX2 16 "SleepBorderModel" "now" "[I", Cond.methodLink RX2 134 yX2_keep, Cond.instanceMethod yX2_keep, Cond.selects RX2 yX2_keep yX2_keep, Cond.code yX2_keep cX2_keep 1 none, Cond.fieldLink RX2 19 "SleepBorderModel" "kept" "[I", Cond.methodLink RX2 37 arraycopyName, Cond.native arraycopyName, Cond.static arraycopyName, Cond.initialized "java/lang/System", Cond.methodLink RX2 102 yX2_hire, Cond.instanceMethod yX2_hire, Cond.selects RX2 yX2_hire yX2_hire, Cond.code yX2_hire cX2_hire 2 none, Cond.methodLink RX2 67 yX2_post, Cond.instanceMethod yX2_post, Cond.selects RX2 yX2_post yX2_post, Cond.code yX2_post cX2_post 4 none, Cond.methodLink RX2 119 yX2_minutesOn]
def wsX2_guardsWanted_r2 : List Cond := [Cond.instanceMethod yX2_minutesOn, Cond.selects RX2 yX2_minutesOn yX2_minutesOn, Cond.code yX2_minutesOn cX2_minutesOn 3 none, Cond.methodLink RX2 96 yX2_minuteOn, Cond.instanceMethod yX2_minuteOn, Cond.selects RX2 yX2_minuteOn yX2_minuteOn, Cond.code yX2_minuteOn cX2_minuteOn 2 none, Cond.fieldLink RX2 22 "SleepBorderModel" "free" "[Z", Cond.fieldLink RX2 30 "SleepBorderModel" "travellers" "I", Cond.methodLink RX2 56 yX2_gu, Cond.instanceMethod yX2_gu, Cond.selects RX2 yX2_gu yX2_gu, Cond.code yX2_gu cX2_gu 3 (some .int), Cond.methodLink RX2 83 yX2_travel, Cond.instanceMethod yX2_travel, Cond.selects RX2 yX2_travel yX2_travel, Cond.code yX2_travel cX2_travel 2 none, Cond.methodLink RX2 43 yX2_tr, Cond.instanceMethod yX2_tr, Cond.selects RX2 yX2_tr yX2_tr, Cond.code yX2_tr cX2_tr 3 (some .int), Cond.methodLink RX2 63 yX2_let, Cond.instanceMethod yX2_let, Cond.selects RX2 yX2_let yX2_let]
def wsX2_guardsWanted_r3 : List Cond := [Cond.code yX2_let cX2_let 4 none, Cond.methodLink RX2 87 yX2_listen, Cond.instanceMethod yX2_listen, Cond.selects RX2 yX2_listen yX2_listen, Cond.code yX2_listen cX2_listen 2 none, Cond.methodLink RX2 90 yX2_begin, Cond.instanceMethod yX2_begin, Cond.selects RX2 yX2_begin yX2_begin, Cond.code yX2_begin cX2_begin 3 none, Cond.methodLink RX2 77 Lib.Math.min.name, Cond.static Lib.Math.min.name, Cond.initialized "java/lang/Math", Cond.code Lib.Math.min.name Lib.Math.min.code 2 (some .int), Cond.methodLink RX2 74 yX2_first, Cond.instanceMethod yX2_first, Cond.selects RX2 yX2_first yX2_first, Cond.code yX2_first cX2_first 2 (some .int), Cond.methodLink RX2 80 yX2_takes, Cond.instanceMethod yX2_takes, Cond.selects RX2 yX2_takes yX2_takes, Cond.code yX2_takes cX2_takes 2 (some .int), Cond.methodLink RX2 59 yX2_loud, Cond.instanceMethod yX2_loud, Cond.selects RX2 yX2_loud yX2_loud]
def wsX2_guardsWanted_r4 : List Cond := [Cond.code yX2_loud cX2_loud 3 (some .int), Cond.fieldLink RX2 13 "SleepBorderModel" "snore" "[I", Cond.methodLink RX2 93 yX2_searchOn, Cond.instanceMethod yX2_searchOn, Cond.selects RX2 yX2_searchOn yX2_searchOn, Cond.code yX2_searchOn cX2_searchOn 4 none, Cond.methodLink RX2 47 Lib.Math.max.name, Cond.static Lib.Math.max.name, Cond.code Lib.Math.max.name Lib.Math.max.code 2 (some .int), Cond.methodLink RX2 70 yX2_finds, Cond.instanceMethod yX2_finds, Cond.selects RX2 yX2_finds yX2_finds, Cond.code yX2_finds cX2_finds 3 (some .boolean), Cond.methodLink RX2 52 yX2_hidden, Cond.instanceMethod yX2_hidden, Cond.selects RX2 yX2_hidden yX2_hidden, Cond.code yX2_hidden cX2_hidden 2 (some .int), Cond.fieldLink RX2 9 "SleepBorderModel" "dreams" "[I", Cond.methodLink RX2 140 yX2_bringBack, Cond.instanceMethod yX2_bringBack, Cond.selects RX2 yX2_bringBack yX2_bringBack, Cond.code yX2_bringBack cX2_bringBack 1 none, Cond.methodLink RX2 122 yX2_told, Cond.instanceMethod yX2_told]
def wsX2_guardsWanted_r5 : List Cond := [Cond.selects RX2 yX2_told yX2_told, Cond.code yX2_told cX2_told 2 (some .int), Cond.fieldLink RX2 26 "SleepBorderModel" "thrown" "I"]
def wsX2_guardsWanted : List Cond := .code yX2_guardsWanted cX2_guardsWanted 1 (some .int) :: ((wsX2_guardsWanted_r1 ++ (wsX2_guardsWanted_r2 ++ (wsX2_guardsWanted_r3 ++ (wsX2_guardsWanted_r4 ++ wsX2_guardsWanted_r5)))) ++ wsX20)
def wsX2_meanAlertness : List Cond := .code yX2_meanAlertness cX2_meanAlertness 3 (some .double) :: ([.fieldLink RX2 26 "SleepBorderModel" "thrown" "I", .fieldLink RX2 16 "SleepBorderModel" "now" "[I", .methodLink RX2 56 yX2_gu, .instanceMethod yX2_gu, .selects RX2 yX2_gu yX2_gu, .initialized RX2, .code yX2_gu cX2_gu 3 (some .int)] ++ wsX20)
def wsX2_digest_r1 : List Cond := [Cond.fieldLink RX2 26 "SleepBorderModel" "thrown" "I", Cond.arrayClass .int, Cond.fieldLink RX2 16 "SleepBorderModel" "now" "[I", Cond.fieldLink RX2 30 "SleepBorderModel" "travellers" "I", Cond.constantLong RX2 152 (2131), Cond.constantLong RX2 154 (31), Cond.methodLink RX2 116 yX2_count, Cond.instanceMethod yX2_count, Cond.selects RX2 yX2_count yX2_count, Cond.initialized RX2, Cond.code yX2_count cX2_count 4 (some .int), Cond.methodLink RX2 43 yX2_tr, Cond.instanceMethod yX2_tr, Cond.selects RX2 yX2_tr yX2_tr, Cond.code yX2_tr cX2_tr 3 (some .int), Cond.methodLink RX2 59 yX2_loud, Cond.instanceMethod yX2_loud, Cond.selects RX2 yX2_loud yX2_loud, Cond.code yX2_loud cX2_loud 3 (some .int), Cond.fieldLink RX2 13 "SleepBorderModel" "snore" "[I", Cond.methodLink RX2 74 yX2_first, Cond.instanceMethod yX2_first, Cond.selects RX2 yX2_first yX2_first, Cond.code yX2_first cX2_first 2 (some .int)]
def wsX2_digest_r2 : List Cond := [Cond.methodLink RX2 131 yX2_alertest, Cond.instanceMethod yX2_alertest, Cond.selects RX2 yX2_alertest yX2_alertest, Cond.code yX2_alertest cX2_alertest 3 (some .int), Cond.methodLink RX2 56 yX2_gu, Cond.instanceMethod yX2_gu, Cond.selects RX2 yX2_gu yX2_gu, Cond.code yX2_gu cX2_gu 3 (some .int), Cond.methodLink RX2 146 yX2_sleepers, Cond.instanceMethod yX2_sleepers, Cond.selects RX2 yX2_sleepers yX2_sleepers, Cond.code yX2_sleepers cX2_sleepers 3 (some .int), Cond.methodLink RX2 134 yX2_keep, Cond.instanceMethod yX2_keep, Cond.selects RX2 yX2_keep yX2_keep, Cond.code yX2_keep cX2_keep 1 none, Cond.fieldLink RX2 19 "SleepBorderModel" "kept" "[I", Cond.methodLink RX2 37 arraycopyName, Cond.native arraycopyName, Cond.static arraycopyName, Cond.initialized "java/lang/System", Cond.methodLink RX2 119 yX2_minutesOn, Cond.instanceMethod yX2_minutesOn, Cond.selects RX2 yX2_minutesOn yX2_minutesOn]
def wsX2_digest_r3 : List Cond := [Cond.code yX2_minutesOn cX2_minutesOn 3 none, Cond.methodLink RX2 96 yX2_minuteOn, Cond.instanceMethod yX2_minuteOn, Cond.selects RX2 yX2_minuteOn yX2_minuteOn, Cond.code yX2_minuteOn cX2_minuteOn 2 none, Cond.fieldLink RX2 22 "SleepBorderModel" "free" "[Z", Cond.methodLink RX2 83 yX2_travel, Cond.instanceMethod yX2_travel, Cond.selects RX2 yX2_travel yX2_travel, Cond.code yX2_travel cX2_travel 2 none, Cond.methodLink RX2 63 yX2_let, Cond.instanceMethod yX2_let, Cond.selects RX2 yX2_let yX2_let, Cond.code yX2_let cX2_let 4 none, Cond.methodLink RX2 87 yX2_listen, Cond.instanceMethod yX2_listen, Cond.selects RX2 yX2_listen yX2_listen, Cond.code yX2_listen cX2_listen 2 none, Cond.methodLink RX2 90 yX2_begin, Cond.instanceMethod yX2_begin, Cond.selects RX2 yX2_begin yX2_begin, Cond.code yX2_begin cX2_begin 3 none, Cond.methodLink RX2 77 Lib.Math.min.name, Cond.static Lib.Math.min.name]
def wsX2_digest_r4 : List Cond := [Cond.initialized "java/lang/Math", Cond.code Lib.Math.min.name Lib.Math.min.code 2 (some .int), Cond.methodLink RX2 67 yX2_post, Cond.instanceMethod yX2_post, Cond.selects RX2 yX2_post yX2_post, Cond.code yX2_post cX2_post 4 none, Cond.methodLink RX2 80 yX2_takes, Cond.instanceMethod yX2_takes, Cond.selects RX2 yX2_takes yX2_takes, Cond.code yX2_takes cX2_takes 2 (some .int), Cond.methodLink RX2 93 yX2_searchOn, Cond.instanceMethod yX2_searchOn, Cond.selects RX2 yX2_searchOn yX2_searchOn, Cond.code yX2_searchOn cX2_searchOn 4 none, Cond.methodLink RX2 47 Lib.Math.max.name, Cond.static Lib.Math.max.name, Cond.code Lib.Math.max.name Lib.Math.max.code 2 (some .int), Cond.methodLink RX2 70 yX2_finds, Cond.instanceMethod yX2_finds, Cond.selects RX2 yX2_finds yX2_finds, Cond.code yX2_finds cX2_finds 3 (some .boolean), Cond.methodLink RX2 52 yX2_hidden, Cond.instanceMethod yX2_hidden, Cond.selects RX2 yX2_hidden yX2_hidden]
def wsX2_digest_r5 : List Cond := [Cond.code yX2_hidden cX2_hidden 2 (some .int), Cond.fieldLink RX2 9 "SleepBorderModel" "dreams" "[I", Cond.methodLink RX2 140 yX2_bringBack, Cond.instanceMethod yX2_bringBack, Cond.selects RX2 yX2_bringBack yX2_bringBack, Cond.code yX2_bringBack cX2_bringBack 1 none, Cond.methodLink RX2 149 yX2_wanted, Cond.instanceMethod yX2_wanted, Cond.selects RX2 yX2_wanted yX2_wanted, Cond.code yX2_wanted cX2_wanted 5 (some .int), Cond.methodLink RX2 102 yX2_hire, Cond.instanceMethod yX2_hire, Cond.selects RX2 yX2_hire yX2_hire, Cond.code yX2_hire cX2_hire 2 none, Cond.methodLink RX2 125 yX2_place, Cond.instanceMethod yX2_place, Cond.selects RX2 yX2_place yX2_place, Cond.code yX2_place cX2_place 4 (some .int), Cond.methodLink RX2 143 yX2_until, Cond.instanceMethod yX2_until, Cond.selects RX2 yX2_until yX2_until, Cond.code yX2_until cX2_until 3 (some .int), Cond.methodLink RX2 137 yX2_run, Cond.instanceMethod yX2_run]
def wsX2_digest_r6 : List Cond := [Cond.selects RX2 yX2_run yX2_run, Cond.code yX2_run cX2_run 3 (some .int)]
def wsX2_digest : List Cond := .code yX2_digest cX2_digest 10 (some .long) :: ((wsX2_digest_r1 ++ (wsX2_digest_r2 ++ (wsX2_digest_r3 ++ (wsX2_digest_r4 ++ (wsX2_digest_r5 ++ wsX2_digest_r6))))) ++ wsX20)
def wsJ9_max_7cf53 : List Cond := .code yJ9_max_7cf53 cJ9_max_7cf53 2 (some .int) :: ([])
def wsJ9_min_7cf53 : List Cond := .code yJ9_min_7cf53 cJ9_min_7cf53 2 (some .int) :: ([])
def wsL_addGuard : List Cond := .codeWith yL_addGuard cL_addGuard 3 (some .int) [(0, 8, 11, 13)] :: ([.classLink RL 13 "java/lang/IllegalStateException", .methodLink RL 7 yX1_addGuard, .instanceMethod yX1_addGuard, .selects RX1 yX1_addGuard yX1_addGuard, .initialized RX1, .code yX1_addGuard cX1_addGuard 1 (some .int), .classLink RX1 23 "java/lang/IllegalStateException", .initialized "java/lang/IllegalStateException", .fieldLink RX1 10 "SleepBorder" "now" "LSleepBorder$Border;", .fieldLink RX1 19 "SleepBorder$Border" "guardCount" "I", .methodLink RX1 30 yX0_admitGuard, .instanceMethod yX0_admitGuard, .selects RX0 yX0_admitGuard yX0_admitGuard, .initialized RX0, .code yX0_admitGuard cX0_admitGuard 1 none, .fieldLink RX0 46 "SleepBorder$Border" "guardCount" "I", .fieldLink RX0 49 "SleepBorder$Border" "alertness" "[I", .fieldLink RX0 52 "SleepBorder$Border" "searched" "[I", .fieldLink RX0 55 "SleepBorder$Border" "searchLeft" "[I"] ++ wsX10 ++ wsX00 ++ (vx_atS RX1 27 "java/lang/IllegalStateException" ["java/lang/RuntimeException", "java/lang/Exception"]).filter goodWord)
def wsL_arrive_r1 : List Cond := [Cond.classLink RL 19 "java/lang/IllegalArgumentException", Cond.classLink RL 13 "java/lang/IllegalStateException", Cond.methodLink RL 15 yX1_arrive, Cond.instanceMethod yX1_arrive, Cond.selects RX1 yX1_arrive yX1_arrive, Cond.initialized RX1, Cond.code yX1_arrive cX1_arrive 5 (some .int), Cond.classLink RX1 23 "java/lang/IllegalStateException", Cond.initialized "java/lang/IllegalStateException", Cond.fieldLink RX1 10 "SleepBorder" "now" "LSleepBorder$Border;", Cond.fieldLink RX1 40 "SleepBorder$Border" "travellerCount" "I", Cond.methodLink RX1 33 yX1_requireDigit, Cond.static yX1_requireDigit, Cond.code yX1_requireDigit cX1_requireDigit 1 none, Cond.classLink RX1 218 "java/lang/IllegalArgumentException", Cond.initialized "java/lang/IllegalArgumentException", Cond.methodLink RX1 37 yX1_requireMinutes, Cond.static yX1_requireMinutes, Cond.code yX1_requireMinutes cX1_requireMinutes 1 none, Cond.methodLink RX1 45 yX0_admitTraveller, Cond.instanceMethod yX0_admitTraveller, Cond.selects RX0 yX0_admitTraveller yX0_admitTraveller, Cond.initialized RX0, Cond.code yX0_admitTraveller cX0_admitTraveller 5 none]
def wsL_arrive_r2 : List Cond := [Cond.fieldLink RX0 21 "SleepBorder$Border" "travellerCount" "I", Cond.fieldLink RX0 24 "SleepBorder$Border" "dreams" "[I", Cond.fieldLink RX0 28 "SleepBorder$Border" "declared" "[I", Cond.fieldLink RX0 31 "SleepBorder$Border" "snore" "[I", Cond.fieldLink RX0 34 "SleepBorder$Border" "lullaby" "[I", Cond.fieldLink RX0 37 "SleepBorder$Border" "state" "[I"]
def wsL_arrive : List Cond := .codeWith yL_arrive cL_arrive 7 (some .int) [(0, 14, 17, 19), (0, 14, 21, 13)] :: ((wsL_arrive_r1 ++ wsL_arrive_r2) ++ wsX10 ++ wsX00 ++ (vx_atS RX1 27 "java/lang/IllegalStateException" ["java/lang/RuntimeException", "java/lang/Exception"]).filter goodWord ++ (vx_atS RX1 222 "java/lang/IllegalArgumentException" ["java/lang/RuntimeException", "java/lang/Exception"]).filter goodWord)
def wsL_declare_r1 : List Cond := [Cond.classLink RL 25 "java/lang/IndexOutOfBoundsException", Cond.classLink RL 19 "java/lang/IllegalArgumentException", Cond.classLink RL 13 "java/lang/IllegalStateException", Cond.methodLink RL 21 yX1_declare, Cond.instanceMethod yX1_declare, Cond.selects RX1 yX1_declare yX1_declare, Cond.initialized RX1, Cond.code yX1_declare cX1_declare 4 (some .int), Cond.fieldLink RX1 10 "SleepBorder" "now" "LSleepBorder$Border;", Cond.fieldLink RX1 55 "SleepBorder$Border" "declared" "[I", Cond.methodLink RX1 49 yX1_requireTraveller, Cond.instanceMethod yX1_requireTraveller, Cond.selects RX1 yX1_requireTraveller yX1_requireTraveller, Cond.code yX1_requireTraveller cX1_requireTraveller 2 none, Cond.classLink RX1 208 "java/lang/IndexOutOfBoundsException", Cond.initialized "java/lang/IndexOutOfBoundsException", Cond.methodLink RX1 204 yX0_isTraveller, Cond.instanceMethod yX0_isTraveller, Cond.selects RX0 yX0_isTraveller yX0_isTraveller, Cond.initialized RX0, Cond.code yX0_isTraveller cX0_isTraveller 2 (some .boolean), Cond.fieldLink RX0 21 "SleepBorder$Border" "travellerCount" "I", Cond.methodLink RX1 33 yX1_requireDigit, Cond.static yX1_requireDigit]
def wsL_declare_r2 : List Cond := [Cond.code yX1_requireDigit cX1_requireDigit 1 none, Cond.classLink RX1 218 "java/lang/IllegalArgumentException", Cond.initialized "java/lang/IllegalArgumentException", Cond.methodLink RX1 52 yX1_requireWaiting, Cond.instanceMethod yX1_requireWaiting, Cond.selects RX1 yX1_requireWaiting yX1_requireWaiting, Cond.code yX1_requireWaiting cX1_requireWaiting 2 none, Cond.classLink RX1 23 "java/lang/IllegalStateException", Cond.initialized "java/lang/IllegalStateException", Cond.fieldLink RX1 91 "SleepBorder$Border" "state" "[I"]
def wsL_declare : List Cond := .codeWith yL_declare cL_declare 5 (some .int) [(0, 10, 13, 25), (0, 10, 17, 19), (0, 10, 21, 13)] :: ((wsL_declare_r1 ++ wsL_declare_r2) ++ wsX10 ++ wsX00 ++ (vx_atS RX1 212 "java/lang/IndexOutOfBoundsException" ["java/lang/RuntimeException", "java/lang/Exception"]).filter goodWord ++ (vx_atS RX1 222 "java/lang/IllegalArgumentException" ["java/lang/RuntimeException", "java/lang/Exception"]).filter goodWord ++ (vx_atS RX1 27 "java/lang/IllegalStateException" ["java/lang/RuntimeException", "java/lang/Exception"]).filter goodWord)
def wsL_sing_r1 : List Cond := [Cond.classLink RL 25 "java/lang/IndexOutOfBoundsException", Cond.classLink RL 19 "java/lang/IllegalArgumentException", Cond.classLink RL 13 "java/lang/IllegalStateException", Cond.methodLink RL 27 yX1_sing, Cond.instanceMethod yX1_sing, Cond.selects RX1 yX1_sing yX1_sing, Cond.initialized RX1, Cond.code yX1_sing cX1_sing 4 (some .int), Cond.fieldLink RX1 10 "SleepBorder" "now" "LSleepBorder$Border;", Cond.fieldLink RX1 59 "SleepBorder$Border" "lullaby" "[I", Cond.methodLink RX1 49 yX1_requireTraveller, Cond.instanceMethod yX1_requireTraveller, Cond.selects RX1 yX1_requireTraveller yX1_requireTraveller, Cond.code yX1_requireTraveller cX1_requireTraveller 2 none, Cond.classLink RX1 208 "java/lang/IndexOutOfBoundsException", Cond.initialized "java/lang/IndexOutOfBoundsException", Cond.methodLink RX1 204 yX0_isTraveller, Cond.instanceMethod yX0_isTraveller, Cond.selects RX0 yX0_isTraveller yX0_isTraveller, Cond.initialized RX0, Cond.code yX0_isTraveller cX0_isTraveller 2 (some .boolean), Cond.fieldLink RX0 21 "SleepBorder$Border" "travellerCount" "I", Cond.methodLink RX1 37 yX1_requireMinutes, Cond.static yX1_requireMinutes]
def wsL_sing_r2 : List Cond := [Cond.code yX1_requireMinutes cX1_requireMinutes 1 none, Cond.classLink RX1 218 "java/lang/IllegalArgumentException", Cond.initialized "java/lang/IllegalArgumentException", Cond.methodLink RX1 52 yX1_requireWaiting, Cond.instanceMethod yX1_requireWaiting, Cond.selects RX1 yX1_requireWaiting yX1_requireWaiting, Cond.code yX1_requireWaiting cX1_requireWaiting 2 none, Cond.classLink RX1 23 "java/lang/IllegalStateException", Cond.initialized "java/lang/IllegalStateException", Cond.fieldLink RX1 91 "SleepBorder$Border" "state" "[I"]
def wsL_sing : List Cond := .codeWith yL_sing cL_sing 5 (some .int) [(0, 10, 13, 25), (0, 10, 17, 19), (0, 10, 21, 13)] :: ((wsL_sing_r1 ++ wsL_sing_r2) ++ wsX10 ++ wsX00 ++ (vx_atS RX1 212 "java/lang/IndexOutOfBoundsException" ["java/lang/RuntimeException", "java/lang/Exception"]).filter goodWord ++ (vx_atS RX1 222 "java/lang/IllegalArgumentException" ["java/lang/RuntimeException", "java/lang/Exception"]).filter goodWord ++ (vx_atS RX1 27 "java/lang/IllegalStateException" ["java/lang/RuntimeException", "java/lang/Exception"]).filter goodWord)
def wsL_wake : List Cond := .codeWith yL_wake cL_wake 4 (some .int) [(0, 9, 12, 25)] :: ([.classLink RL 25 "java/lang/IndexOutOfBoundsException", .methodLink RL 30 yX1_wake, .instanceMethod yX1_wake, .selects RX1 yX1_wake yX1_wake, .initialized RX1, .code yX1_wake cX1_wake 3 (some .int), .fieldLink RX1 10 "SleepBorder" "now" "LSleepBorder$Border;", .fieldLink RX1 65 "SleepBorder$Border" "alertness" "[I", .methodLink RX1 62 yX1_requireGuard, .instanceMethod yX1_requireGuard, .selects RX1 yX1_requireGuard yX1_requireGuard, .code yX1_requireGuard cX1_requireGuard 2 none, .classLink RX1 208 "java/lang/IndexOutOfBoundsException", .initialized "java/lang/IndexOutOfBoundsException", .methodLink RX1 213 yX0_isGuard, .instanceMethod yX0_isGuard, .selects RX0 yX0_isGuard yX0_isGuard, .initialized RX0, .code yX0_isGuard cX0_isGuard 2 (some .boolean), .fieldLink RX0 46 "SleepBorder$Border" "guardCount" "I"] ++ wsX10 ++ wsX00 ++ (vx_atS RX1 212 "java/lang/IndexOutOfBoundsException" ["java/lang/RuntimeException", "java/lang/Exception"]).filter goodWord)
def wsL_pass_r1 : List Cond := [Cond.classLink RL 19 "java/lang/IllegalArgumentException", Cond.methodLink RL 34 yX1_pass, Cond.instanceMethod yX1_pass, Cond.selects RX1 yX1_pass yX1_pass, Cond.initialized RX1, Cond.code yX1_pass cX1_pass 4 (some .int), Cond.fieldLink RX1 10 "SleepBorder" "now" "LSleepBorder$Border;", Cond.methodLink RX1 37 yX1_requireMinutes, Cond.static yX1_requireMinutes, Cond.code yX1_requireMinutes cX1_requireMinutes 1 none, Cond.classLink RX1 218 "java/lang/IllegalArgumentException", Cond.initialized "java/lang/IllegalArgumentException", Cond.methodLink RX1 68 yX0_countIn, Cond.instanceMethod yX0_countIn, Cond.selects RX0 yX0_countIn yX0_countIn, Cond.initialized RX0, Cond.code yX0_countIn cX0_countIn 4 (some .int), Cond.fieldLink RX0 21 "SleepBorder$Border" "travellerCount" "I", Cond.fieldLink RX0 37 "SleepBorder$Border" "state" "[I", Cond.methodLink RX1 72 yX0_goOneMinute, Cond.instanceMethod yX0_goOneMinute, Cond.selects RX0 yX0_goOneMinute yX0_goOneMinute, Cond.code yX0_goOneMinute cX0_goOneMinute 2 none, Cond.fieldLink RX0 46 "SleepBorder$Border" "guardCount" "I"]
def wsL_pass_r2 : List Cond := [Cond.fieldLink RX0 9 "SleepBorder$Border" "clock" "I", Cond.methodLink RX0 79 yX0_advanceTransits, Cond.instanceMethod yX0_advanceTransits, Cond.selects RX0 yX0_advanceTransits yX0_advanceTransits, Cond.code yX0_advanceTransits cX0_advanceTransits 2 none, Cond.fieldLink RX0 40 "SleepBorder$Border" "transitLeft" "[I", Cond.fieldLink RX0 43 "SleepBorder$Border" "asleepSince" "[I", Cond.methodLink RX0 82 yX0_shortenLullabies, Cond.instanceMethod yX0_shortenLullabies, Cond.selects RX0 yX0_shortenLullabies yX0_shortenLullabies, Cond.code yX0_shortenLullabies cX0_shortenLullabies 2 none, Cond.fieldLink RX0 34 "SleepBorder$Border" "lullaby" "[I", Cond.fieldLink RX0 15 "SleepBorder$Border" "expiredCount" "I", Cond.methodLink RX0 85 yX0_work, Cond.instanceMethod yX0_work, Cond.selects RX0 yX0_work yX0_work, Cond.code yX0_work cX0_work 4 none, Cond.fieldLink RX0 52 "SleepBorder$Border" "searched" "[I", Cond.fieldLink RX0 49 "SleepBorder$Border" "alertness" "[I", Cond.methodLink RX0 103 Lib.Math.min.name, Cond.static Lib.Math.min.name, Cond.initialized "java/lang/Math", Cond.code Lib.Math.min.name Lib.Math.min.code 2 (some .int), Cond.methodLink RX0 89 yX0_isTraveller]
def wsL_pass_r3 : List Cond := [Cond.instanceMethod yX0_isTraveller, Cond.selects RX0 yX0_isTraveller yX0_isTraveller, Cond.code yX0_isTraveller cX0_isTraveller 2 (some .boolean), Cond.methodLink RX0 93 yX0_searchOn, Cond.instanceMethod yX0_searchOn, Cond.selects RX0 yX0_searchOn yX0_searchOn, Cond.code yX0_searchOn cX0_searchOn 3 none, Cond.fieldLink RX0 55 "SleepBorder$Border" "searchLeft" "[I", Cond.fieldLink RX0 18 "SleepBorder$Border" "till" "I", Cond.methodLink RX0 58 Lib.Math.max.name, Cond.static Lib.Math.max.name, Cond.code Lib.Math.max.name Lib.Math.max.code 2 (some .int), Cond.methodLink RX0 109 yX0_finds, Cond.instanceMethod yX0_finds, Cond.selects RX0 yX0_finds yX0_finds, Cond.code yX0_finds cX0_finds 4 (some .boolean), Cond.methodLink RX0 68 yX0_hiddenDreams, Cond.instanceMethod yX0_hiddenDreams, Cond.selects RX0 yX0_hiddenDreams yX0_hiddenDreams, Cond.code yX0_hiddenDreams cX0_hiddenDreams 2 (some .int), Cond.fieldLink RX0 24 "SleepBorder$Border" "dreams" "[I", Cond.fieldLink RX0 28 "SleepBorder$Border" "declared" "[I", Cond.methodLink RX0 97 yX0_firstWaiting, Cond.instanceMethod yX0_firstWaiting]
def wsL_pass_r4 : List Cond := [Cond.selects RX0 yX0_firstWaiting yX0_firstWaiting, Cond.code yX0_firstWaiting cX0_firstWaiting 2 (some .int), Cond.methodLink RX0 100 yX0_beginSearch, Cond.instanceMethod yX0_beginSearch, Cond.selects RX0 yX0_beginSearch yX0_beginSearch, Cond.code yX0_beginSearch cX0_beginSearch 3 none, Cond.methodLink RX0 106 yX0_searchMinutes, Cond.instanceMethod yX0_searchMinutes, Cond.selects RX0 yX0_searchMinutes yX0_searchMinutes, Cond.code yX0_searchMinutes cX0_searchMinutes 2 (some .int), Cond.methodLink RX0 64 yX0_addedSnores, Cond.instanceMethod yX0_addedSnores, Cond.selects RX0 yX0_addedSnores yX0_addedSnores, Cond.code yX0_addedSnores cX0_addedSnores 3 (some .int), Cond.fieldLink RX0 31 "SleepBorder$Border" "snore" "[I"]
def wsL_pass : List Cond := .codeWith yL_pass cL_pass 4 (some .int) [(0, 9, 12, 19)] :: ((wsL_pass_r1 ++ (wsL_pass_r2 ++ (wsL_pass_r3 ++ wsL_pass_r4))) ++ wsX10 ++ wsX00 ++ (vx_atS RX1 222 "java/lang/IllegalArgumentException" ["java/lang/RuntimeException", "java/lang/Exception"]).filter goodWord)
def wsL_stateOf : List Cond := .codeWith yL_stateOf cL_stateOf 4 (some .int) [(0, 9, 12, 25)] :: ([.classLink RL 25 "java/lang/IndexOutOfBoundsException", .methodLink RL 37 yX1_stateOf, .instanceMethod yX1_stateOf, .selects RX1 yX1_stateOf yX1_stateOf, .initialized RX1, .code yX1_stateOf cX1_stateOf 2 (some .int), .fieldLink RX1 10 "SleepBorder" "now" "LSleepBorder$Border;", .fieldLink RX1 91 "SleepBorder$Border" "state" "[I", .methodLink RX1 49 yX1_requireTraveller, .instanceMethod yX1_requireTraveller, .selects RX1 yX1_requireTraveller yX1_requireTraveller, .code yX1_requireTraveller cX1_requireTraveller 2 none, .classLink RX1 208 "java/lang/IndexOutOfBoundsException", .initialized "java/lang/IndexOutOfBoundsException", .methodLink RX1 204 yX0_isTraveller, .instanceMethod yX0_isTraveller, .selects RX0 yX0_isTraveller yX0_isTraveller, .initialized RX0, .code yX0_isTraveller cX0_isTraveller 2 (some .boolean), .fieldLink RX0 21 "SleepBorder$Border" "travellerCount" "I"] ++ wsX10 ++ wsX00 ++ (vx_atS RX1 212 "java/lang/IndexOutOfBoundsException" ["java/lang/RuntimeException", "java/lang/Exception"]).filter goodWord)
def wsL_hiddenOf_r1 : List Cond := [Cond.classLink RL 25 "java/lang/IndexOutOfBoundsException", Cond.methodLink RL 40 yX1_hiddenOf, Cond.instanceMethod yX1_hiddenOf, Cond.selects RX1 yX1_hiddenOf yX1_hiddenOf, Cond.initialized RX1, Cond.code yX1_hiddenOf cX1_hiddenOf 2 (some .int), Cond.fieldLink RX1 10 "SleepBorder" "now" "LSleepBorder$Border;", Cond.methodLink RX1 49 yX1_requireTraveller, Cond.instanceMethod yX1_requireTraveller, Cond.selects RX1 yX1_requireTraveller yX1_requireTraveller, Cond.code yX1_requireTraveller cX1_requireTraveller 2 none, Cond.classLink RX1 208 "java/lang/IndexOutOfBoundsException", Cond.initialized "java/lang/IndexOutOfBoundsException", Cond.methodLink RX1 204 yX0_isTraveller, Cond.instanceMethod yX0_isTraveller, Cond.selects RX0 yX0_isTraveller yX0_isTraveller, Cond.initialized RX0, Cond.code yX0_isTraveller cX0_isTraveller 2 (some .boolean), Cond.fieldLink RX0 21 "SleepBorder$Border" "travellerCount" "I", Cond.methodLink RX1 94 yX0_hiddenDreams, Cond.instanceMethod yX0_hiddenDreams, Cond.selects RX0 yX0_hiddenDreams yX0_hiddenDreams, Cond.code yX0_hiddenDreams cX0_hiddenDreams 2 (some .int), Cond.fieldLink RX0 24 "SleepBorder$Border" "dreams" "[I"]
def wsL_hiddenOf_r2 : List Cond := [Cond.fieldLink RX0 28 "SleepBorder$Border" "declared" "[I", Cond.methodLink RX0 58 Lib.Math.max.name, Cond.static Lib.Math.max.name, Cond.initialized "java/lang/Math", Cond.code Lib.Math.max.name Lib.Math.max.code 2 (some .int)]
def wsL_hiddenOf : List Cond := .codeWith yL_hiddenOf cL_hiddenOf 4 (some .int) [(0, 9, 12, 25)] :: ((wsL_hiddenOf_r1 ++ wsL_hiddenOf_r2) ++ wsX10 ++ wsX00 ++ (vx_atS RX1 212 "java/lang/IndexOutOfBoundsException" ["java/lang/RuntimeException", "java/lang/Exception"]).filter goodWord)
def wsL_lullabyOf : List Cond := .codeWith yL_lullabyOf cL_lullabyOf 4 (some .int) [(0, 9, 12, 25)] :: ([.classLink RL 25 "java/lang/IndexOutOfBoundsException", .methodLink RL 43 yX1_lullabyOf, .instanceMethod yX1_lullabyOf, .selects RX1 yX1_lullabyOf yX1_lullabyOf, .initialized RX1, .code yX1_lullabyOf cX1_lullabyOf 2 (some .int), .fieldLink RX1 10 "SleepBorder" "now" "LSleepBorder$Border;", .fieldLink RX1 59 "SleepBorder$Border" "lullaby" "[I", .methodLink RX1 49 yX1_requireTraveller, .instanceMethod yX1_requireTraveller, .selects RX1 yX1_requireTraveller yX1_requireTraveller, .code yX1_requireTraveller cX1_requireTraveller 2 none, .classLink RX1 208 "java/lang/IndexOutOfBoundsException", .initialized "java/lang/IndexOutOfBoundsException", .methodLink RX1 204 yX0_isTraveller, .instanceMethod yX0_isTraveller, .selects RX0 yX0_isTraveller yX0_isTraveller, .initialized RX0, .code yX0_isTraveller cX0_isTraveller 2 (some .boolean), .fieldLink RX0 21 "SleepBorder$Border" "travellerCount" "I"] ++ wsX10 ++ wsX00 ++ (vx_atS RX1 212 "java/lang/IndexOutOfBoundsException" ["java/lang/RuntimeException", "java/lang/Exception"]).filter goodWord)
def wsL_placeInLine_r1 : List Cond := [Cond.classLink RL 25 "java/lang/IndexOutOfBoundsException", Cond.methodLink RL 46 yX1_placeInLine, Cond.instanceMethod yX1_placeInLine, Cond.selects RX1 yX1_placeInLine yX1_placeInLine, Cond.initialized RX1, Cond.code yX1_placeInLine cX1_placeInLine 2 (some .int), Cond.fieldLink RX1 10 "SleepBorder" "now" "LSleepBorder$Border;", Cond.fieldLink RX1 91 "SleepBorder$Border" "state" "[I", Cond.methodLink RX1 49 yX1_requireTraveller, Cond.instanceMethod yX1_requireTraveller, Cond.selects RX1 yX1_requireTraveller yX1_requireTraveller, Cond.code yX1_requireTraveller cX1_requireTraveller 2 none, Cond.classLink RX1 208 "java/lang/IndexOutOfBoundsException", Cond.initialized "java/lang/IndexOutOfBoundsException", Cond.methodLink RX1 204 yX0_isTraveller, Cond.instanceMethod yX0_isTraveller, Cond.selects RX0 yX0_isTraveller yX0_isTraveller, Cond.initialized RX0, Cond.code yX0_isTraveller cX0_isTraveller 2 (some .boolean), Cond.fieldLink RX0 21 "SleepBorder$Border" "travellerCount" "I", Cond.methodLink RX1 97 yX0_waitingAhead, Cond.instanceMethod yX0_waitingAhead, Cond.selects RX0 yX0_waitingAhead yX0_waitingAhead, Cond.code yX0_waitingAhead cX0_waitingAhead 4 (some .int)]
def wsL_placeInLine_r2 : List Cond := [Cond.fieldLink RX0 37 "SleepBorder$Border" "state" "[I"]
def wsL_placeInLine : List Cond := .codeWith yL_placeInLine cL_placeInLine 4 (some .int) [(0, 9, 12, 25)] :: ((wsL_placeInLine_r1 ++ wsL_placeInLine_r2) ++ wsX10 ++ wsX00 ++ (vx_atS RX1 212 "java/lang/IndexOutOfBoundsException" ["java/lang/RuntimeException", "java/lang/Exception"]).filter goodWord)
def wsL_searchTime_r1 : List Cond := [Cond.classLink RL 25 "java/lang/IndexOutOfBoundsException", Cond.methodLink RL 49 yX1_searchTime, Cond.instanceMethod yX1_searchTime, Cond.selects RX1 yX1_searchTime yX1_searchTime, Cond.initialized RX1, Cond.code yX1_searchTime cX1_searchTime 2 (some .int), Cond.fieldLink RX1 10 "SleepBorder" "now" "LSleepBorder$Border;", Cond.methodLink RX1 49 yX1_requireTraveller, Cond.instanceMethod yX1_requireTraveller, Cond.selects RX1 yX1_requireTraveller yX1_requireTraveller, Cond.code yX1_requireTraveller cX1_requireTraveller 2 none, Cond.classLink RX1 208 "java/lang/IndexOutOfBoundsException", Cond.initialized "java/lang/IndexOutOfBoundsException", Cond.methodLink RX1 204 yX0_isTraveller, Cond.instanceMethod yX0_isTraveller, Cond.selects RX0 yX0_isTraveller yX0_isTraveller, Cond.initialized RX0, Cond.code yX0_isTraveller cX0_isTraveller 2 (some .boolean), Cond.fieldLink RX0 21 "SleepBorder$Border" "travellerCount" "I", Cond.methodLink RX1 100 yX0_searchMinutes, Cond.instanceMethod yX0_searchMinutes, Cond.selects RX0 yX0_searchMinutes yX0_searchMinutes, Cond.code yX0_searchMinutes cX0_searchMinutes 2 (some .int), Cond.fieldLink RX0 28 "SleepBorder$Border" "declared" "[I"]
def wsL_searchTime_r2 : List Cond := [Cond.methodLink RX0 64 yX0_addedSnores, Cond.instanceMethod yX0_addedSnores, Cond.selects RX0 yX0_addedSnores yX0_addedSnores, Cond.code yX0_addedSnores cX0_addedSnores 3 (some .int), Cond.fieldLink RX0 37 "SleepBorder$Border" "state" "[I", Cond.fieldLink RX0 31 "SleepBorder$Border" "snore" "[I"]
def wsL_searchTime : List Cond := .codeWith yL_searchTime cL_searchTime 4 (some .int) [(0, 9, 12, 25)] :: ((wsL_searchTime_r1 ++ wsL_searchTime_r2) ++ wsX10 ++ wsX00 ++ (vx_atS RX1 212 "java/lang/IndexOutOfBoundsException" ["java/lang/RuntimeException", "java/lang/Exception"]).filter goodWord)
def wsL_alertnessOf : List Cond := .codeWith yL_alertnessOf cL_alertnessOf 4 (some .int) [(0, 9, 12, 25)] :: ([.classLink RL 25 "java/lang/IndexOutOfBoundsException", .methodLink RL 52 yX1_alertnessOf, .instanceMethod yX1_alertnessOf, .selects RX1 yX1_alertnessOf yX1_alertnessOf, .initialized RX1, .code yX1_alertnessOf cX1_alertnessOf 2 (some .int), .fieldLink RX1 10 "SleepBorder" "now" "LSleepBorder$Border;", .fieldLink RX1 65 "SleepBorder$Border" "alertness" "[I", .methodLink RX1 62 yX1_requireGuard, .instanceMethod yX1_requireGuard, .selects RX1 yX1_requireGuard yX1_requireGuard, .code yX1_requireGuard cX1_requireGuard 2 none, .classLink RX1 208 "java/lang/IndexOutOfBoundsException", .initialized "java/lang/IndexOutOfBoundsException", .methodLink RX1 213 yX0_isGuard, .instanceMethod yX0_isGuard, .selects RX0 yX0_isGuard yX0_isGuard, .initialized RX0, .code yX0_isGuard cX0_isGuard 2 (some .boolean), .fieldLink RX0 46 "SleepBorder$Border" "guardCount" "I"] ++ wsX10 ++ wsX00 ++ (vx_atS RX1 212 "java/lang/IndexOutOfBoundsException" ["java/lang/RuntimeException", "java/lang/Exception"]).filter goodWord)
def wsL_searches : List Cond := .codeWith yL_searches cL_searches 4 (some .int) [(0, 9, 12, 25)] :: ([.classLink RL 25 "java/lang/IndexOutOfBoundsException", .methodLink RL 55 yX1_searches, .instanceMethod yX1_searches, .selects RX1 yX1_searches yX1_searches, .initialized RX1, .code yX1_searches cX1_searches 2 (some .int), .fieldLink RX1 10 "SleepBorder" "now" "LSleepBorder$Border;", .fieldLink RX1 103 "SleepBorder$Border" "searched" "[I", .methodLink RX1 62 yX1_requireGuard, .instanceMethod yX1_requireGuard, .selects RX1 yX1_requireGuard yX1_requireGuard, .code yX1_requireGuard cX1_requireGuard 2 none, .classLink RX1 208 "java/lang/IndexOutOfBoundsException", .initialized "java/lang/IndexOutOfBoundsException", .methodLink RX1 213 yX0_isGuard, .instanceMethod yX0_isGuard, .selects RX0 yX0_isGuard yX0_isGuard, .initialized RX0, .code yX0_isGuard cX0_isGuard 2 (some .boolean), .fieldLink RX0 46 "SleepBorder$Border" "guardCount" "I"] ++ wsX10 ++ wsX00 ++ (vx_atS RX1 212 "java/lang/IndexOutOfBoundsException" ["java/lang/RuntimeException", "java/lang/Exception"]).filter goodWord)
def wsL_minutesToGo : List Cond := .codeWith yL_minutesToGo cL_minutesToGo 4 (some .int) [(0, 9, 12, 25)] :: ([.classLink RL 25 "java/lang/IndexOutOfBoundsException", .methodLink RL 58 yX1_minutesToGo, .instanceMethod yX1_minutesToGo, .selects RX1 yX1_minutesToGo yX1_minutesToGo, .initialized RX1, .code yX1_minutesToGo cX1_minutesToGo 2 (some .int), .fieldLink RX1 10 "SleepBorder" "now" "LSleepBorder$Border;", .fieldLink RX1 106 "SleepBorder$Border" "searchLeft" "[I", .methodLink RX1 62 yX1_requireGuard, .instanceMethod yX1_requireGuard, .selects RX1 yX1_requireGuard yX1_requireGuard, .code yX1_requireGuard cX1_requireGuard 2 none, .classLink RX1 208 "java/lang/IndexOutOfBoundsException", .initialized "java/lang/IndexOutOfBoundsException", .methodLink RX1 213 yX0_isGuard, .instanceMethod yX0_isGuard, .selects RX0 yX0_isGuard yX0_isGuard, .initialized RX0, .code yX0_isGuard cX0_isGuard 2 (some .boolean), .fieldLink RX0 46 "SleepBorder$Border" "guardCount" "I"] ++ wsX10 ++ wsX00 ++ (vx_atS RX1 212 "java/lang/IndexOutOfBoundsException" ["java/lang/RuntimeException", "java/lang/Exception"]).filter goodWord)
def wsL_wouldFind_r1 : List Cond := [Cond.classLink RL 25 "java/lang/IndexOutOfBoundsException", Cond.methodLink RL 61 yX1_wouldFind, Cond.instanceMethod yX1_wouldFind, Cond.selects RX1 yX1_wouldFind yX1_wouldFind, Cond.initialized RX1, Cond.code yX1_wouldFind cX1_wouldFind 3 (some .boolean), Cond.fieldLink RX1 10 "SleepBorder" "now" "LSleepBorder$Border;", Cond.methodLink RX1 62 yX1_requireGuard, Cond.instanceMethod yX1_requireGuard, Cond.selects RX1 yX1_requireGuard yX1_requireGuard, Cond.code yX1_requireGuard cX1_requireGuard 2 none, Cond.classLink RX1 208 "java/lang/IndexOutOfBoundsException", Cond.initialized "java/lang/IndexOutOfBoundsException", Cond.methodLink RX1 213 yX0_isGuard, Cond.instanceMethod yX0_isGuard, Cond.selects RX0 yX0_isGuard yX0_isGuard, Cond.initialized RX0, Cond.code yX0_isGuard cX0_isGuard 2 (some .boolean), Cond.fieldLink RX0 46 "SleepBorder$Border" "guardCount" "I", Cond.methodLink RX1 49 yX1_requireTraveller, Cond.instanceMethod yX1_requireTraveller, Cond.selects RX1 yX1_requireTraveller yX1_requireTraveller, Cond.code yX1_requireTraveller cX1_requireTraveller 2 none, Cond.methodLink RX1 204 yX0_isTraveller]
def wsL_wouldFind_r2 : List Cond := [Cond.instanceMethod yX0_isTraveller, Cond.selects RX0 yX0_isTraveller yX0_isTraveller, Cond.code yX0_isTraveller cX0_isTraveller 2 (some .boolean), Cond.fieldLink RX0 21 "SleepBorder$Border" "travellerCount" "I", Cond.methodLink RX1 109 yX0_finds, Cond.instanceMethod yX0_finds, Cond.selects RX0 yX0_finds yX0_finds, Cond.code yX0_finds cX0_finds 4 (some .boolean), Cond.fieldLink RX0 49 "SleepBorder$Border" "alertness" "[I", Cond.methodLink RX0 68 yX0_hiddenDreams, Cond.instanceMethod yX0_hiddenDreams, Cond.selects RX0 yX0_hiddenDreams yX0_hiddenDreams, Cond.code yX0_hiddenDreams cX0_hiddenDreams 2 (some .int), Cond.fieldLink RX0 24 "SleepBorder$Border" "dreams" "[I", Cond.fieldLink RX0 28 "SleepBorder$Border" "declared" "[I", Cond.methodLink RX0 58 Lib.Math.max.name, Cond.static Lib.Math.max.name, Cond.initialized "java/lang/Math", Cond.code Lib.Math.max.name Lib.Math.max.code 2 (some .int)]
def wsL_wouldFind : List Cond := .codeWith yL_wouldFind cL_wouldFind 5 (some .int) [(0, 17, 20, 25)] :: ((wsL_wouldFind_r1 ++ wsL_wouldFind_r2) ++ wsX10 ++ wsX00 ++ (vx_atS RX1 212 "java/lang/IndexOutOfBoundsException" ["java/lang/RuntimeException", "java/lang/Exception"]).filter goodWord)
def wsL_minutesUntilAsleep_r1 : List Cond := [Cond.classLink RL 25 "java/lang/IndexOutOfBoundsException", Cond.methodLink RL 65 yX1_minutesUntilAsleep, Cond.instanceMethod yX1_minutesUntilAsleep, Cond.selects RX1 yX1_minutesUntilAsleep yX1_minutesUntilAsleep, Cond.initialized RX1, Cond.code yX1_minutesUntilAsleep cX1_minutesUntilAsleep 2 (some .int), Cond.fieldLink RX1 16 "SleepBorder" "trial" "LSleepBorder$Border;", Cond.fieldLink RX1 10 "SleepBorder" "now" "LSleepBorder$Border;", Cond.methodLink RX1 49 yX1_requireTraveller, Cond.instanceMethod yX1_requireTraveller, Cond.selects RX1 yX1_requireTraveller yX1_requireTraveller, Cond.code yX1_requireTraveller cX1_requireTraveller 2 none, Cond.classLink RX1 208 "java/lang/IndexOutOfBoundsException", Cond.initialized "java/lang/IndexOutOfBoundsException", Cond.methodLink RX1 204 yX0_isTraveller, Cond.instanceMethod yX0_isTraveller, Cond.selects RX0 yX0_isTraveller yX0_isTraveller, Cond.initialized RX0, Cond.code yX0_isTraveller cX0_isTraveller 2 (some .boolean), Cond.fieldLink RX0 21 "SleepBorder$Border" "travellerCount" "I", Cond.methodLink RX1 113 yX0_become, Cond.instanceMethod yX0_become, Cond.selects RX0 yX0_become yX0_become, Cond.code yX0_become cX0_become 3 none]
def wsL_minutesUntilAsleep_r2 : List Cond := [Cond.fieldLink RX0 9 "SleepBorder$Border" "clock" "I", Cond.fieldLink RX0 15 "SleepBorder$Border" "expiredCount" "I", Cond.fieldLink RX0 18 "SleepBorder$Border" "till" "I", Cond.fieldLink RX0 24 "SleepBorder$Border" "dreams" "[I", Cond.fieldLink RX0 28 "SleepBorder$Border" "declared" "[I", Cond.fieldLink RX0 31 "SleepBorder$Border" "snore" "[I", Cond.fieldLink RX0 34 "SleepBorder$Border" "lullaby" "[I", Cond.fieldLink RX0 37 "SleepBorder$Border" "state" "[I", Cond.fieldLink RX0 40 "SleepBorder$Border" "transitLeft" "[I", Cond.fieldLink RX0 43 "SleepBorder$Border" "asleepSince" "[I", Cond.fieldLink RX0 46 "SleepBorder$Border" "guardCount" "I", Cond.fieldLink RX0 49 "SleepBorder$Border" "alertness" "[I", Cond.fieldLink RX0 52 "SleepBorder$Border" "searched" "[I", Cond.fieldLink RX0 55 "SleepBorder$Border" "searchLeft" "[I", Cond.methodLink RX1 117 yX0_goOn, Cond.instanceMethod yX0_goOn, Cond.selects RX0 yX0_goOn yX0_goOn, Cond.code yX0_goOn cX0_goOn 3 none, Cond.methodLink RX0 72 yX0_isSettled, Cond.instanceMethod yX0_isSettled, Cond.selects RX0 yX0_isSettled yX0_isSettled, Cond.code yX0_isSettled cX0_isSettled 2 (some .boolean), Cond.methodLink RX0 76 yX0_goOneMinute, Cond.instanceMethod yX0_goOneMinute]
def wsL_minutesUntilAsleep_r3 : List Cond := [Cond.selects RX0 yX0_goOneMinute yX0_goOneMinute, Cond.code yX0_goOneMinute cX0_goOneMinute 2 none, Cond.methodLink RX0 79 yX0_advanceTransits, Cond.instanceMethod yX0_advanceTransits, Cond.selects RX0 yX0_advanceTransits yX0_advanceTransits, Cond.code yX0_advanceTransits cX0_advanceTransits 2 none, Cond.methodLink RX0 82 yX0_shortenLullabies, Cond.instanceMethod yX0_shortenLullabies, Cond.selects RX0 yX0_shortenLullabies yX0_shortenLullabies, Cond.code yX0_shortenLullabies cX0_shortenLullabies 2 none, Cond.methodLink RX0 85 yX0_work, Cond.instanceMethod yX0_work, Cond.selects RX0 yX0_work yX0_work, Cond.code yX0_work cX0_work 4 none, Cond.methodLink RX0 103 Lib.Math.min.name, Cond.static Lib.Math.min.name, Cond.initialized "java/lang/Math", Cond.code Lib.Math.min.name Lib.Math.min.code 2 (some .int), Cond.methodLink RX0 89 yX0_isTraveller, Cond.methodLink RX0 93 yX0_searchOn, Cond.instanceMethod yX0_searchOn, Cond.selects RX0 yX0_searchOn yX0_searchOn, Cond.code yX0_searchOn cX0_searchOn 3 none, Cond.methodLink RX0 58 Lib.Math.max.name]
def wsL_minutesUntilAsleep_r4 : List Cond := [Cond.static Lib.Math.max.name, Cond.code Lib.Math.max.name Lib.Math.max.code 2 (some .int), Cond.methodLink RX0 109 yX0_finds, Cond.instanceMethod yX0_finds, Cond.selects RX0 yX0_finds yX0_finds, Cond.code yX0_finds cX0_finds 4 (some .boolean), Cond.methodLink RX0 68 yX0_hiddenDreams, Cond.instanceMethod yX0_hiddenDreams, Cond.selects RX0 yX0_hiddenDreams yX0_hiddenDreams, Cond.code yX0_hiddenDreams cX0_hiddenDreams 2 (some .int), Cond.methodLink RX0 97 yX0_firstWaiting, Cond.instanceMethod yX0_firstWaiting, Cond.selects RX0 yX0_firstWaiting yX0_firstWaiting, Cond.code yX0_firstWaiting cX0_firstWaiting 2 (some .int), Cond.methodLink RX0 100 yX0_beginSearch, Cond.instanceMethod yX0_beginSearch, Cond.selects RX0 yX0_beginSearch yX0_beginSearch, Cond.code yX0_beginSearch cX0_beginSearch 3 none, Cond.methodLink RX0 106 yX0_searchMinutes, Cond.instanceMethod yX0_searchMinutes, Cond.selects RX0 yX0_searchMinutes yX0_searchMinutes, Cond.code yX0_searchMinutes cX0_searchMinutes 2 (some .int), Cond.methodLink RX0 64 yX0_addedSnores, Cond.instanceMethod yX0_addedSnores]
def wsL_minutesUntilAsleep_r5 : List Cond := [Cond.selects RX0 yX0_addedSnores yX0_addedSnores, Cond.code yX0_addedSnores cX0_addedSnores 3 (some .int), Cond.methodLink RX1 120 yX1_foreseenSleep, Cond.instanceMethod yX1_foreseenSleep, Cond.selects RX1 yX1_foreseenSleep yX1_foreseenSleep, Cond.code yX1_foreseenSleep cX1_foreseenSleep 2 (some .int), Cond.fieldLink RX1 91 "SleepBorder$Border" "state" "[I", Cond.fieldLink RX1 201 "SleepBorder$Border" "asleepSince" "[I", Cond.fieldLink RX1 75 "SleepBorder$Border" "clock" "I"]
def wsL_minutesUntilAsleep : List Cond := .codeWith yL_minutesUntilAsleep cL_minutesUntilAsleep 4 (some .int) [(0, 9, 12, 25)] :: ((wsL_minutesUntilAsleep_r1 ++ (wsL_minutesUntilAsleep_r2 ++ (wsL_minutesUntilAsleep_r3 ++ (wsL_minutesUntilAsleep_r4 ++ wsL_minutesUntilAsleep_r5)))) ++ wsX10 ++ wsX00 ++ (vx_atS RX1 212 "java/lang/IndexOutOfBoundsException" ["java/lang/RuntimeException", "java/lang/Exception"]).filter goodWord)
def wsL_asleepIn_r1 : List Cond := [Cond.classLink RL 19 "java/lang/IllegalArgumentException", Cond.methodLink RL 68 yX1_asleepIn, Cond.instanceMethod yX1_asleepIn, Cond.selects RX1 yX1_asleepIn yX1_asleepIn, Cond.initialized RX1, Cond.code yX1_asleepIn cX1_asleepIn 2 (some .int), Cond.fieldLink RX1 16 "SleepBorder" "trial" "LSleepBorder$Border;", Cond.fieldLink RX1 10 "SleepBorder" "now" "LSleepBorder$Border;", Cond.methodLink RX1 37 yX1_requireMinutes, Cond.static yX1_requireMinutes, Cond.code yX1_requireMinutes cX1_requireMinutes 1 none, Cond.classLink RX1 218 "java/lang/IllegalArgumentException", Cond.initialized "java/lang/IllegalArgumentException", Cond.methodLink RX1 113 yX0_become, Cond.instanceMethod yX0_become, Cond.selects RX0 yX0_become yX0_become, Cond.initialized RX0, Cond.code yX0_become cX0_become 3 none, Cond.fieldLink RX0 9 "SleepBorder$Border" "clock" "I", Cond.fieldLink RX0 15 "SleepBorder$Border" "expiredCount" "I", Cond.fieldLink RX0 18 "SleepBorder$Border" "till" "I", Cond.fieldLink RX0 21 "SleepBorder$Border" "travellerCount" "I", Cond.fieldLink RX0 24 "SleepBorder$Border" "dreams" "[I", Cond.fieldLink RX0 28 "SleepBorder$Border" "declared" "[I"]
def wsL_asleepIn_r2 : List Cond := [Cond.fieldLink RX0 31 "SleepBorder$Border" "snore" "[I", Cond.fieldLink RX0 34 "SleepBorder$Border" "lullaby" "[I", Cond.fieldLink RX0 37 "SleepBorder$Border" "state" "[I", Cond.fieldLink RX0 40 "SleepBorder$Border" "transitLeft" "[I", Cond.fieldLink RX0 43 "SleepBorder$Border" "asleepSince" "[I", Cond.fieldLink RX0 46 "SleepBorder$Border" "guardCount" "I", Cond.fieldLink RX0 49 "SleepBorder$Border" "alertness" "[I", Cond.fieldLink RX0 52 "SleepBorder$Border" "searched" "[I", Cond.fieldLink RX0 55 "SleepBorder$Border" "searchLeft" "[I", Cond.methodLink RX1 117 yX0_goOn, Cond.instanceMethod yX0_goOn, Cond.selects RX0 yX0_goOn yX0_goOn, Cond.code yX0_goOn cX0_goOn 3 none, Cond.methodLink RX0 72 yX0_isSettled, Cond.instanceMethod yX0_isSettled, Cond.selects RX0 yX0_isSettled yX0_isSettled, Cond.code yX0_isSettled cX0_isSettled 2 (some .boolean), Cond.methodLink RX0 76 yX0_goOneMinute, Cond.instanceMethod yX0_goOneMinute, Cond.selects RX0 yX0_goOneMinute yX0_goOneMinute, Cond.code yX0_goOneMinute cX0_goOneMinute 2 none, Cond.methodLink RX0 79 yX0_advanceTransits, Cond.instanceMethod yX0_advanceTransits, Cond.selects RX0 yX0_advanceTransits yX0_advanceTransits]
def wsL_asleepIn_r3 : List Cond := [Cond.code yX0_advanceTransits cX0_advanceTransits 2 none, Cond.methodLink RX0 82 yX0_shortenLullabies, Cond.instanceMethod yX0_shortenLullabies, Cond.selects RX0 yX0_shortenLullabies yX0_shortenLullabies, Cond.code yX0_shortenLullabies cX0_shortenLullabies 2 none, Cond.methodLink RX0 85 yX0_work, Cond.instanceMethod yX0_work, Cond.selects RX0 yX0_work yX0_work, Cond.code yX0_work cX0_work 4 none, Cond.methodLink RX0 103 Lib.Math.min.name, Cond.static Lib.Math.min.name, Cond.initialized "java/lang/Math", Cond.code Lib.Math.min.name Lib.Math.min.code 2 (some .int), Cond.methodLink RX0 89 yX0_isTraveller, Cond.instanceMethod yX0_isTraveller, Cond.selects RX0 yX0_isTraveller yX0_isTraveller, Cond.code yX0_isTraveller cX0_isTraveller 2 (some .boolean), Cond.methodLink RX0 93 yX0_searchOn, Cond.instanceMethod yX0_searchOn, Cond.selects RX0 yX0_searchOn yX0_searchOn, Cond.code yX0_searchOn cX0_searchOn 3 none, Cond.methodLink RX0 58 Lib.Math.max.name, Cond.static Lib.Math.max.name, Cond.code Lib.Math.max.name Lib.Math.max.code 2 (some .int)]
def wsL_asleepIn_r4 : List Cond := [Cond.methodLink RX0 109 yX0_finds, Cond.instanceMethod yX0_finds, Cond.selects RX0 yX0_finds yX0_finds, Cond.code yX0_finds cX0_finds 4 (some .boolean), Cond.methodLink RX0 68 yX0_hiddenDreams, Cond.instanceMethod yX0_hiddenDreams, Cond.selects RX0 yX0_hiddenDreams yX0_hiddenDreams, Cond.code yX0_hiddenDreams cX0_hiddenDreams 2 (some .int), Cond.methodLink RX0 97 yX0_firstWaiting, Cond.instanceMethod yX0_firstWaiting, Cond.selects RX0 yX0_firstWaiting yX0_firstWaiting, Cond.code yX0_firstWaiting cX0_firstWaiting 2 (some .int), Cond.methodLink RX0 100 yX0_beginSearch, Cond.instanceMethod yX0_beginSearch, Cond.selects RX0 yX0_beginSearch yX0_beginSearch, Cond.code yX0_beginSearch cX0_beginSearch 3 none, Cond.methodLink RX0 106 yX0_searchMinutes, Cond.instanceMethod yX0_searchMinutes, Cond.selects RX0 yX0_searchMinutes yX0_searchMinutes, Cond.code yX0_searchMinutes cX0_searchMinutes 2 (some .int), Cond.methodLink RX0 64 yX0_addedSnores, Cond.instanceMethod yX0_addedSnores, Cond.selects RX0 yX0_addedSnores yX0_addedSnores, Cond.code yX0_addedSnores cX0_addedSnores 3 (some .int)]
def wsL_asleepIn_r5 : List Cond := [Cond.methodLink RX1 68 yX0_countIn, Cond.instanceMethod yX0_countIn, Cond.selects RX0 yX0_countIn yX0_countIn, Cond.code yX0_countIn cX0_countIn 4 (some .int)]
def wsL_asleepIn : List Cond := .codeWith yL_asleepIn cL_asleepIn 4 (some .int) [(0, 9, 12, 19)] :: ((wsL_asleepIn_r1 ++ (wsL_asleepIn_r2 ++ (wsL_asleepIn_r3 ++ (wsL_asleepIn_r4 ++ wsL_asleepIn_r5)))) ++ wsX10 ++ wsX00 ++ (vx_atS RX1 222 "java/lang/IllegalArgumentException" ["java/lang/RuntimeException", "java/lang/Exception"]).filter goodWord)
def wsL_bestToDeclare_r1 : List Cond := [Cond.classLink RL 25 "java/lang/IndexOutOfBoundsException", Cond.methodLink RL 71 yX1_bestToDeclare, Cond.instanceMethod yX1_bestToDeclare, Cond.selects RX1 yX1_bestToDeclare yX1_bestToDeclare, Cond.initialized RX1, Cond.code yX1_bestToDeclare cX1_bestToDeclare 6 (some .int), Cond.fieldLink RX1 10 "SleepBorder" "now" "LSleepBorder$Border;", Cond.fieldLink RX1 91 "SleepBorder$Border" "state" "[I", Cond.fieldLink RX1 16 "SleepBorder" "trial" "LSleepBorder$Border;", Cond.fieldLink RX1 55 "SleepBorder$Border" "declared" "[I", Cond.methodLink RX1 49 yX1_requireTraveller, Cond.instanceMethod yX1_requireTraveller, Cond.selects RX1 yX1_requireTraveller yX1_requireTraveller, Cond.code yX1_requireTraveller cX1_requireTraveller 2 none, Cond.classLink RX1 208 "java/lang/IndexOutOfBoundsException", Cond.initialized "java/lang/IndexOutOfBoundsException", Cond.methodLink RX1 204 yX0_isTraveller, Cond.instanceMethod yX0_isTraveller, Cond.selects RX0 yX0_isTraveller yX0_isTraveller, Cond.initialized RX0, Cond.code yX0_isTraveller cX0_isTraveller 2 (some .boolean), Cond.fieldLink RX0 21 "SleepBorder$Border" "travellerCount" "I", Cond.methodLink RX1 113 yX0_become, Cond.instanceMethod yX0_become]
def wsL_bestToDeclare_r2 : List Cond := [Cond.selects RX0 yX0_become yX0_become, Cond.code yX0_become cX0_become 3 none, Cond.fieldLink RX0 9 "SleepBorder$Border" "clock" "I", Cond.fieldLink RX0 15 "SleepBorder$Border" "expiredCount" "I", Cond.fieldLink RX0 18 "SleepBorder$Border" "till" "I", Cond.fieldLink RX0 24 "SleepBorder$Border" "dreams" "[I", Cond.fieldLink RX0 28 "SleepBorder$Border" "declared" "[I", Cond.fieldLink RX0 31 "SleepBorder$Border" "snore" "[I", Cond.fieldLink RX0 34 "SleepBorder$Border" "lullaby" "[I", Cond.fieldLink RX0 37 "SleepBorder$Border" "state" "[I", Cond.fieldLink RX0 40 "SleepBorder$Border" "transitLeft" "[I", Cond.fieldLink RX0 43 "SleepBorder$Border" "asleepSince" "[I", Cond.fieldLink RX0 46 "SleepBorder$Border" "guardCount" "I", Cond.fieldLink RX0 49 "SleepBorder$Border" "alertness" "[I", Cond.fieldLink RX0 52 "SleepBorder$Border" "searched" "[I", Cond.fieldLink RX0 55 "SleepBorder$Border" "searchLeft" "[I", Cond.methodLink RX1 117 yX0_goOn, Cond.instanceMethod yX0_goOn, Cond.selects RX0 yX0_goOn yX0_goOn, Cond.code yX0_goOn cX0_goOn 3 none, Cond.methodLink RX0 72 yX0_isSettled, Cond.instanceMethod yX0_isSettled, Cond.selects RX0 yX0_isSettled yX0_isSettled, Cond.code yX0_isSettled cX0_isSettled 2 (some .boolean)]
def wsL_bestToDeclare_r3 : List Cond := [Cond.methodLink RX0 76 yX0_goOneMinute, Cond.instanceMethod yX0_goOneMinute, Cond.selects RX0 yX0_goOneMinute yX0_goOneMinute, Cond.code yX0_goOneMinute cX0_goOneMinute 2 none, Cond.methodLink RX0 79 yX0_advanceTransits, Cond.instanceMethod yX0_advanceTransits, Cond.selects RX0 yX0_advanceTransits yX0_advanceTransits, Cond.code yX0_advanceTransits cX0_advanceTransits 2 none, Cond.methodLink RX0 82 yX0_shortenLullabies, Cond.instanceMethod yX0_shortenLullabies, Cond.selects RX0 yX0_shortenLullabies yX0_shortenLullabies, Cond.code yX0_shortenLullabies cX0_shortenLullabies 2 none, Cond.methodLink RX0 85 yX0_work, Cond.instanceMethod yX0_work, Cond.selects RX0 yX0_work yX0_work, Cond.code yX0_work cX0_work 4 none, Cond.methodLink RX0 103 Lib.Math.min.name, Cond.static Lib.Math.min.name, Cond.initialized "java/lang/Math", Cond.code Lib.Math.min.name Lib.Math.min.code 2 (some .int), Cond.methodLink RX0 89 yX0_isTraveller, Cond.methodLink RX0 93 yX0_searchOn, Cond.instanceMethod yX0_searchOn, Cond.selects RX0 yX0_searchOn yX0_searchOn]
def wsL_bestToDeclare_r4 : List Cond := [Cond.code yX0_searchOn cX0_searchOn 3 none, Cond.methodLink RX0 58 Lib.Math.max.name, Cond.static Lib.Math.max.name, Cond.code Lib.Math.max.name Lib.Math.max.code 2 (some .int), Cond.methodLink RX0 109 yX0_finds, Cond.instanceMethod yX0_finds, Cond.selects RX0 yX0_finds yX0_finds, Cond.code yX0_finds cX0_finds 4 (some .boolean), Cond.methodLink RX0 68 yX0_hiddenDreams, Cond.instanceMethod yX0_hiddenDreams, Cond.selects RX0 yX0_hiddenDreams yX0_hiddenDreams, Cond.code yX0_hiddenDreams cX0_hiddenDreams 2 (some .int), Cond.methodLink RX0 97 yX0_firstWaiting, Cond.instanceMethod yX0_firstWaiting, Cond.selects RX0 yX0_firstWaiting yX0_firstWaiting, Cond.code yX0_firstWaiting cX0_firstWaiting 2 (some .int), Cond.methodLink RX0 100 yX0_beginSearch, Cond.instanceMethod yX0_beginSearch, Cond.selects RX0 yX0_beginSearch yX0_beginSearch, Cond.code yX0_beginSearch cX0_beginSearch 3 none, Cond.methodLink RX0 106 yX0_searchMinutes, Cond.instanceMethod yX0_searchMinutes, Cond.selects RX0 yX0_searchMinutes yX0_searchMinutes, Cond.code yX0_searchMinutes cX0_searchMinutes 2 (some .int)]
def wsL_bestToDeclare_r5 : List Cond := [Cond.methodLink RX0 64 yX0_addedSnores, Cond.instanceMethod yX0_addedSnores, Cond.selects RX0 yX0_addedSnores yX0_addedSnores, Cond.code yX0_addedSnores cX0_addedSnores 3 (some .int), Cond.methodLink RX1 120 yX1_foreseenSleep, Cond.instanceMethod yX1_foreseenSleep, Cond.selects RX1 yX1_foreseenSleep yX1_foreseenSleep, Cond.code yX1_foreseenSleep cX1_foreseenSleep 2 (some .int), Cond.fieldLink RX1 201 "SleepBorder$Border" "asleepSince" "[I", Cond.fieldLink RX1 75 "SleepBorder$Border" "clock" "I"]
def wsL_bestToDeclare : List Cond := .codeWith yL_bestToDeclare cL_bestToDeclare 4 (some .int) [(0, 9, 12, 25)] :: ((wsL_bestToDeclare_r1 ++ (wsL_bestToDeclare_r2 ++ (wsL_bestToDeclare_r3 ++ (wsL_bestToDeclare_r4 ++ wsL_bestToDeclare_r5)))) ++ wsX10 ++ wsX00 ++ (vx_atS RX1 212 "java/lang/IndexOutOfBoundsException" ["java/lang/RuntimeException", "java/lang/Exception"]).filter goodWord)
def wsL_law0_r1 : List Cond := [Cond.classLink RL 8 RX1, Cond.instantiable RX1 2, Cond.initialized RX1, Cond.classLink RL 75 RX2, Cond.instantiable RX2 7, Cond.initialized RX2, Cond.arrayClass .long, Cond.methodLink RL 74 yX1_init, Cond.instanceMethod yX1_init, Cond.code yX1_init cX1_init 1 none, Cond.methodLink RX1 1 objectInit, Cond.instanceMethod objectInit, Cond.code objectInit ⟨#[0xb1]⟩ 1 none, Cond.classLink RX1 7 RX0, Cond.instantiable RX0 15, Cond.initialized RX0, Cond.fieldLink RX1 10 "SleepBorder" "now" "LSleepBorder$Border;", Cond.fieldLink RX1 16 "SleepBorder" "trial" "LSleepBorder$Border;", Cond.instanceMethod yX0_init, Cond.code yX0_init cX0_init 1 none, Cond.methodLink RX0 3 objectInit, Cond.fieldLink RX0 9 "SleepBorder$Border" "clock" "I", Cond.fieldLink RX0 15 "SleepBorder$Border" "expiredCount" "I", Cond.fieldLink RX0 18 "SleepBorder$Border" "till" "I"]
def wsL_law0_r2 : List Cond := [Cond.fieldLink RX0 21 "SleepBorder$Border" "travellerCount" "I", Cond.arrayClass .int, Cond.fieldLink RX0 24 "SleepBorder$Border" "dreams" "[I", Cond.fieldLink RX0 28 "SleepBorder$Border" "declared" "[I", Cond.fieldLink RX0 31 "SleepBorder$Border" "snore" "[I", Cond.fieldLink RX0 34 "SleepBorder$Border" "lullaby" "[I", Cond.fieldLink RX0 37 "SleepBorder$Border" "state" "[I", Cond.fieldLink RX0 40 "SleepBorder$Border" "transitLeft" "[I", Cond.fieldLink RX0 43 "SleepBorder$Border" "asleepSince" "[I", Cond.fieldLink RX0 46 "SleepBorder$Border" "guardCount" "I", Cond.fieldLink RX0 49 "SleepBorder$Border" "alertness" "[I", Cond.fieldLink RX0 52 "SleepBorder$Border" "searched" "[I", Cond.fieldLink RX0 55 "SleepBorder$Border" "searchLeft" "[I", Cond.methodLink RL 77 yX2_init, Cond.instanceMethod yX2_init, Cond.code yX2_init cX2_init 1 none, Cond.methodLink RX2 1 objectInit, Cond.fieldLink RX2 9 "SleepBorderModel" "dreams" "[I", Cond.fieldLink RX2 13 "SleepBorderModel" "snore" "[I", Cond.fieldLink RX2 16 "SleepBorderModel" "now" "[I", Cond.fieldLink RX2 19 "SleepBorderModel" "kept" "[I", Cond.arrayClass .boolean, Cond.fieldLink RX2 22 "SleepBorderModel" "free" "[Z", Cond.methodLink RL 78 yL_addGuard]
def wsL_law0_r3 : List Cond := [Cond.static yL_addGuard, Cond.initialized RL, Cond.codeWith yL_addGuard cL_addGuard 3 (some .int) [(0, 8, 11, 13)], Cond.classLink RL 13 "java/lang/IllegalStateException", Cond.methodLink RL 7 yX1_addGuard, Cond.instanceMethod yX1_addGuard, Cond.selects RX1 yX1_addGuard yX1_addGuard, Cond.code yX1_addGuard cX1_addGuard 1 (some .int), Cond.classLink RX1 23 "java/lang/IllegalStateException", Cond.initialized "java/lang/IllegalStateException", Cond.fieldLink RX1 19 "SleepBorder$Border" "guardCount" "I", Cond.methodLink RX1 30 yX0_admitGuard, Cond.instanceMethod yX0_admitGuard, Cond.selects RX0 yX0_admitGuard yX0_admitGuard, Cond.code yX0_admitGuard cX0_admitGuard 1 none, Cond.methodLink RL 83 yX2_addGuard, Cond.instanceMethod yX2_addGuard, Cond.selects RX2 yX2_addGuard yX2_addGuard, Cond.code yX2_addGuard cX2_addGuard 1 (some .int), Cond.fieldLink RX2 26 "SleepBorderModel" "thrown" "I", Cond.methodLink RX2 99 yX2_fail, Cond.instanceMethod yX2_fail, Cond.selects RX2 yX2_fail yX2_fail, Cond.code yX2_fail cX2_fail 2 (some .int)]
def wsL_law0_r4 : List Cond := [Cond.methodLink RX2 102 yX2_hire, Cond.instanceMethod yX2_hire, Cond.selects RX2 yX2_hire yX2_hire, Cond.code yX2_hire cX2_hire 2 none, Cond.methodLink RX2 67 yX2_post, Cond.instanceMethod yX2_post, Cond.selects RX2 yX2_post yX2_post, Cond.code yX2_post cX2_post 4 none, Cond.methodLink RL 84 yX2_thrown, Cond.instanceMethod yX2_thrown, Cond.selects RX2 yX2_thrown yX2_thrown, Cond.code yX2_thrown cX2_thrown 1 (some .int), Cond.methodLink RL 87 yL_arrive, Cond.static yL_arrive, Cond.codeWith yL_arrive cL_arrive 7 (some .int) [(0, 14, 17, 19), (0, 14, 21, 13)], Cond.classLink RL 19 "java/lang/IllegalArgumentException", Cond.methodLink RL 15 yX1_arrive, Cond.instanceMethod yX1_arrive, Cond.selects RX1 yX1_arrive yX1_arrive, Cond.code yX1_arrive cX1_arrive 5 (some .int), Cond.fieldLink RX1 40 "SleepBorder$Border" "travellerCount" "I", Cond.methodLink RX1 33 yX1_requireDigit, Cond.static yX1_requireDigit, Cond.code yX1_requireDigit cX1_requireDigit 1 none]
def wsL_law0_r5 : List Cond := [Cond.classLink RX1 218 "java/lang/IllegalArgumentException", Cond.initialized "java/lang/IllegalArgumentException", Cond.methodLink RX1 37 yX1_requireMinutes, Cond.static yX1_requireMinutes, Cond.code yX1_requireMinutes cX1_requireMinutes 1 none, Cond.methodLink RX1 45 yX0_admitTraveller, Cond.instanceMethod yX0_admitTraveller, Cond.selects RX0 yX0_admitTraveller yX0_admitTraveller, Cond.code yX0_admitTraveller cX0_admitTraveller 5 none, Cond.methodLink RL 90 yX2_arrive, Cond.instanceMethod yX2_arrive, Cond.selects RX2 yX2_arrive yX2_arrive, Cond.code yX2_arrive cX2_arrive 5 (some .int), Cond.fieldLink RX2 30 "SleepBorderModel" "travellers" "I", Cond.methodLink RX2 33 yX2_isIn, Cond.static yX2_isIn, Cond.code yX2_isIn cX2_isIn 3 (some .boolean), Cond.methodLink RX2 63 yX2_let, Cond.instanceMethod yX2_let, Cond.selects RX2 yX2_let yX2_let, Cond.code yX2_let cX2_let 4 none, Cond.methodLink RL 91 yL_declare, Cond.static yL_declare, Cond.codeWith yL_declare cL_declare 5 (some .int) [(0, 10, 13, 25), (0, 10, 17, 19), (0, 10, 21, 13)]]
def wsL_law0_r6 : List Cond := [Cond.classLink RL 25 "java/lang/IndexOutOfBoundsException", Cond.methodLink RL 21 yX1_declare, Cond.instanceMethod yX1_declare, Cond.selects RX1 yX1_declare yX1_declare, Cond.code yX1_declare cX1_declare 4 (some .int), Cond.fieldLink RX1 55 "SleepBorder$Border" "declared" "[I", Cond.methodLink RX1 49 yX1_requireTraveller, Cond.instanceMethod yX1_requireTraveller, Cond.selects RX1 yX1_requireTraveller yX1_requireTraveller, Cond.code yX1_requireTraveller cX1_requireTraveller 2 none, Cond.classLink RX1 208 "java/lang/IndexOutOfBoundsException", Cond.initialized "java/lang/IndexOutOfBoundsException", Cond.methodLink RX1 204 yX0_isTraveller, Cond.instanceMethod yX0_isTraveller, Cond.selects RX0 yX0_isTraveller yX0_isTraveller, Cond.code yX0_isTraveller cX0_isTraveller 2 (some .boolean), Cond.methodLink RX1 52 yX1_requireWaiting, Cond.instanceMethod yX1_requireWaiting, Cond.selects RX1 yX1_requireWaiting yX1_requireWaiting, Cond.code yX1_requireWaiting cX1_requireWaiting 2 none, Cond.fieldLink RX1 91 "SleepBorder$Border" "state" "[I", Cond.methodLink RL 94 yX2_declare, Cond.instanceMethod yX2_declare, Cond.selects RX2 yX2_declare yX2_declare]
def wsL_law0_r7 : List Cond := [Cond.code yX2_declare cX2_declare 3 (some .int), Cond.methodLink RX2 109 yX2_write, Cond.instanceMethod yX2_write, Cond.selects RX2 yX2_write yX2_write, Cond.code yX2_write cX2_write 7 (some .int), Cond.methodLink RX2 105 yX2_isTraveller, Cond.instanceMethod yX2_isTraveller, Cond.selects RX2 yX2_isTraveller yX2_isTraveller, Cond.code yX2_isTraveller cX2_isTraveller 2 (some .boolean), Cond.methodLink RX2 43 yX2_tr, Cond.instanceMethod yX2_tr, Cond.selects RX2 yX2_tr yX2_tr, Cond.code yX2_tr cX2_tr 3 (some .int), Cond.methodLink RL 95 yL_sing, Cond.static yL_sing, Cond.codeWith yL_sing cL_sing 5 (some .int) [(0, 10, 13, 25), (0, 10, 17, 19), (0, 10, 21, 13)], Cond.methodLink RL 27 yX1_sing, Cond.instanceMethod yX1_sing, Cond.selects RX1 yX1_sing yX1_sing, Cond.code yX1_sing cX1_sing 4 (some .int), Cond.fieldLink RX1 59 "SleepBorder$Border" "lullaby" "[I", Cond.methodLink RL 97 yX2_sing, Cond.instanceMethod yX2_sing, Cond.selects RX2 yX2_sing yX2_sing]
def wsL_law0_r8 : List Cond := [Cond.code yX2_sing cX2_sing 3 (some .int), Cond.methodLink RL 98 yL_wake, Cond.static yL_wake, Cond.codeWith yL_wake cL_wake 4 (some .int) [(0, 9, 12, 25)], Cond.methodLink RL 30 yX1_wake, Cond.instanceMethod yX1_wake, Cond.selects RX1 yX1_wake yX1_wake, Cond.code yX1_wake cX1_wake 3 (some .int), Cond.fieldLink RX1 65 "SleepBorder$Border" "alertness" "[I", Cond.methodLink RX1 62 yX1_requireGuard, Cond.instanceMethod yX1_requireGuard, Cond.selects RX1 yX1_requireGuard yX1_requireGuard, Cond.code yX1_requireGuard cX1_requireGuard 2 none, Cond.methodLink RX1 213 yX0_isGuard, Cond.instanceMethod yX0_isGuard, Cond.selects RX0 yX0_isGuard yX0_isGuard, Cond.code yX0_isGuard cX0_isGuard 2 (some .boolean), Cond.methodLink RL 101 yX2_wake, Cond.instanceMethod yX2_wake, Cond.selects RX2 yX2_wake yX2_wake, Cond.code yX2_wake cX2_wake 3 (some .int), Cond.methodLink RX2 113 yX2_isGuard, Cond.instanceMethod yX2_isGuard, Cond.selects RX2 yX2_isGuard yX2_isGuard]
def wsL_law0_r9 : List Cond := [Cond.code yX2_isGuard cX2_isGuard 2 (some .boolean), Cond.methodLink RX2 56 yX2_gu, Cond.instanceMethod yX2_gu, Cond.selects RX2 yX2_gu yX2_gu, Cond.code yX2_gu cX2_gu 3 (some .int), Cond.methodLink RL 102 yL_pass, Cond.static yL_pass, Cond.codeWith yL_pass cL_pass 4 (some .int) [(0, 9, 12, 19)], Cond.methodLink RL 34 yX1_pass, Cond.instanceMethod yX1_pass, Cond.selects RX1 yX1_pass yX1_pass, Cond.code yX1_pass cX1_pass 4 (some .int), Cond.methodLink RX1 68 yX0_countIn, Cond.instanceMethod yX0_countIn, Cond.selects RX0 yX0_countIn yX0_countIn, Cond.code yX0_countIn cX0_countIn 4 (some .int), Cond.methodLink RX1 72 yX0_goOneMinute, Cond.instanceMethod yX0_goOneMinute, Cond.selects RX0 yX0_goOneMinute yX0_goOneMinute, Cond.code yX0_goOneMinute cX0_goOneMinute 2 none, Cond.methodLink RX0 79 yX0_advanceTransits, Cond.instanceMethod yX0_advanceTransits, Cond.selects RX0 yX0_advanceTransits yX0_advanceTransits, Cond.code yX0_advanceTransits cX0_advanceTransits 2 none]
def wsL_law0_r10 : List Cond := [Cond.methodLink RX0 82 yX0_shortenLullabies, Cond.instanceMethod yX0_shortenLullabies, Cond.selects RX0 yX0_shortenLullabies yX0_shortenLullabies, Cond.code yX0_shortenLullabies cX0_shortenLullabies 2 none, Cond.methodLink RX0 85 yX0_work, Cond.instanceMethod yX0_work, Cond.selects RX0 yX0_work yX0_work, Cond.code yX0_work cX0_work 4 none, Cond.methodLink RX0 103 Lib.Math.min.name, Cond.static Lib.Math.min.name, Cond.initialized "java/lang/Math", Cond.code Lib.Math.min.name Lib.Math.min.code 2 (some .int), Cond.methodLink RX0 89 yX0_isTraveller, Cond.methodLink RX0 93 yX0_searchOn, Cond.instanceMethod yX0_searchOn, Cond.selects RX0 yX0_searchOn yX0_searchOn, Cond.code yX0_searchOn cX0_searchOn 3 none, Cond.methodLink RX0 58 Lib.Math.max.name, Cond.static Lib.Math.max.name, Cond.code Lib.Math.max.name Lib.Math.max.code 2 (some .int), Cond.methodLink RX0 109 yX0_finds, Cond.instanceMethod yX0_finds, Cond.selects RX0 yX0_finds yX0_finds, Cond.code yX0_finds cX0_finds 4 (some .boolean)]
def wsL_law0_r11 : List Cond := [Cond.methodLink RX0 68 yX0_hiddenDreams, Cond.instanceMethod yX0_hiddenDreams, Cond.selects RX0 yX0_hiddenDreams yX0_hiddenDreams, Cond.code yX0_hiddenDreams cX0_hiddenDreams 2 (some .int), Cond.methodLink RX0 97 yX0_firstWaiting, Cond.instanceMethod yX0_firstWaiting, Cond.selects RX0 yX0_firstWaiting yX0_firstWaiting, Cond.code yX0_firstWaiting cX0_firstWaiting 2 (some .int), Cond.methodLink RX0 100 yX0_beginSearch, Cond.instanceMethod yX0_beginSearch, Cond.selects RX0 yX0_beginSearch yX0_beginSearch, Cond.code yX0_beginSearch cX0_beginSearch 3 none, Cond.methodLink RX0 106 yX0_searchMinutes, Cond.instanceMethod yX0_searchMinutes, Cond.selects RX0 yX0_searchMinutes yX0_searchMinutes, Cond.code yX0_searchMinutes cX0_searchMinutes 2 (some .int), Cond.methodLink RX0 64 yX0_addedSnores, Cond.instanceMethod yX0_addedSnores, Cond.selects RX0 yX0_addedSnores yX0_addedSnores, Cond.code yX0_addedSnores cX0_addedSnores 3 (some .int), Cond.methodLink RL 104 yX2_pass, Cond.instanceMethod yX2_pass, Cond.selects RX2 yX2_pass yX2_pass, Cond.code yX2_pass cX2_pass 3 (some .int)]
def wsL_law0_r12 : List Cond := [Cond.methodLink RX2 116 yX2_count, Cond.instanceMethod yX2_count, Cond.selects RX2 yX2_count yX2_count, Cond.code yX2_count cX2_count 4 (some .int), Cond.methodLink RX2 119 yX2_minutesOn, Cond.instanceMethod yX2_minutesOn, Cond.selects RX2 yX2_minutesOn yX2_minutesOn, Cond.code yX2_minutesOn cX2_minutesOn 3 none, Cond.methodLink RX2 96 yX2_minuteOn, Cond.instanceMethod yX2_minuteOn, Cond.selects RX2 yX2_minuteOn yX2_minuteOn, Cond.code yX2_minuteOn cX2_minuteOn 2 none, Cond.methodLink RX2 83 yX2_travel, Cond.instanceMethod yX2_travel, Cond.selects RX2 yX2_travel yX2_travel, Cond.code yX2_travel cX2_travel 2 none, Cond.methodLink RX2 87 yX2_listen, Cond.instanceMethod yX2_listen, Cond.selects RX2 yX2_listen yX2_listen, Cond.code yX2_listen cX2_listen 2 none, Cond.methodLink RX2 90 yX2_begin, Cond.instanceMethod yX2_begin, Cond.selects RX2 yX2_begin yX2_begin, Cond.code yX2_begin cX2_begin 3 none]
def wsL_law0_r13 : List Cond := [Cond.methodLink RX2 77 Lib.Math.min.name, Cond.methodLink RX2 74 yX2_first, Cond.instanceMethod yX2_first, Cond.selects RX2 yX2_first yX2_first, Cond.code yX2_first cX2_first 2 (some .int), Cond.methodLink RX2 80 yX2_takes, Cond.instanceMethod yX2_takes, Cond.selects RX2 yX2_takes yX2_takes, Cond.code yX2_takes cX2_takes 2 (some .int), Cond.methodLink RX2 59 yX2_loud, Cond.instanceMethod yX2_loud, Cond.selects RX2 yX2_loud yX2_loud, Cond.code yX2_loud cX2_loud 3 (some .int), Cond.methodLink RX2 93 yX2_searchOn, Cond.instanceMethod yX2_searchOn, Cond.selects RX2 yX2_searchOn yX2_searchOn, Cond.code yX2_searchOn cX2_searchOn 4 none, Cond.methodLink RX2 47 Lib.Math.max.name, Cond.methodLink RX2 70 yX2_finds, Cond.instanceMethod yX2_finds, Cond.selects RX2 yX2_finds yX2_finds, Cond.code yX2_finds cX2_finds 3 (some .boolean), Cond.methodLink RX2 52 yX2_hidden, Cond.instanceMethod yX2_hidden]
def wsL_law0_r14 : List Cond := [Cond.selects RX2 yX2_hidden yX2_hidden, Cond.code yX2_hidden cX2_hidden 2 (some .int), Cond.methodLink RL 105 yX1_minute, Cond.instanceMethod yX1_minute, Cond.selects RX1 yX1_minute yX1_minute, Cond.code yX1_minute cX1_minute 1 (some .int), Cond.fieldLink RX1 75 "SleepBorder$Border" "clock" "I", Cond.methodLink RL 108 yX2_minute, Cond.instanceMethod yX2_minute, Cond.selects RX2 yX2_minute yX2_minute, Cond.code yX2_minute cX2_minute 1 (some .int), Cond.methodLink RX2 122 yX2_told, Cond.instanceMethod yX2_told, Cond.selects RX2 yX2_told yX2_told, Cond.code yX2_told cX2_told 2 (some .int), Cond.methodLink RL 109 yX1_travellers, Cond.instanceMethod yX1_travellers, Cond.selects RX1 yX1_travellers yX1_travellers, Cond.code yX1_travellers cX1_travellers 1 (some .int), Cond.methodLink RL 112 yX2_travellers, Cond.instanceMethod yX2_travellers, Cond.selects RX2 yX2_travellers yX2_travellers, Cond.code yX2_travellers cX2_travellers 1 (some .int), Cond.methodLink RL 113 yX1_waiting]
def wsL_law0_r15 : List Cond := [Cond.instanceMethod yX1_waiting, Cond.selects RX1 yX1_waiting yX1_waiting, Cond.code yX1_waiting cX1_waiting 1 (some .int), Cond.methodLink RL 116 yX2_waiting, Cond.instanceMethod yX2_waiting, Cond.selects RX2 yX2_waiting yX2_waiting, Cond.code yX2_waiting cX2_waiting 1 (some .int), Cond.methodLink RL 117 yX1_asleep, Cond.instanceMethod yX1_asleep, Cond.selects RX1 yX1_asleep yX1_asleep, Cond.code yX1_asleep cX1_asleep 1 (some .int), Cond.methodLink RL 120 yX2_asleep, Cond.instanceMethod yX2_asleep, Cond.selects RX2 yX2_asleep yX2_asleep, Cond.code yX2_asleep cX2_asleep 1 (some .int), Cond.methodLink RL 121 yX1_sentBack, Cond.instanceMethod yX1_sentBack, Cond.selects RX1 yX1_sentBack yX1_sentBack, Cond.code yX1_sentBack cX1_sentBack 1 (some .int), Cond.methodLink RL 124 yX2_sentBack, Cond.instanceMethod yX2_sentBack, Cond.selects RX2 yX2_sentBack yX2_sentBack, Cond.code yX2_sentBack cX2_sentBack 1 (some .int), Cond.methodLink RL 125 yX1_expired]
def wsL_law0_r16 : List Cond := [Cond.instanceMethod yX1_expired, Cond.selects RX1 yX1_expired yX1_expired, Cond.code yX1_expired cX1_expired 1 (some .int), Cond.fieldLink RX1 78 "SleepBorder$Border" "expiredCount" "I", Cond.methodLink RL 128 yX2_expired, Cond.instanceMethod yX2_expired, Cond.selects RX2 yX2_expired yX2_expired, Cond.code yX2_expired cX2_expired 1 (some .int), Cond.methodLink RL 129 yX1_paid, Cond.instanceMethod yX1_paid, Cond.selects RX1 yX1_paid yX1_paid, Cond.code yX1_paid cX1_paid 1 (some .int), Cond.fieldLink RX1 81 "SleepBorder$Border" "till" "I", Cond.methodLink RL 132 yX2_paid, Cond.instanceMethod yX2_paid, Cond.selects RX2 yX2_paid yX2_paid, Cond.code yX2_paid cX2_paid 1 (some .int), Cond.methodLink RL 133 yX1_noise, Cond.instanceMethod yX1_noise, Cond.selects RX1 yX1_noise yX1_noise, Cond.code yX1_noise cX1_noise 1 (some .int), Cond.methodLink RX1 84 yX0_addedSnores, Cond.methodLink RL 136 yX2_noise, Cond.instanceMethod yX2_noise]
def wsL_law0_r17 : List Cond := [Cond.selects RX2 yX2_noise yX2_noise, Cond.code yX2_noise cX2_noise 1 (some .int), Cond.methodLink RL 137 yX1_nextInLine, Cond.instanceMethod yX1_nextInLine, Cond.selects RX1 yX1_nextInLine yX1_nextInLine, Cond.code yX1_nextInLine cX1_nextInLine 1 (some .int), Cond.methodLink RX1 88 yX0_firstWaiting, Cond.methodLink RL 140 yX2_nextInLine, Cond.instanceMethod yX2_nextInLine, Cond.selects RX2 yX2_nextInLine yX2_nextInLine, Cond.code yX2_nextInLine cX2_nextInLine 1 (some .int), Cond.methodLink RL 141 yL_stateOf, Cond.static yL_stateOf, Cond.codeWith yL_stateOf cL_stateOf 4 (some .int) [(0, 9, 12, 25)], Cond.methodLink RL 37 yX1_stateOf, Cond.instanceMethod yX1_stateOf, Cond.selects RX1 yX1_stateOf yX1_stateOf, Cond.code yX1_stateOf cX1_stateOf 2 (some .int), Cond.methodLink RL 143 yX2_stateOf, Cond.instanceMethod yX2_stateOf, Cond.selects RX2 yX2_stateOf yX2_stateOf, Cond.code yX2_stateOf cX2_stateOf 2 (some .int), Cond.methodLink RL 144 yL_hiddenOf, Cond.static yL_hiddenOf]
def wsL_law0_r18 : List Cond := [Cond.codeWith yL_hiddenOf cL_hiddenOf 4 (some .int) [(0, 9, 12, 25)], Cond.methodLink RL 40 yX1_hiddenOf, Cond.instanceMethod yX1_hiddenOf, Cond.selects RX1 yX1_hiddenOf yX1_hiddenOf, Cond.code yX1_hiddenOf cX1_hiddenOf 2 (some .int), Cond.methodLink RX1 94 yX0_hiddenDreams, Cond.methodLink RL 146 yX2_hiddenOf, Cond.instanceMethod yX2_hiddenOf, Cond.selects RX2 yX2_hiddenOf yX2_hiddenOf, Cond.code yX2_hiddenOf cX2_hiddenOf 2 (some .int), Cond.methodLink RL 147 yL_lullabyOf, Cond.static yL_lullabyOf, Cond.codeWith yL_lullabyOf cL_lullabyOf 4 (some .int) [(0, 9, 12, 25)], Cond.methodLink RL 43 yX1_lullabyOf, Cond.instanceMethod yX1_lullabyOf, Cond.selects RX1 yX1_lullabyOf yX1_lullabyOf, Cond.code yX1_lullabyOf cX1_lullabyOf 2 (some .int), Cond.methodLink RL 149 yX2_lullabyOf, Cond.instanceMethod yX2_lullabyOf, Cond.selects RX2 yX2_lullabyOf yX2_lullabyOf, Cond.code yX2_lullabyOf cX2_lullabyOf 2 (some .int), Cond.methodLink RL 150 yL_placeInLine, Cond.static yL_placeInLine, Cond.codeWith yL_placeInLine cL_placeInLine 4 (some .int) [(0, 9, 12, 25)]]
def wsL_law0_r19 : List Cond := [Cond.methodLink RL 46 yX1_placeInLine, Cond.instanceMethod yX1_placeInLine, Cond.selects RX1 yX1_placeInLine yX1_placeInLine, Cond.code yX1_placeInLine cX1_placeInLine 2 (some .int), Cond.methodLink RX1 97 yX0_waitingAhead, Cond.instanceMethod yX0_waitingAhead, Cond.selects RX0 yX0_waitingAhead yX0_waitingAhead, Cond.code yX0_waitingAhead cX0_waitingAhead 4 (some .int), Cond.methodLink RL 152 yX2_placeInLine, Cond.instanceMethod yX2_placeInLine, Cond.selects RX2 yX2_placeInLine yX2_placeInLine, Cond.code yX2_placeInLine cX2_placeInLine 2 (some .int), Cond.methodLink RX2 125 yX2_place, Cond.instanceMethod yX2_place, Cond.selects RX2 yX2_place yX2_place, Cond.code yX2_place cX2_place 4 (some .int), Cond.methodLink RL 153 yL_searchTime, Cond.static yL_searchTime, Cond.codeWith yL_searchTime cL_searchTime 4 (some .int) [(0, 9, 12, 25)], Cond.methodLink RL 49 yX1_searchTime, Cond.instanceMethod yX1_searchTime, Cond.selects RX1 yX1_searchTime yX1_searchTime, Cond.code yX1_searchTime cX1_searchTime 2 (some .int), Cond.methodLink RX1 100 yX0_searchMinutes]
def wsL_law0_r20 : List Cond := [Cond.methodLink RL 155 yX2_searchTime, Cond.instanceMethod yX2_searchTime, Cond.selects RX2 yX2_searchTime yX2_searchTime, Cond.code yX2_searchTime cX2_searchTime 2 (some .int), Cond.methodLink RL 156 yX1_guards, Cond.instanceMethod yX1_guards, Cond.selects RX1 yX1_guards yX1_guards, Cond.code yX1_guards cX1_guards 1 (some .int), Cond.methodLink RL 159 yX2_guards, Cond.instanceMethod yX2_guards, Cond.selects RX2 yX2_guards yX2_guards, Cond.code yX2_guards cX2_guards 1 (some .int), Cond.methodLink RL 160 yL_alertnessOf, Cond.static yL_alertnessOf, Cond.codeWith yL_alertnessOf cL_alertnessOf 4 (some .int) [(0, 9, 12, 25)], Cond.methodLink RL 52 yX1_alertnessOf, Cond.instanceMethod yX1_alertnessOf, Cond.selects RX1 yX1_alertnessOf yX1_alertnessOf, Cond.code yX1_alertnessOf cX1_alertnessOf 2 (some .int), Cond.methodLink RL 162 yX2_alertnessOf, Cond.instanceMethod yX2_alertnessOf, Cond.selects RX2 yX2_alertnessOf yX2_alertnessOf, Cond.code yX2_alertnessOf cX2_alertnessOf 2 (some .int), Cond.methodLink RX2 128 yX2_guard]
def wsL_law0_r21 : List Cond := [Cond.instanceMethod yX2_guard, Cond.selects RX2 yX2_guard yX2_guard, Cond.code yX2_guard cX2_guard 3 (some .int), Cond.methodLink RL 163 yL_searches, Cond.static yL_searches, Cond.codeWith yL_searches cL_searches 4 (some .int) [(0, 9, 12, 25)], Cond.methodLink RL 55 yX1_searches, Cond.instanceMethod yX1_searches, Cond.selects RX1 yX1_searches yX1_searches, Cond.code yX1_searches cX1_searches 2 (some .int), Cond.fieldLink RX1 103 "SleepBorder$Border" "searched" "[I", Cond.methodLink RL 165 yX2_searches, Cond.instanceMethod yX2_searches, Cond.selects RX2 yX2_searches yX2_searches, Cond.code yX2_searches cX2_searches 2 (some .int), Cond.methodLink RL 166 yL_minutesToGo, Cond.static yL_minutesToGo, Cond.codeWith yL_minutesToGo cL_minutesToGo 4 (some .int) [(0, 9, 12, 25)], Cond.methodLink RL 58 yX1_minutesToGo, Cond.instanceMethod yX1_minutesToGo, Cond.selects RX1 yX1_minutesToGo yX1_minutesToGo, Cond.code yX1_minutesToGo cX1_minutesToGo 2 (some .int), Cond.fieldLink RX1 106 "SleepBorder$Border" "searchLeft" "[I", Cond.methodLink RL 168 yX2_minutesToGo]
def wsL_law0_r22 : List Cond := [Cond.instanceMethod yX2_minutesToGo, Cond.selects RX2 yX2_minutesToGo yX2_minutesToGo, Cond.code yX2_minutesToGo cX2_minutesToGo 2 (some .int), Cond.methodLink RL 169 yL_wouldFind, Cond.static yL_wouldFind, Cond.codeWith yL_wouldFind cL_wouldFind 5 (some .int) [(0, 17, 20, 25)], Cond.methodLink RL 61 yX1_wouldFind, Cond.instanceMethod yX1_wouldFind, Cond.selects RX1 yX1_wouldFind yX1_wouldFind, Cond.code yX1_wouldFind cX1_wouldFind 3 (some .boolean), Cond.methodLink RX1 109 yX0_finds, Cond.methodLink RL 171 yX2_wouldFind, Cond.instanceMethod yX2_wouldFind, Cond.selects RX2 yX2_wouldFind yX2_wouldFind, Cond.code yX2_wouldFind cX2_wouldFind 3 (some .boolean), Cond.methodLink RL 172 yX1_mostAlert, Cond.instanceMethod yX1_mostAlert, Cond.selects RX1 yX1_mostAlert yX1_mostAlert, Cond.code yX1_mostAlert cX1_mostAlert 4 (some .int), Cond.methodLink RL 175 yX2_mostAlert, Cond.instanceMethod yX2_mostAlert, Cond.selects RX2 yX2_mostAlert yX2_mostAlert, Cond.code yX2_mostAlert cX2_mostAlert 1 (some .int), Cond.methodLink RX2 131 yX2_alertest]
def wsL_law0_r23 : List Cond := [Cond.instanceMethod yX2_alertest, Cond.selects RX2 yX2_alertest yX2_alertest, Cond.code yX2_alertest cX2_alertest 3 (some .int), Cond.methodLink RL 176 yL_minutesUntilAsleep, Cond.static yL_minutesUntilAsleep, Cond.codeWith yL_minutesUntilAsleep cL_minutesUntilAsleep 4 (some .int) [(0, 9, 12, 25)], Cond.methodLink RL 65 yX1_minutesUntilAsleep, Cond.instanceMethod yX1_minutesUntilAsleep, Cond.selects RX1 yX1_minutesUntilAsleep yX1_minutesUntilAsleep, Cond.code yX1_minutesUntilAsleep cX1_minutesUntilAsleep 2 (some .int), Cond.methodLink RX1 113 yX0_become, Cond.instanceMethod yX0_become, Cond.selects RX0 yX0_become yX0_become, Cond.code yX0_become cX0_become 3 none, Cond.methodLink RX1 117 yX0_goOn, Cond.instanceMethod yX0_goOn, Cond.selects RX0 yX0_goOn yX0_goOn, Cond.code yX0_goOn cX0_goOn 3 none, Cond.methodLink RX0 72 yX0_isSettled, Cond.instanceMethod yX0_isSettled, Cond.selects RX0 yX0_isSettled yX0_isSettled, Cond.code yX0_isSettled cX0_isSettled 2 (some .boolean), Cond.methodLink RX0 76 yX0_goOneMinute, Cond.methodLink RX1 120 yX1_foreseenSleep]
def wsL_law0_r24 : List Cond := [Cond.instanceMethod yX1_foreseenSleep, Cond.selects RX1 yX1_foreseenSleep yX1_foreseenSleep, Cond.code yX1_foreseenSleep cX1_foreseenSleep 2 (some .int), Cond.fieldLink RX1 201 "SleepBorder$Border" "asleepSince" "[I", Cond.methodLink RL 178 yX2_minutesUntilAsleep, Cond.instanceMethod yX2_minutesUntilAsleep, Cond.selects RX2 yX2_minutesUntilAsleep yX2_minutesUntilAsleep, Cond.code yX2_minutesUntilAsleep cX2_minutesUntilAsleep 2 (some .int), Cond.methodLink RX2 143 yX2_until, Cond.instanceMethod yX2_until, Cond.selects RX2 yX2_until yX2_until, Cond.code yX2_until cX2_until 3 (some .int), Cond.methodLink RX2 134 yX2_keep, Cond.instanceMethod yX2_keep, Cond.selects RX2 yX2_keep yX2_keep, Cond.code yX2_keep cX2_keep 1 none, Cond.methodLink RX2 37 arraycopyName, Cond.native arraycopyName, Cond.static arraycopyName, Cond.initialized "java/lang/System", Cond.methodLink RX2 137 yX2_run, Cond.instanceMethod yX2_run, Cond.selects RX2 yX2_run yX2_run, Cond.code yX2_run cX2_run 3 (some .int)]
def wsL_law0_r25 : List Cond := [Cond.methodLink RX2 140 yX2_bringBack, Cond.instanceMethod yX2_bringBack, Cond.selects RX2 yX2_bringBack yX2_bringBack, Cond.code yX2_bringBack cX2_bringBack 1 none, Cond.methodLink RL 179 yL_asleepIn, Cond.static yL_asleepIn, Cond.codeWith yL_asleepIn cL_asleepIn 4 (some .int) [(0, 9, 12, 19)], Cond.methodLink RL 68 yX1_asleepIn, Cond.instanceMethod yX1_asleepIn, Cond.selects RX1 yX1_asleepIn yX1_asleepIn, Cond.code yX1_asleepIn cX1_asleepIn 2 (some .int), Cond.methodLink RL 181 yX2_asleepIn, Cond.instanceMethod yX2_asleepIn, Cond.selects RX2 yX2_asleepIn yX2_asleepIn, Cond.code yX2_asleepIn cX2_asleepIn 2 (some .int), Cond.methodLink RX2 146 yX2_sleepers, Cond.instanceMethod yX2_sleepers, Cond.selects RX2 yX2_sleepers yX2_sleepers, Cond.code yX2_sleepers cX2_sleepers 3 (some .int), Cond.methodLink RL 182 yL_bestToDeclare, Cond.static yL_bestToDeclare, Cond.codeWith yL_bestToDeclare cL_bestToDeclare 4 (some .int) [(0, 9, 12, 25)], Cond.methodLink RL 71 yX1_bestToDeclare, Cond.instanceMethod yX1_bestToDeclare]
def wsL_law0_r26 : List Cond := [Cond.selects RX1 yX1_bestToDeclare yX1_bestToDeclare, Cond.code yX1_bestToDeclare cX1_bestToDeclare 6 (some .int), Cond.methodLink RL 184 yX2_bestToDeclare, Cond.instanceMethod yX2_bestToDeclare, Cond.selects RX2 yX2_bestToDeclare yX2_bestToDeclare, Cond.code yX2_bestToDeclare cX2_bestToDeclare 6 (some .int), Cond.methodLink RL 185 yX1_guardsWanted, Cond.instanceMethod yX1_guardsWanted, Cond.selects RX1 yX1_guardsWanted yX1_guardsWanted, Cond.code yX1_guardsWanted cX1_guardsWanted 3 (some .int), Cond.methodLink RL 188 yX2_guardsWanted, Cond.instanceMethod yX2_guardsWanted, Cond.selects RX2 yX2_guardsWanted yX2_guardsWanted, Cond.code yX2_guardsWanted cX2_guardsWanted 1 (some .int), Cond.methodLink RX2 149 yX2_wanted, Cond.instanceMethod yX2_wanted, Cond.selects RX2 yX2_wanted yX2_wanted, Cond.code yX2_wanted cX2_wanted 5 (some .int), Cond.methodLink RL 189 yX1_meanAlertness, Cond.instanceMethod yX1_meanAlertness, Cond.selects RX1 yX1_meanAlertness yX1_meanAlertness, Cond.code yX1_meanAlertness cX1_meanAlertness 3 (some .double), Cond.methodLink RL 193 yX2_meanAlertness, Cond.instanceMethod yX2_meanAlertness]
def wsL_law0_r27 : List Cond := [Cond.selects RX2 yX2_meanAlertness yX2_meanAlertness, Cond.code yX2_meanAlertness cX2_meanAlertness 3 (some .double), Cond.methodLink RL 194 yX1_digest, Cond.instanceMethod yX1_digest, Cond.selects RX1 yX1_digest yX1_digest, Cond.code yX1_digest cX1_digest 3 (some .long), Cond.constantLong RX1 123 (2131), Cond.methodLink RX1 125 yX1_minute, Cond.methodLink RX1 128 yX1_mix, Cond.static yX1_mix, Cond.code yX1_mix cX1_mix 3 (some .long), Cond.constantLong RX1 199 (31), Cond.methodLink RX1 132 yX1_travellers, Cond.methodLink RX1 135 yX1_waiting, Cond.methodLink RX1 138 yX1_asleep, Cond.methodLink RX1 141 yX1_sentBack, Cond.methodLink RX1 144 yX1_expired, Cond.methodLink RX1 147 yX1_paid, Cond.methodLink RX1 150 yX1_noise, Cond.methodLink RX1 153 yX1_nextInLine, Cond.methodLink RX1 156 yX1_guards, Cond.methodLink RX1 159 yX1_mostAlert, Cond.methodLink RX1 162 yX1_asleepIn, Cond.methodLink RX1 165 yX1_guardsWanted]
def wsL_law0_r28 : List Cond := [Cond.methodLink RX1 168 yX1_mixTravellers, Cond.instanceMethod yX1_mixTravellers, Cond.selects RX1 yX1_mixTravellers yX1_mixTravellers, Cond.code yX1_mixTravellers cX1_mixTravellers 6 (some .long), Cond.methodLink RX1 175 yX1_stateOf, Cond.methodLink RX1 178 yX1_hiddenOf, Cond.methodLink RX1 181 yX1_lullabyOf, Cond.methodLink RX1 184 yX1_placeInLine, Cond.methodLink RX1 187 yX1_searchTime, Cond.methodLink RX1 172 yX1_mixGuards, Cond.instanceMethod yX1_mixGuards, Cond.selects RX1 yX1_mixGuards yX1_mixGuards, Cond.code yX1_mixGuards cX1_mixGuards 6 (some .long), Cond.methodLink RX1 190 yX1_alertnessOf, Cond.methodLink RX1 193 yX1_searches, Cond.methodLink RX1 196 yX1_minutesToGo, Cond.methodLink RL 198 yX2_digest, Cond.instanceMethod yX2_digest, Cond.selects RX2 yX2_digest yX2_digest, Cond.code yX2_digest cX2_digest 10 (some .long), Cond.constantLong RX2 152 (2131), Cond.constantLong RX2 154 (31)]
def wsL_law0 : List Cond := (wsL_law0_r1 ++ (wsL_law0_r2 ++ (wsL_law0_r3 ++ (wsL_law0_r4 ++ (wsL_law0_r5 ++ (wsL_law0_r6 ++ (wsL_law0_r7 ++ (wsL_law0_r8 ++ (wsL_law0_r9 ++ (wsL_law0_r10 ++ (wsL_law0_r11 ++ (wsL_law0_r12 ++ (wsL_law0_r13 ++ (wsL_law0_r14 ++ (wsL_law0_r15 ++ (wsL_law0_r16 ++ (wsL_law0_r17 ++ (wsL_law0_r18 ++ (wsL_law0_r19 ++ (wsL_law0_r20 ++ (wsL_law0_r21 ++ (wsL_law0_r22 ++ (wsL_law0_r23 ++ (wsL_law0_r24 ++ (wsL_law0_r25 ++ (wsL_law0_r26 ++ (wsL_law0_r27 ++ wsL_law0_r28))))))))))))))))))))))))))) ++ wsX10 ++ wsX20 ++ wsX00 ++ ([] : List Cond)
def wsL_law : List Cond := wsL_law0 ++ (vx_atS RX1 27 "java/lang/IllegalStateException" ["java/lang/RuntimeException", "java/lang/Exception"]).filter goodWord ++ (vx_atS RX1 222 "java/lang/IllegalArgumentException" ["java/lang/RuntimeException", "java/lang/Exception"]).filter goodWord ++ (vx_atS RX1 212 "java/lang/IndexOutOfBoundsException" ["java/lang/RuntimeException", "java/lang/Exception"]).filter goodWord
abbrev vwCl : List vw_C := [(RX0, TX0, 15), (RX1, TX1, 2), (RX2, TX2, 7)]
end
section
theorem dX0_init_0 : decode cX0_init 0 = .ok (.aload_n 0, 1) := by decide +kernel
theorem dX0_init_1 : decode cX0_init 1 = .ok (.invokespecial 3, 3) := by decide +kernel
theorem dX0_init_4 : decode cX0_init 4 = .ok (.aload_n 0, 1) := by decide +kernel
theorem dX0_init_5 : decode cX0_init 5 = .ok (.iconst 0, 1) := by decide +kernel
theorem dX0_init_6 : decode cX0_init 6 = .ok (.putfield 9, 3) := by decide +kernel
theorem dX0_init_9 : decode cX0_init 9 = .ok (.aload_n 0, 1) := by decide +kernel
theorem dX0_init_10 : decode cX0_init 10 = .ok (.iconst 0, 1) := by decide +kernel
theorem dX0_init_11 : decode cX0_init 11 = .ok (.putfield 15, 3) := by decide +kernel
theorem dX0_init_14 : decode cX0_init 14 = .ok (.aload_n 0, 1) := by decide +kernel
theorem dX0_init_15 : decode cX0_init 15 = .ok (.iconst 0, 1) := by decide +kernel
theorem dX0_init_16 : decode cX0_init 16 = .ok (.putfield 18, 3) := by decide +kernel
theorem dX0_init_19 : decode cX0_init 19 = .ok (.aload_n 0, 1) := by decide +kernel
theorem dX0_init_20 : decode cX0_init 20 = .ok (.iconst 0, 1) := by decide +kernel
theorem dX0_init_21 : decode cX0_init 21 = .ok (.putfield 21, 3) := by decide +kernel
theorem dX0_init_24 : decode cX0_init 24 = .ok (.aload_n 0, 1) := by decide +kernel
theorem dX0_init_25 : decode cX0_init 25 = .ok (.bipush 24, 2) := by decide +kernel
theorem dX0_init_27 : decode cX0_init 27 = .ok (.newarray .int, 2) := by decide +kernel
theorem dX0_init_29 : decode cX0_init 29 = .ok (.putfield 24, 3) := by decide +kernel
theorem dX0_init_32 : decode cX0_init 32 = .ok (.aload_n 0, 1) := by decide +kernel
theorem dX0_init_33 : decode cX0_init 33 = .ok (.bipush 24, 2) := by decide +kernel
theorem dX0_init_35 : decode cX0_init 35 = .ok (.newarray .int, 2) := by decide +kernel
theorem dX0_init_37 : decode cX0_init 37 = .ok (.putfield 28, 3) := by decide +kernel
theorem dX0_init_40 : decode cX0_init 40 = .ok (.aload_n 0, 1) := by decide +kernel
theorem dX0_init_41 : decode cX0_init 41 = .ok (.bipush 24, 2) := by decide +kernel
theorem dX0_init_43 : decode cX0_init 43 = .ok (.newarray .int, 2) := by decide +kernel
theorem dX0_init_45 : decode cX0_init 45 = .ok (.putfield 31, 3) := by decide +kernel
theorem dX0_init_48 : decode cX0_init 48 = .ok (.aload_n 0, 1) := by decide +kernel
theorem dX0_init_49 : decode cX0_init 49 = .ok (.bipush 24, 2) := by decide +kernel
theorem dX0_init_51 : decode cX0_init 51 = .ok (.newarray .int, 2) := by decide +kernel
theorem dX0_init_53 : decode cX0_init 53 = .ok (.putfield 34, 3) := by decide +kernel
theorem dX0_init_56 : decode cX0_init 56 = .ok (.aload_n 0, 1) := by decide +kernel
theorem dX0_init_57 : decode cX0_init 57 = .ok (.bipush 24, 2) := by decide +kernel
theorem dX0_init_59 : decode cX0_init 59 = .ok (.newarray .int, 2) := by decide +kernel
theorem dX0_init_61 : decode cX0_init 61 = .ok (.putfield 37, 3) := by decide +kernel
theorem dX0_init_64 : decode cX0_init 64 = .ok (.aload_n 0, 1) := by decide +kernel
theorem dX0_init_65 : decode cX0_init 65 = .ok (.bipush 24, 2) := by decide +kernel
theorem dX0_init_67 : decode cX0_init 67 = .ok (.newarray .int, 2) := by decide +kernel
theorem dX0_init_69 : decode cX0_init 69 = .ok (.putfield 40, 3) := by decide +kernel
theorem dX0_init_72 : decode cX0_init 72 = .ok (.aload_n 0, 1) := by decide +kernel
theorem dX0_init_73 : decode cX0_init 73 = .ok (.bipush 24, 2) := by decide +kernel
theorem dX0_init_75 : decode cX0_init 75 = .ok (.newarray .int, 2) := by decide +kernel
theorem dX0_init_77 : decode cX0_init 77 = .ok (.putfield 43, 3) := by decide +kernel
theorem dX0_init_80 : decode cX0_init 80 = .ok (.aload_n 0, 1) := by decide +kernel
theorem dX0_init_81 : decode cX0_init 81 = .ok (.iconst 0, 1) := by decide +kernel
theorem dX0_init_82 : decode cX0_init 82 = .ok (.putfield 46, 3) := by decide +kernel
theorem dX0_init_85 : decode cX0_init 85 = .ok (.aload_n 0, 1) := by decide +kernel
theorem dX0_init_86 : decode cX0_init 86 = .ok (.bipush 8, 2) := by decide +kernel
theorem dX0_init_88 : decode cX0_init 88 = .ok (.newarray .int, 2) := by decide +kernel
theorem dX0_init_90 : decode cX0_init 90 = .ok (.putfield 49, 3) := by decide +kernel
theorem dX0_init_93 : decode cX0_init 93 = .ok (.aload_n 0, 1) := by decide +kernel
theorem dX0_init_94 : decode cX0_init 94 = .ok (.bipush 8, 2) := by decide +kernel
theorem dX0_init_96 : decode cX0_init 96 = .ok (.newarray .int, 2) := by decide +kernel
theorem dX0_init_98 : decode cX0_init 98 = .ok (.putfield 52, 3) := by decide +kernel
theorem dX0_init_101 : decode cX0_init 101 = .ok (.aload_n 0, 1) := by decide +kernel
theorem dX0_init_102 : decode cX0_init 102 = .ok (.bipush 8, 2) := by decide +kernel
theorem dX0_init_104 : decode cX0_init 104 = .ok (.newarray .int, 2) := by decide +kernel
theorem dX0_init_106 : decode cX0_init 106 = .ok (.putfield 55, 3) := by decide +kernel
theorem dX0_init_109 : decode cX0_init 109 = .ok (.return_, 1) := by decide +kernel
theorem dX0_become_0 : decode cX0_become 0 = .ok (.aload_n 0, 1) := by decide +kernel
theorem dX0_become_1 : decode cX0_become 1 = .ok (.aload_n 1, 1) := by decide +kernel
theorem dX0_become_2 : decode cX0_become 2 = .ok (.getfield 9, 3) := by decide +kernel
theorem dX0_become_5 : decode cX0_become 5 = .ok (.putfield 9, 3) := by decide +kernel
theorem dX0_become_8 : decode cX0_become 8 = .ok (.aload_n 0, 1) := by decide +kernel
theorem dX0_become_9 : decode cX0_become 9 = .ok (.aload_n 1, 1) := by decide +kernel
theorem dX0_become_10 : decode cX0_become 10 = .ok (.getfield 15, 3) := by decide +kernel
theorem dX0_become_13 : decode cX0_become 13 = .ok (.putfield 15, 3) := by decide +kernel
theorem dX0_become_16 : decode cX0_become 16 = .ok (.aload_n 0, 1) := by decide +kernel
theorem dX0_become_17 : decode cX0_become 17 = .ok (.aload_n 1, 1) := by decide +kernel
theorem dX0_become_18 : decode cX0_become 18 = .ok (.getfield 18, 3) := by decide +kernel
theorem dX0_become_21 : decode cX0_become 21 = .ok (.putfield 18, 3) := by decide +kernel
theorem dX0_become_24 : decode cX0_become 24 = .ok (.aload_n 0, 1) := by decide +kernel
theorem dX0_become_25 : decode cX0_become 25 = .ok (.aload_n 1, 1) := by decide +kernel
theorem dX0_become_26 : decode cX0_become 26 = .ok (.getfield 21, 3) := by decide +kernel
theorem dX0_become_29 : decode cX0_become 29 = .ok (.putfield 21, 3) := by decide +kernel
theorem dX0_become_32 : decode cX0_become 32 = .ok (.iconst 0, 1) := by decide +kernel
theorem dX0_become_33 : decode cX0_become 33 = .ok (.istore_n 2, 1) := by decide +kernel
theorem dX0_become_34 : decode cX0_become 34 = .ok (.iload_n 2, 1) := by decide +kernel
theorem dX0_become_35 : decode cX0_become 35 = .ok (.aload_n 0, 1) := by decide +kernel
theorem dX0_become_36 : decode cX0_become 36 = .ok (.getfield 21, 3) := by decide +kernel
theorem dX0_become_39 : decode cX0_become 39 = .ok (.if_icmp .ge 93, 3) := by decide +kernel
theorem dX0_become_42 : decode cX0_become 42 = .ok (.aload_n 0, 1) := by decide +kernel
theorem dX0_become_43 : decode cX0_become 43 = .ok (.getfield 24, 3) := by decide +kernel
theorem dX0_become_46 : decode cX0_become 46 = .ok (.iload_n 2, 1) := by decide +kernel
theorem dX0_become_47 : decode cX0_become 47 = .ok (.aload_n 1, 1) := by decide +kernel
theorem dX0_become_48 : decode cX0_become 48 = .ok (.getfield 24, 3) := by decide +kernel
theorem dX0_become_51 : decode cX0_become 51 = .ok (.iload_n 2, 1) := by decide +kernel
theorem dX0_become_52 : decode cX0_become 52 = .ok (.iaload, 1) := by decide +kernel
theorem dX0_become_53 : decode cX0_become 53 = .ok (.iastore, 1) := by decide +kernel
theorem dX0_become_54 : decode cX0_become 54 = .ok (.aload_n 0, 1) := by decide +kernel
theorem dX0_become_55 : decode cX0_become 55 = .ok (.getfield 28, 3) := by decide +kernel
theorem dX0_become_58 : decode cX0_become 58 = .ok (.iload_n 2, 1) := by decide +kernel
theorem dX0_become_59 : decode cX0_become 59 = .ok (.aload_n 1, 1) := by decide +kernel
theorem dX0_become_60 : decode cX0_become 60 = .ok (.getfield 28, 3) := by decide +kernel
theorem dX0_become_63 : decode cX0_become 63 = .ok (.iload_n 2, 1) := by decide +kernel
theorem dX0_become_64 : decode cX0_become 64 = .ok (.iaload, 1) := by decide +kernel
theorem dX0_become_65 : decode cX0_become 65 = .ok (.iastore, 1) := by decide +kernel
theorem dX0_become_66 : decode cX0_become 66 = .ok (.aload_n 0, 1) := by decide +kernel
theorem dX0_become_67 : decode cX0_become 67 = .ok (.getfield 31, 3) := by decide +kernel
theorem dX0_become_70 : decode cX0_become 70 = .ok (.iload_n 2, 1) := by decide +kernel
theorem dX0_become_71 : decode cX0_become 71 = .ok (.aload_n 1, 1) := by decide +kernel
theorem dX0_become_72 : decode cX0_become 72 = .ok (.getfield 31, 3) := by decide +kernel
theorem dX0_become_75 : decode cX0_become 75 = .ok (.iload_n 2, 1) := by decide +kernel
theorem dX0_become_76 : decode cX0_become 76 = .ok (.iaload, 1) := by decide +kernel
theorem dX0_become_77 : decode cX0_become 77 = .ok (.iastore, 1) := by decide +kernel
theorem dX0_become_78 : decode cX0_become 78 = .ok (.aload_n 0, 1) := by decide +kernel
theorem dX0_become_79 : decode cX0_become 79 = .ok (.getfield 34, 3) := by decide +kernel
theorem dX0_become_82 : decode cX0_become 82 = .ok (.iload_n 2, 1) := by decide +kernel
theorem dX0_become_83 : decode cX0_become 83 = .ok (.aload_n 1, 1) := by decide +kernel
theorem dX0_become_84 : decode cX0_become 84 = .ok (.getfield 34, 3) := by decide +kernel
theorem dX0_become_87 : decode cX0_become 87 = .ok (.iload_n 2, 1) := by decide +kernel
theorem dX0_become_88 : decode cX0_become 88 = .ok (.iaload, 1) := by decide +kernel
theorem dX0_become_89 : decode cX0_become 89 = .ok (.iastore, 1) := by decide +kernel
theorem dX0_become_90 : decode cX0_become 90 = .ok (.aload_n 0, 1) := by decide +kernel
theorem dX0_become_91 : decode cX0_become 91 = .ok (.getfield 37, 3) := by decide +kernel
theorem dX0_become_94 : decode cX0_become 94 = .ok (.iload_n 2, 1) := by decide +kernel
theorem dX0_become_95 : decode cX0_become 95 = .ok (.aload_n 1, 1) := by decide +kernel
theorem dX0_become_96 : decode cX0_become 96 = .ok (.getfield 37, 3) := by decide +kernel
theorem dX0_become_99 : decode cX0_become 99 = .ok (.iload_n 2, 1) := by decide +kernel
theorem dX0_become_100 : decode cX0_become 100 = .ok (.iaload, 1) := by decide +kernel
theorem dX0_become_101 : decode cX0_become 101 = .ok (.iastore, 1) := by decide +kernel
theorem dX0_become_102 : decode cX0_become 102 = .ok (.aload_n 0, 1) := by decide +kernel
theorem dX0_become_103 : decode cX0_become 103 = .ok (.getfield 40, 3) := by decide +kernel
theorem dX0_become_106 : decode cX0_become 106 = .ok (.iload_n 2, 1) := by decide +kernel
theorem dX0_become_107 : decode cX0_become 107 = .ok (.aload_n 1, 1) := by decide +kernel
theorem dX0_become_108 : decode cX0_become 108 = .ok (.getfield 40, 3) := by decide +kernel
theorem dX0_become_111 : decode cX0_become 111 = .ok (.iload_n 2, 1) := by decide +kernel
theorem dX0_become_112 : decode cX0_become 112 = .ok (.iaload, 1) := by decide +kernel
theorem dX0_become_113 : decode cX0_become 113 = .ok (.iastore, 1) := by decide +kernel
theorem dX0_become_114 : decode cX0_become 114 = .ok (.aload_n 0, 1) := by decide +kernel
theorem dX0_become_115 : decode cX0_become 115 = .ok (.getfield 43, 3) := by decide +kernel
theorem dX0_become_118 : decode cX0_become 118 = .ok (.iload_n 2, 1) := by decide +kernel
theorem dX0_become_119 : decode cX0_become 119 = .ok (.aload_n 1, 1) := by decide +kernel
theorem dX0_become_120 : decode cX0_become 120 = .ok (.getfield 43, 3) := by decide +kernel
theorem dX0_become_123 : decode cX0_become 123 = .ok (.iload_n 2, 1) := by decide +kernel
theorem dX0_become_124 : decode cX0_become 124 = .ok (.iaload, 1) := by decide +kernel
theorem dX0_become_125 : decode cX0_become 125 = .ok (.iastore, 1) := by decide +kernel
theorem dX0_become_126 : decode cX0_become 126 = .ok (.iinc 2 1, 3) := by decide +kernel
theorem dX0_become_129 : decode cX0_become 129 = .ok (.goto (-95), 3) := by decide +kernel
theorem dX0_become_132 : decode cX0_become 132 = .ok (.aload_n 0, 1) := by decide +kernel
theorem dX0_become_133 : decode cX0_become 133 = .ok (.aload_n 1, 1) := by decide +kernel
theorem dX0_become_134 : decode cX0_become 134 = .ok (.getfield 46, 3) := by decide +kernel
theorem dX0_become_137 : decode cX0_become 137 = .ok (.putfield 46, 3) := by decide +kernel
theorem dX0_become_140 : decode cX0_become 140 = .ok (.iconst 0, 1) := by decide +kernel
theorem dX0_become_141 : decode cX0_become 141 = .ok (.istore_n 2, 1) := by decide +kernel
theorem dX0_become_142 : decode cX0_become 142 = .ok (.iload_n 2, 1) := by decide +kernel
theorem dX0_become_143 : decode cX0_become 143 = .ok (.aload_n 0, 1) := by decide +kernel
theorem dX0_become_144 : decode cX0_become 144 = .ok (.getfield 46, 3) := by decide +kernel
theorem dX0_become_147 : decode cX0_become 147 = .ok (.if_icmp .ge 45, 3) := by decide +kernel
theorem dX0_become_150 : decode cX0_become 150 = .ok (.aload_n 0, 1) := by decide +kernel
theorem dX0_become_151 : decode cX0_become 151 = .ok (.getfield 49, 3) := by decide +kernel
theorem dX0_become_154 : decode cX0_become 154 = .ok (.iload_n 2, 1) := by decide +kernel
theorem dX0_become_155 : decode cX0_become 155 = .ok (.aload_n 1, 1) := by decide +kernel
theorem dX0_become_156 : decode cX0_become 156 = .ok (.getfield 49, 3) := by decide +kernel
theorem dX0_become_159 : decode cX0_become 159 = .ok (.iload_n 2, 1) := by decide +kernel
theorem dX0_become_160 : decode cX0_become 160 = .ok (.iaload, 1) := by decide +kernel
theorem dX0_become_161 : decode cX0_become 161 = .ok (.iastore, 1) := by decide +kernel
theorem dX0_become_162 : decode cX0_become 162 = .ok (.aload_n 0, 1) := by decide +kernel
theorem dX0_become_163 : decode cX0_become 163 = .ok (.getfield 52, 3) := by decide +kernel
theorem dX0_become_166 : decode cX0_become 166 = .ok (.iload_n 2, 1) := by decide +kernel
theorem dX0_become_167 : decode cX0_become 167 = .ok (.aload_n 1, 1) := by decide +kernel
theorem dX0_become_168 : decode cX0_become 168 = .ok (.getfield 52, 3) := by decide +kernel
theorem dX0_become_171 : decode cX0_become 171 = .ok (.iload_n 2, 1) := by decide +kernel
theorem dX0_become_172 : decode cX0_become 172 = .ok (.iaload, 1) := by decide +kernel
theorem dX0_become_173 : decode cX0_become 173 = .ok (.iastore, 1) := by decide +kernel
theorem dX0_become_174 : decode cX0_become 174 = .ok (.aload_n 0, 1) := by decide +kernel
theorem dX0_become_175 : decode cX0_become 175 = .ok (.getfield 55, 3) := by decide +kernel
theorem dX0_become_178 : decode cX0_become 178 = .ok (.iload_n 2, 1) := by decide +kernel
theorem dX0_become_179 : decode cX0_become 179 = .ok (.aload_n 1, 1) := by decide +kernel
theorem dX0_become_180 : decode cX0_become 180 = .ok (.getfield 55, 3) := by decide +kernel
theorem dX0_become_183 : decode cX0_become 183 = .ok (.iload_n 2, 1) := by decide +kernel
theorem dX0_become_184 : decode cX0_become 184 = .ok (.iaload, 1) := by decide +kernel
theorem dX0_become_185 : decode cX0_become 185 = .ok (.iastore, 1) := by decide +kernel
theorem dX0_become_186 : decode cX0_become 186 = .ok (.iinc 2 1, 3) := by decide +kernel
theorem dX0_become_189 : decode cX0_become 189 = .ok (.goto (-47), 3) := by decide +kernel
theorem dX0_become_192 : decode cX0_become 192 = .ok (.return_, 1) := by decide +kernel
theorem dX0_admitGuard_0 : decode cX0_admitGuard 0 = .ok (.aload_n 0, 1) := by decide +kernel
theorem dX0_admitGuard_1 : decode cX0_admitGuard 1 = .ok (.getfield 46, 3) := by decide +kernel
theorem dX0_admitGuard_4 : decode cX0_admitGuard 4 = .ok (.bipush 8, 2) := by decide +kernel
theorem dX0_admitGuard_6 : decode cX0_admitGuard 6 = .ok (.if_icmp .lt 4, 3) := by decide +kernel
theorem dX0_admitGuard_9 : decode cX0_admitGuard 9 = .ok (.return_, 1) := by decide +kernel
theorem dX0_admitGuard_10 : decode cX0_admitGuard 10 = .ok (.aload_n 0, 1) := by decide +kernel
theorem dX0_admitGuard_11 : decode cX0_admitGuard 11 = .ok (.getfield 49, 3) := by decide +kernel
theorem dX0_admitGuard_14 : decode cX0_admitGuard 14 = .ok (.aload_n 0, 1) := by decide +kernel
theorem dX0_admitGuard_15 : decode cX0_admitGuard 15 = .ok (.getfield 46, 3) := by decide +kernel
theorem dX0_admitGuard_18 : decode cX0_admitGuard 18 = .ok (.bipush 9, 2) := by decide +kernel
theorem dX0_admitGuard_20 : decode cX0_admitGuard 20 = .ok (.iastore, 1) := by decide +kernel
theorem dX0_admitGuard_21 : decode cX0_admitGuard 21 = .ok (.aload_n 0, 1) := by decide +kernel
theorem dX0_admitGuard_22 : decode cX0_admitGuard 22 = .ok (.getfield 52, 3) := by decide +kernel
theorem dX0_admitGuard_25 : decode cX0_admitGuard 25 = .ok (.aload_n 0, 1) := by decide +kernel
theorem dX0_admitGuard_26 : decode cX0_admitGuard 26 = .ok (.getfield 46, 3) := by decide +kernel
theorem dX0_admitGuard_29 : decode cX0_admitGuard 29 = .ok (.iconst (-1), 1) := by decide +kernel
theorem dX0_admitGuard_30 : decode cX0_admitGuard 30 = .ok (.iastore, 1) := by decide +kernel
theorem dX0_admitGuard_31 : decode cX0_admitGuard 31 = .ok (.aload_n 0, 1) := by decide +kernel
theorem dX0_admitGuard_32 : decode cX0_admitGuard 32 = .ok (.getfield 55, 3) := by decide +kernel
theorem dX0_admitGuard_35 : decode cX0_admitGuard 35 = .ok (.aload_n 0, 1) := by decide +kernel
theorem dX0_admitGuard_36 : decode cX0_admitGuard 36 = .ok (.getfield 46, 3) := by decide +kernel
theorem dX0_admitGuard_39 : decode cX0_admitGuard 39 = .ok (.iconst 0, 1) := by decide +kernel
theorem dX0_admitGuard_40 : decode cX0_admitGuard 40 = .ok (.iastore, 1) := by decide +kernel
theorem dX0_admitGuard_41 : decode cX0_admitGuard 41 = .ok (.aload_n 0, 1) := by decide +kernel
theorem dX0_admitGuard_42 : decode cX0_admitGuard 42 = .ok (.dup, 1) := by decide +kernel
theorem dX0_admitGuard_43 : decode cX0_admitGuard 43 = .ok (.getfield 46, 3) := by decide +kernel
theorem dX0_admitGuard_46 : decode cX0_admitGuard 46 = .ok (.iconst 1, 1) := by decide +kernel
theorem dX0_admitGuard_47 : decode cX0_admitGuard 47 = .ok (.iadd, 1) := by decide +kernel
theorem dX0_admitGuard_48 : decode cX0_admitGuard 48 = .ok (.putfield 46, 3) := by decide +kernel
theorem dX0_admitGuard_51 : decode cX0_admitGuard 51 = .ok (.return_, 1) := by decide +kernel
theorem dX0_admitTraveller_0 : decode cX0_admitTraveller 0 = .ok (.aload_n 0, 1) := by decide +kernel
theorem dX0_admitTraveller_1 : decode cX0_admitTraveller 1 = .ok (.getfield 21, 3) := by decide +kernel
theorem dX0_admitTraveller_4 : decode cX0_admitTraveller 4 = .ok (.bipush 24, 2) := by decide +kernel
theorem dX0_admitTraveller_6 : decode cX0_admitTraveller 6 = .ok (.if_icmp .lt 4, 3) := by decide +kernel
theorem dX0_admitTraveller_9 : decode cX0_admitTraveller 9 = .ok (.return_, 1) := by decide +kernel
theorem dX0_admitTraveller_10 : decode cX0_admitTraveller 10 = .ok (.aload_n 0, 1) := by decide +kernel
theorem dX0_admitTraveller_11 : decode cX0_admitTraveller 11 = .ok (.getfield 24, 3) := by decide +kernel
theorem dX0_admitTraveller_14 : decode cX0_admitTraveller 14 = .ok (.aload_n 0, 1) := by decide +kernel
theorem dX0_admitTraveller_15 : decode cX0_admitTraveller 15 = .ok (.getfield 21, 3) := by decide +kernel
theorem dX0_admitTraveller_18 : decode cX0_admitTraveller 18 = .ok (.iload_n 1, 1) := by decide +kernel
theorem dX0_admitTraveller_19 : decode cX0_admitTraveller 19 = .ok (.iastore, 1) := by decide +kernel
theorem dX0_admitTraveller_20 : decode cX0_admitTraveller 20 = .ok (.aload_n 0, 1) := by decide +kernel
theorem dX0_admitTraveller_21 : decode cX0_admitTraveller 21 = .ok (.getfield 28, 3) := by decide +kernel
theorem dX0_admitTraveller_24 : decode cX0_admitTraveller 24 = .ok (.aload_n 0, 1) := by decide +kernel
theorem dX0_admitTraveller_25 : decode cX0_admitTraveller 25 = .ok (.getfield 21, 3) := by decide +kernel
theorem dX0_admitTraveller_28 : decode cX0_admitTraveller 28 = .ok (.iload_n 2, 1) := by decide +kernel
theorem dX0_admitTraveller_29 : decode cX0_admitTraveller 29 = .ok (.iastore, 1) := by decide +kernel
theorem dX0_admitTraveller_30 : decode cX0_admitTraveller 30 = .ok (.aload_n 0, 1) := by decide +kernel
theorem dX0_admitTraveller_31 : decode cX0_admitTraveller 31 = .ok (.getfield 31, 3) := by decide +kernel
theorem dX0_admitTraveller_34 : decode cX0_admitTraveller 34 = .ok (.aload_n 0, 1) := by decide +kernel
theorem dX0_admitTraveller_35 : decode cX0_admitTraveller 35 = .ok (.getfield 21, 3) := by decide +kernel
theorem dX0_admitTraveller_38 : decode cX0_admitTraveller 38 = .ok (.iload_n 3, 1) := by decide +kernel
theorem dX0_admitTraveller_39 : decode cX0_admitTraveller 39 = .ok (.iastore, 1) := by decide +kernel
theorem dX0_admitTraveller_40 : decode cX0_admitTraveller 40 = .ok (.aload_n 0, 1) := by decide +kernel
theorem dX0_admitTraveller_41 : decode cX0_admitTraveller 41 = .ok (.getfield 34, 3) := by decide +kernel
theorem dX0_admitTraveller_44 : decode cX0_admitTraveller 44 = .ok (.aload_n 0, 1) := by decide +kernel
theorem dX0_admitTraveller_45 : decode cX0_admitTraveller 45 = .ok (.getfield 21, 3) := by decide +kernel
theorem dX0_admitTraveller_48 : decode cX0_admitTraveller 48 = .ok (.iload 4, 2) := by decide +kernel
theorem dX0_admitTraveller_50 : decode cX0_admitTraveller 50 = .ok (.iastore, 1) := by decide +kernel
theorem dX0_admitTraveller_51 : decode cX0_admitTraveller 51 = .ok (.aload_n 0, 1) := by decide +kernel
theorem dX0_admitTraveller_52 : decode cX0_admitTraveller 52 = .ok (.getfield 37, 3) := by decide +kernel
theorem dX0_admitTraveller_55 : decode cX0_admitTraveller 55 = .ok (.aload_n 0, 1) := by decide +kernel
theorem dX0_admitTraveller_56 : decode cX0_admitTraveller 56 = .ok (.getfield 21, 3) := by decide +kernel
theorem dX0_admitTraveller_59 : decode cX0_admitTraveller 59 = .ok (.iconst 0, 1) := by decide +kernel
theorem dX0_admitTraveller_60 : decode cX0_admitTraveller 60 = .ok (.iastore, 1) := by decide +kernel
theorem dX0_admitTraveller_61 : decode cX0_admitTraveller 61 = .ok (.aload_n 0, 1) := by decide +kernel
theorem dX0_admitTraveller_62 : decode cX0_admitTraveller 62 = .ok (.dup, 1) := by decide +kernel
theorem dX0_admitTraveller_63 : decode cX0_admitTraveller 63 = .ok (.getfield 21, 3) := by decide +kernel
theorem dX0_admitTraveller_66 : decode cX0_admitTraveller 66 = .ok (.iconst 1, 1) := by decide +kernel
theorem dX0_admitTraveller_67 : decode cX0_admitTraveller 67 = .ok (.iadd, 1) := by decide +kernel
theorem dX0_admitTraveller_68 : decode cX0_admitTraveller 68 = .ok (.putfield 21, 3) := by decide +kernel
theorem dX0_admitTraveller_71 : decode cX0_admitTraveller 71 = .ok (.return_, 1) := by decide +kernel
theorem dX0_isTraveller_0 : decode cX0_isTraveller 0 = .ok (.iload_n 1, 1) := by decide +kernel
theorem dX0_isTraveller_1 : decode cX0_isTraveller 1 = .ok (.ifCond .lt 15, 3) := by decide +kernel
theorem dX0_isTraveller_4 : decode cX0_isTraveller 4 = .ok (.iload_n 1, 1) := by decide +kernel
theorem dX0_isTraveller_5 : decode cX0_isTraveller 5 = .ok (.aload_n 0, 1) := by decide +kernel
theorem dX0_isTraveller_6 : decode cX0_isTraveller 6 = .ok (.getfield 21, 3) := by decide +kernel
theorem dX0_isTraveller_9 : decode cX0_isTraveller 9 = .ok (.if_icmp .ge 7, 3) := by decide +kernel
theorem dX0_isTraveller_12 : decode cX0_isTraveller 12 = .ok (.iconst 1, 1) := by decide +kernel
theorem dX0_isTraveller_13 : decode cX0_isTraveller 13 = .ok (.goto 4, 3) := by decide +kernel
theorem dX0_isTraveller_16 : decode cX0_isTraveller 16 = .ok (.iconst 0, 1) := by decide +kernel
theorem dX0_isTraveller_17 : decode cX0_isTraveller 17 = .ok (.ireturn, 1) := by decide +kernel
theorem dX0_isGuard_0 : decode cX0_isGuard 0 = .ok (.iload_n 1, 1) := by decide +kernel
theorem dX0_isGuard_1 : decode cX0_isGuard 1 = .ok (.ifCond .lt 15, 3) := by decide +kernel
theorem dX0_isGuard_4 : decode cX0_isGuard 4 = .ok (.iload_n 1, 1) := by decide +kernel
theorem dX0_isGuard_5 : decode cX0_isGuard 5 = .ok (.aload_n 0, 1) := by decide +kernel
theorem dX0_isGuard_6 : decode cX0_isGuard 6 = .ok (.getfield 46, 3) := by decide +kernel
theorem dX0_isGuard_9 : decode cX0_isGuard 9 = .ok (.if_icmp .ge 7, 3) := by decide +kernel
theorem dX0_isGuard_12 : decode cX0_isGuard 12 = .ok (.iconst 1, 1) := by decide +kernel
theorem dX0_isGuard_13 : decode cX0_isGuard 13 = .ok (.goto 4, 3) := by decide +kernel
theorem dX0_isGuard_16 : decode cX0_isGuard 16 = .ok (.iconst 0, 1) := by decide +kernel
theorem dX0_isGuard_17 : decode cX0_isGuard 17 = .ok (.ireturn, 1) := by decide +kernel
theorem dX0_countIn_0 : decode cX0_countIn 0 = .ok (.iconst 0, 1) := by decide +kernel
theorem dX0_countIn_1 : decode cX0_countIn 1 = .ok (.istore_n 2, 1) := by decide +kernel
theorem dX0_countIn_2 : decode cX0_countIn 2 = .ok (.iconst 0, 1) := by decide +kernel
theorem dX0_countIn_3 : decode cX0_countIn 3 = .ok (.istore_n 3, 1) := by decide +kernel
theorem dX0_countIn_4 : decode cX0_countIn 4 = .ok (.iload_n 3, 1) := by decide +kernel
theorem dX0_countIn_5 : decode cX0_countIn 5 = .ok (.aload_n 0, 1) := by decide +kernel
theorem dX0_countIn_6 : decode cX0_countIn 6 = .ok (.getfield 21, 3) := by decide +kernel
theorem dX0_countIn_9 : decode cX0_countIn 9 = .ok (.if_icmp .ge 22, 3) := by decide +kernel
theorem dX0_countIn_12 : decode cX0_countIn 12 = .ok (.aload_n 0, 1) := by decide +kernel
theorem dX0_countIn_13 : decode cX0_countIn 13 = .ok (.getfield 37, 3) := by decide +kernel
theorem dX0_countIn_16 : decode cX0_countIn 16 = .ok (.iload_n 3, 1) := by decide +kernel
theorem dX0_countIn_17 : decode cX0_countIn 17 = .ok (.iaload, 1) := by decide +kernel
theorem dX0_countIn_18 : decode cX0_countIn 18 = .ok (.iload_n 1, 1) := by decide +kernel
theorem dX0_countIn_19 : decode cX0_countIn 19 = .ok (.if_icmp .ne 6, 3) := by decide +kernel
theorem dX0_countIn_22 : decode cX0_countIn 22 = .ok (.iinc 2 1, 3) := by decide +kernel
theorem dX0_countIn_25 : decode cX0_countIn 25 = .ok (.iinc 3 1, 3) := by decide +kernel
theorem dX0_countIn_28 : decode cX0_countIn 28 = .ok (.goto (-24), 3) := by decide +kernel
theorem dX0_countIn_31 : decode cX0_countIn 31 = .ok (.iload_n 2, 1) := by decide +kernel
theorem dX0_countIn_32 : decode cX0_countIn 32 = .ok (.ireturn, 1) := by decide +kernel
theorem dX0_waitingAhead_0 : decode cX0_waitingAhead 0 = .ok (.iconst 0, 1) := by decide +kernel
theorem dX0_waitingAhead_1 : decode cX0_waitingAhead 1 = .ok (.istore_n 2, 1) := by decide +kernel
theorem dX0_waitingAhead_2 : decode cX0_waitingAhead 2 = .ok (.iconst 0, 1) := by decide +kernel
theorem dX0_waitingAhead_3 : decode cX0_waitingAhead 3 = .ok (.istore_n 3, 1) := by decide +kernel
theorem dX0_waitingAhead_4 : decode cX0_waitingAhead 4 = .ok (.iload_n 3, 1) := by decide +kernel
theorem dX0_waitingAhead_5 : decode cX0_waitingAhead 5 = .ok (.aload_n 0, 1) := by decide +kernel
theorem dX0_waitingAhead_6 : decode cX0_waitingAhead 6 = .ok (.getfield 21, 3) := by decide +kernel
theorem dX0_waitingAhead_9 : decode cX0_waitingAhead 9 = .ok (.if_icmp .ge 26, 3) := by decide +kernel
theorem dX0_waitingAhead_12 : decode cX0_waitingAhead 12 = .ok (.iload_n 3, 1) := by decide +kernel
theorem dX0_waitingAhead_13 : decode cX0_waitingAhead 13 = .ok (.iload_n 1, 1) := by decide +kernel
theorem dX0_waitingAhead_14 : decode cX0_waitingAhead 14 = .ok (.if_icmp .ge 21, 3) := by decide +kernel
theorem dX0_waitingAhead_17 : decode cX0_waitingAhead 17 = .ok (.aload_n 0, 1) := by decide +kernel
theorem dX0_waitingAhead_18 : decode cX0_waitingAhead 18 = .ok (.getfield 37, 3) := by decide +kernel
theorem dX0_waitingAhead_21 : decode cX0_waitingAhead 21 = .ok (.iload_n 3, 1) := by decide +kernel
theorem dX0_waitingAhead_22 : decode cX0_waitingAhead 22 = .ok (.iaload, 1) := by decide +kernel
theorem dX0_waitingAhead_23 : decode cX0_waitingAhead 23 = .ok (.ifCond .ne 6, 3) := by decide +kernel
theorem dX0_waitingAhead_26 : decode cX0_waitingAhead 26 = .ok (.iinc 2 1, 3) := by decide +kernel
theorem dX0_waitingAhead_29 : decode cX0_waitingAhead 29 = .ok (.iinc 3 1, 3) := by decide +kernel
theorem dX0_waitingAhead_32 : decode cX0_waitingAhead 32 = .ok (.goto (-28), 3) := by decide +kernel
theorem dX0_waitingAhead_35 : decode cX0_waitingAhead 35 = .ok (.iload_n 2, 1) := by decide +kernel
theorem dX0_waitingAhead_36 : decode cX0_waitingAhead 36 = .ok (.ireturn, 1) := by decide +kernel
theorem dX0_firstWaiting_0 : decode cX0_firstWaiting 0 = .ok (.iconst 0, 1) := by decide +kernel
theorem dX0_firstWaiting_1 : decode cX0_firstWaiting 1 = .ok (.istore_n 1, 1) := by decide +kernel
theorem dX0_firstWaiting_2 : decode cX0_firstWaiting 2 = .ok (.iload_n 1, 1) := by decide +kernel
theorem dX0_firstWaiting_3 : decode cX0_firstWaiting 3 = .ok (.aload_n 0, 1) := by decide +kernel
theorem dX0_firstWaiting_4 : decode cX0_firstWaiting 4 = .ok (.getfield 21, 3) := by decide +kernel
theorem dX0_firstWaiting_7 : decode cX0_firstWaiting 7 = .ok (.if_icmp .ge 20, 3) := by decide +kernel
theorem dX0_firstWaiting_10 : decode cX0_firstWaiting 10 = .ok (.aload_n 0, 1) := by decide +kernel
theorem dX0_firstWaiting_11 : decode cX0_firstWaiting 11 = .ok (.getfield 37, 3) := by decide +kernel
theorem dX0_firstWaiting_14 : decode cX0_firstWaiting 14 = .ok (.iload_n 1, 1) := by decide +kernel
theorem dX0_firstWaiting_15 : decode cX0_firstWaiting 15 = .ok (.iaload, 1) := by decide +kernel
theorem dX0_firstWaiting_16 : decode cX0_firstWaiting 16 = .ok (.ifCond .ne 5, 3) := by decide +kernel
theorem dX0_firstWaiting_19 : decode cX0_firstWaiting 19 = .ok (.iload_n 1, 1) := by decide +kernel
theorem dX0_firstWaiting_20 : decode cX0_firstWaiting 20 = .ok (.ireturn, 1) := by decide +kernel
theorem dX0_firstWaiting_21 : decode cX0_firstWaiting 21 = .ok (.iinc 1 1, 3) := by decide +kernel
theorem dX0_firstWaiting_24 : decode cX0_firstWaiting 24 = .ok (.goto (-22), 3) := by decide +kernel
theorem dX0_firstWaiting_27 : decode cX0_firstWaiting 27 = .ok (.iconst (-1), 1) := by decide +kernel
theorem dX0_firstWaiting_28 : decode cX0_firstWaiting 28 = .ok (.ireturn, 1) := by decide +kernel
theorem dX0_addedSnores_0 : decode cX0_addedSnores 0 = .ok (.iconst 0, 1) := by decide +kernel
theorem dX0_addedSnores_1 : decode cX0_addedSnores 1 = .ok (.istore_n 1, 1) := by decide +kernel
theorem dX0_addedSnores_2 : decode cX0_addedSnores 2 = .ok (.iconst 0, 1) := by decide +kernel
theorem dX0_addedSnores_3 : decode cX0_addedSnores 3 = .ok (.istore_n 2, 1) := by decide +kernel
theorem dX0_addedSnores_4 : decode cX0_addedSnores 4 = .ok (.iload_n 2, 1) := by decide +kernel
theorem dX0_addedSnores_5 : decode cX0_addedSnores 5 = .ok (.aload_n 0, 1) := by decide +kernel
theorem dX0_addedSnores_6 : decode cX0_addedSnores 6 = .ok (.getfield 21, 3) := by decide +kernel
theorem dX0_addedSnores_9 : decode cX0_addedSnores 9 = .ok (.if_icmp .ge 28, 3) := by decide +kernel
theorem dX0_addedSnores_12 : decode cX0_addedSnores 12 = .ok (.aload_n 0, 1) := by decide +kernel
theorem dX0_addedSnores_13 : decode cX0_addedSnores 13 = .ok (.getfield 37, 3) := by decide +kernel
theorem dX0_addedSnores_16 : decode cX0_addedSnores 16 = .ok (.iload_n 2, 1) := by decide +kernel
theorem dX0_addedSnores_17 : decode cX0_addedSnores 17 = .ok (.iaload, 1) := by decide +kernel
theorem dX0_addedSnores_18 : decode cX0_addedSnores 18 = .ok (.iconst 2, 1) := by decide +kernel
theorem dX0_addedSnores_19 : decode cX0_addedSnores 19 = .ok (.if_icmp .ne 12, 3) := by decide +kernel
theorem dX0_addedSnores_22 : decode cX0_addedSnores 22 = .ok (.iload_n 1, 1) := by decide +kernel
theorem dX0_addedSnores_23 : decode cX0_addedSnores 23 = .ok (.aload_n 0, 1) := by decide +kernel
theorem dX0_addedSnores_24 : decode cX0_addedSnores 24 = .ok (.getfield 31, 3) := by decide +kernel
theorem dX0_addedSnores_27 : decode cX0_addedSnores 27 = .ok (.iload_n 2, 1) := by decide +kernel
theorem dX0_addedSnores_28 : decode cX0_addedSnores 28 = .ok (.iaload, 1) := by decide +kernel
theorem dX0_addedSnores_29 : decode cX0_addedSnores 29 = .ok (.iadd, 1) := by decide +kernel
theorem dX0_addedSnores_30 : decode cX0_addedSnores 30 = .ok (.istore_n 1, 1) := by decide +kernel
theorem dX0_addedSnores_31 : decode cX0_addedSnores 31 = .ok (.iinc 2 1, 3) := by decide +kernel
theorem dX0_addedSnores_34 : decode cX0_addedSnores 34 = .ok (.goto (-30), 3) := by decide +kernel
theorem dX0_addedSnores_37 : decode cX0_addedSnores 37 = .ok (.iload_n 1, 1) := by decide +kernel
theorem dX0_addedSnores_38 : decode cX0_addedSnores 38 = .ok (.ireturn, 1) := by decide +kernel
theorem dX0_hiddenDreams_0 : decode cX0_hiddenDreams 0 = .ok (.aload_n 0, 1) := by decide +kernel
theorem dX0_hiddenDreams_1 : decode cX0_hiddenDreams 1 = .ok (.getfield 24, 3) := by decide +kernel
theorem dX0_hiddenDreams_4 : decode cX0_hiddenDreams 4 = .ok (.iload_n 1, 1) := by decide +kernel
theorem dX0_hiddenDreams_5 : decode cX0_hiddenDreams 5 = .ok (.iaload, 1) := by decide +kernel
theorem dX0_hiddenDreams_6 : decode cX0_hiddenDreams 6 = .ok (.aload_n 0, 1) := by decide +kernel
theorem dX0_hiddenDreams_7 : decode cX0_hiddenDreams 7 = .ok (.getfield 28, 3) := by decide +kernel
theorem dX0_hiddenDreams_10 : decode cX0_hiddenDreams 10 = .ok (.iload_n 1, 1) := by decide +kernel
theorem dX0_hiddenDreams_11 : decode cX0_hiddenDreams 11 = .ok (.iaload, 1) := by decide +kernel
theorem dX0_hiddenDreams_12 : decode cX0_hiddenDreams 12 = .ok (.isub, 1) := by decide +kernel
theorem dX0_hiddenDreams_13 : decode cX0_hiddenDreams 13 = .ok (.iconst 0, 1) := by decide +kernel
theorem dX0_hiddenDreams_14 : decode cX0_hiddenDreams 14 = .ok (.invokestatic 58, 3) := by decide +kernel
theorem dX0_hiddenDreams_17 : decode cX0_hiddenDreams 17 = .ok (.ireturn, 1) := by decide +kernel
set_option maxRecDepth 20000 in
theorem ggX0_searchMinutes_X0_addedSnores : GoodIn wsX0_searchMinutes wsX0_addedSnores := goodIn_r _ [6, 7, 8, 9, 10, 11, 12, 13, 14, 15, 16, 17, 18, 19, 20, 21, 22, 23, 24] (by decide +kernel) (by decide +kernel)
set_option maxRecDepth 20000 in
theorem gX0_searchMinutes_X0_addedSnores : GoodIn wsX0_searchMinutes (wsV RX0 64 RX0 yX0_addedSnores wsX0_addedSnores) := goodIn_app (goodIn_of _ (by decide +kernel)) ggX0_searchMinutes_X0_addedSnores
theorem dX0_searchMinutes_0 : decode cX0_searchMinutes 0 = .ok (.iconst 2, 1) := by decide +kernel
theorem dX0_searchMinutes_1 : decode cX0_searchMinutes 1 = .ok (.aload_n 0, 1) := by decide +kernel
theorem dX0_searchMinutes_2 : decode cX0_searchMinutes 2 = .ok (.getfield 28, 3) := by decide +kernel
theorem dX0_searchMinutes_5 : decode cX0_searchMinutes 5 = .ok (.iload_n 1, 1) := by decide +kernel
theorem dX0_searchMinutes_6 : decode cX0_searchMinutes 6 = .ok (.iaload, 1) := by decide +kernel
theorem dX0_searchMinutes_7 : decode cX0_searchMinutes 7 = .ok (.iadd, 1) := by decide +kernel
theorem dX0_searchMinutes_8 : decode cX0_searchMinutes 8 = .ok (.aload_n 0, 1) := by decide +kernel
theorem dX0_searchMinutes_9 : decode cX0_searchMinutes 9 = .ok (.invokevirtual 64, 3) := by decide +kernel
theorem dX0_searchMinutes_12 : decode cX0_searchMinutes 12 = .ok (.iconst 4, 1) := by decide +kernel
theorem dX0_searchMinutes_13 : decode cX0_searchMinutes 13 = .ok (.idiv, 1) := by decide +kernel
theorem dX0_searchMinutes_14 : decode cX0_searchMinutes 14 = .ok (.iadd, 1) := by decide +kernel
theorem dX0_searchMinutes_15 : decode cX0_searchMinutes 15 = .ok (.ireturn, 1) := by decide +kernel
set_option maxRecDepth 20000 in
theorem ggX0_finds_X0_hiddenDreams : GoodIn wsX0_finds wsX0_hiddenDreams := goodIn_r _ [6, 7, 8, 9, 10, 11, 12, 13, 14, 15, 16, 17, 18, 19, 20, 21, 22, 23, 24, 25, 26, 27] (by decide +kernel) (by decide +kernel)
set_option maxRecDepth 20000 in
theorem gX0_finds_X0_hiddenDreams : GoodIn wsX0_finds (wsV RX0 68 RX0 yX0_hiddenDreams wsX0_hiddenDreams) := goodIn_app (goodIn_of _ (by decide +kernel)) ggX0_finds_X0_hiddenDreams
theorem dX0_finds_0 : decode cX0_finds 0 = .ok (.aload_n 0, 1) := by decide +kernel
theorem dX0_finds_1 : decode cX0_finds 1 = .ok (.iload_n 2, 1) := by decide +kernel
theorem dX0_finds_2 : decode cX0_finds 2 = .ok (.invokevirtual 68, 3) := by decide +kernel
theorem dX0_finds_5 : decode cX0_finds 5 = .ok (.istore_n 3, 1) := by decide +kernel
theorem dX0_finds_6 : decode cX0_finds 6 = .ok (.iload_n 3, 1) := by decide +kernel
theorem dX0_finds_7 : decode cX0_finds 7 = .ok (.ifCond .le 20, 3) := by decide +kernel
theorem dX0_finds_10 : decode cX0_finds 10 = .ok (.iload_n 3, 1) := by decide +kernel
theorem dX0_finds_11 : decode cX0_finds 11 = .ok (.aload_n 0, 1) := by decide +kernel
theorem dX0_finds_12 : decode cX0_finds 12 = .ok (.getfield 49, 3) := by decide +kernel
theorem dX0_finds_15 : decode cX0_finds 15 = .ok (.iload_n 1, 1) := by decide +kernel
theorem dX0_finds_16 : decode cX0_finds 16 = .ok (.iaload, 1) := by decide +kernel
theorem dX0_finds_17 : decode cX0_finds 17 = .ok (.iadd, 1) := by decide +kernel
theorem dX0_finds_18 : decode cX0_finds 18 = .ok (.bipush 10, 2) := by decide +kernel
theorem dX0_finds_20 : decode cX0_finds 20 = .ok (.if_icmp .lt 7, 3) := by decide +kernel
theorem dX0_finds_23 : decode cX0_finds 23 = .ok (.iconst 1, 1) := by decide +kernel
theorem dX0_finds_24 : decode cX0_finds 24 = .ok (.goto 4, 3) := by decide +kernel
theorem dX0_finds_27 : decode cX0_finds 27 = .ok (.iconst 0, 1) := by decide +kernel
theorem dX0_finds_28 : decode cX0_finds 28 = .ok (.ireturn, 1) := by decide +kernel
set_option maxRecDepth 20000 in
theorem ggX0_goOn_X0_isSettled : GoodIn wsX0_goOn wsX0_isSettled := goodIn_r _ [5, 6, 7, 76, 77, 78, 79, 80, 81, 82, 83, 84, 85, 86, 87, 88, 89, 90] (by decide +kernel) (by decide +kernel)
set_option maxRecDepth 20000 in
theorem gX0_goOn_X0_isSettled : GoodIn wsX0_goOn (wsV RX0 72 RX0 yX0_isSettled wsX0_isSettled) := goodIn_app (goodIn_of _ (by decide +kernel)) ggX0_goOn_X0_isSettled
set_option maxRecDepth 20000 in
theorem ggX0_goOn_X0_goOneMinute : GoodIn wsX0_goOn wsX0_goOneMinute := goodIn_r _ [11, 12, 13, 14, 15, 16, 4, 17, 6, 7, 18, 19, 20, 21, 22, 23, 24, 25, 26, 27, 28, 29, 30, 31, 32, 33, 34, 35, 36, 37, 38, 39, 40, 41, 42, 43, 44, 45, 46, 47, 48, 49, 50, 51, 52, 53, 54, 55, 56, 57, 58, 59, 60, 61, 62, 63, 64, 65, 66, 67, 68, 69, 70, 71, 72, 73, 74, 75, 76, 77, 78, 79, 80, 81, 82, 83, 84, 85, 86, 87, 88, 89, 90] (by decide +kernel) (by decide +kernel)
set_option maxRecDepth 20000 in
theorem gX0_goOn_X0_goOneMinute : GoodIn wsX0_goOn (wsV RX0 76 RX0 yX0_goOneMinute wsX0_goOneMinute) := goodIn_app (goodIn_of _ (by decide +kernel)) ggX0_goOn_X0_goOneMinute
theorem dX0_goOn_0 : decode cX0_goOn 0 = .ok (.iconst 0, 1) := by decide +kernel
theorem dX0_goOn_1 : decode cX0_goOn 1 = .ok (.istore_n 2, 1) := by decide +kernel
theorem dX0_goOn_2 : decode cX0_goOn 2 = .ok (.iload_n 2, 1) := by decide +kernel
theorem dX0_goOn_3 : decode cX0_goOn 3 = .ok (.iload_n 1, 1) := by decide +kernel
theorem dX0_goOn_4 : decode cX0_goOn 4 = .ok (.if_icmp .ge 20, 3) := by decide +kernel
theorem dX0_goOn_7 : decode cX0_goOn 7 = .ok (.aload_n 0, 1) := by decide +kernel
theorem dX0_goOn_8 : decode cX0_goOn 8 = .ok (.invokevirtual 72, 3) := by decide +kernel
theorem dX0_goOn_11 : decode cX0_goOn 11 = .ok (.ifCond .ne 13, 3) := by decide +kernel
theorem dX0_goOn_14 : decode cX0_goOn 14 = .ok (.aload_n 0, 1) := by decide +kernel
theorem dX0_goOn_15 : decode cX0_goOn 15 = .ok (.invokevirtual 76, 3) := by decide +kernel
theorem dX0_goOn_18 : decode cX0_goOn 18 = .ok (.iinc 2 1, 3) := by decide +kernel
theorem dX0_goOn_21 : decode cX0_goOn 21 = .ok (.goto (-19), 3) := by decide +kernel
theorem dX0_goOn_24 : decode cX0_goOn 24 = .ok (.return_, 1) := by decide +kernel
theorem dX0_isSettled_0 : decode cX0_isSettled 0 = .ok (.iconst 0, 1) := by decide +kernel
theorem dX0_isSettled_1 : decode cX0_isSettled 1 = .ok (.istore_n 1, 1) := by decide +kernel
theorem dX0_isSettled_2 : decode cX0_isSettled 2 = .ok (.iload_n 1, 1) := by decide +kernel
theorem dX0_isSettled_3 : decode cX0_isSettled 3 = .ok (.aload_n 0, 1) := by decide +kernel
theorem dX0_isSettled_4 : decode cX0_isSettled 4 = .ok (.getfield 21, 3) := by decide +kernel
theorem dX0_isSettled_7 : decode cX0_isSettled 7 = .ok (.if_icmp .ge 31, 3) := by decide +kernel
theorem dX0_isSettled_10 : decode cX0_isSettled 10 = .ok (.aload_n 0, 1) := by decide +kernel
theorem dX0_isSettled_11 : decode cX0_isSettled 11 = .ok (.getfield 37, 3) := by decide +kernel
theorem dX0_isSettled_14 : decode cX0_isSettled 14 = .ok (.iload_n 1, 1) := by decide +kernel
theorem dX0_isSettled_15 : decode cX0_isSettled 15 = .ok (.iaload, 1) := by decide +kernel
theorem dX0_isSettled_16 : decode cX0_isSettled 16 = .ok (.iconst 3, 1) := by decide +kernel
theorem dX0_isSettled_17 : decode cX0_isSettled 17 = .ok (.if_icmp .eq 15, 3) := by decide +kernel
theorem dX0_isSettled_20 : decode cX0_isSettled 20 = .ok (.aload_n 0, 1) := by decide +kernel
theorem dX0_isSettled_21 : decode cX0_isSettled 21 = .ok (.getfield 37, 3) := by decide +kernel
theorem dX0_isSettled_24 : decode cX0_isSettled 24 = .ok (.iload_n 1, 1) := by decide +kernel
theorem dX0_isSettled_25 : decode cX0_isSettled 25 = .ok (.iaload, 1) := by decide +kernel
theorem dX0_isSettled_26 : decode cX0_isSettled 26 = .ok (.iconst 4, 1) := by decide +kernel
theorem dX0_isSettled_27 : decode cX0_isSettled 27 = .ok (.if_icmp .eq 5, 3) := by decide +kernel
theorem dX0_isSettled_30 : decode cX0_isSettled 30 = .ok (.iconst 0, 1) := by decide +kernel
theorem dX0_isSettled_31 : decode cX0_isSettled 31 = .ok (.ireturn, 1) := by decide +kernel
theorem dX0_isSettled_32 : decode cX0_isSettled 32 = .ok (.iinc 1 1, 3) := by decide +kernel
theorem dX0_isSettled_35 : decode cX0_isSettled 35 = .ok (.goto (-33), 3) := by decide +kernel
theorem dX0_isSettled_38 : decode cX0_isSettled 38 = .ok (.iconst 1, 1) := by decide +kernel
theorem dX0_isSettled_39 : decode cX0_isSettled 39 = .ok (.ireturn, 1) := by decide +kernel
set_option maxRecDepth 20000 in
theorem ggX0_goOneMinute_X0_advanceTransits : GoodIn wsX0_goOneMinute wsX0_advanceTransits := goodIn_r _ [7, 8, 9, 10, 11, 2, 68, 69, 70, 71, 72, 73, 74, 75, 76, 77, 78, 79, 80, 81, 82] (by decide +kernel) (by decide +kernel)
set_option maxRecDepth 20000 in
theorem gX0_goOneMinute_X0_advanceTransits : GoodIn wsX0_goOneMinute (wsV RX0 79 RX0 yX0_advanceTransits wsX0_advanceTransits) := goodIn_app (goodIn_of _ (by decide +kernel)) ggX0_goOneMinute_X0_advanceTransits
set_option maxRecDepth 20000 in
theorem ggX0_goOneMinute_X0_shortenLullabies : GoodIn wsX0_goOneMinute wsX0_shortenLullabies := goodIn_r _ [15, 8, 9, 16, 17, 68, 69, 70, 71, 72, 73, 74, 75, 76, 77, 78, 79, 80, 81, 82] (by decide +kernel) (by decide +kernel)
set_option maxRecDepth 20000 in
theorem gX0_goOneMinute_X0_shortenLullabies : GoodIn wsX0_goOneMinute (wsV RX0 82 RX0 yX0_shortenLullabies wsX0_shortenLullabies) := goodIn_app (goodIn_of _ (by decide +kernel)) ggX0_goOneMinute_X0_shortenLullabies
set_option maxRecDepth 20000 in
theorem ggX0_goOneMinute_X0_work : GoodIn wsX0_goOneMinute wsX0_work := goodIn_r _ [21, 22, 23, 24, 25, 26, 27, 28, 29, 30, 6, 31, 8, 32, 33, 34, 35, 36, 37, 9, 10, 38, 39, 40, 41, 42, 43, 44, 45, 46, 47, 48, 49, 50, 51, 52, 53, 54, 55, 56, 57, 58, 59, 60, 61, 62, 63, 64, 65, 66, 67, 68, 69, 70, 71, 72, 73, 74, 75, 76, 77, 78, 79, 80, 81, 82] (by decide +kernel) (by decide +kernel)
set_option maxRecDepth 20000 in
theorem gX0_goOneMinute_X0_work : GoodIn wsX0_goOneMinute (wsV RX0 85 RX0 yX0_work wsX0_work) := goodIn_app (goodIn_of _ (by decide +kernel)) ggX0_goOneMinute_X0_work
theorem dX0_goOneMinute_0 : decode cX0_goOneMinute 0 = .ok (.aload_n 0, 1) := by decide +kernel
theorem dX0_goOneMinute_1 : decode cX0_goOneMinute 1 = .ok (.invokevirtual 79, 3) := by decide +kernel
theorem dX0_goOneMinute_4 : decode cX0_goOneMinute 4 = .ok (.aload_n 0, 1) := by decide +kernel
theorem dX0_goOneMinute_5 : decode cX0_goOneMinute 5 = .ok (.invokevirtual 82, 3) := by decide +kernel
theorem dX0_goOneMinute_8 : decode cX0_goOneMinute 8 = .ok (.iconst 0, 1) := by decide +kernel
theorem dX0_goOneMinute_9 : decode cX0_goOneMinute 9 = .ok (.istore_n 1, 1) := by decide +kernel
theorem dX0_goOneMinute_10 : decode cX0_goOneMinute 10 = .ok (.iload_n 1, 1) := by decide +kernel
theorem dX0_goOneMinute_11 : decode cX0_goOneMinute 11 = .ok (.aload_n 0, 1) := by decide +kernel
theorem dX0_goOneMinute_12 : decode cX0_goOneMinute 12 = .ok (.getfield 46, 3) := by decide +kernel
theorem dX0_goOneMinute_15 : decode cX0_goOneMinute 15 = .ok (.if_icmp .ge 14, 3) := by decide +kernel
theorem dX0_goOneMinute_18 : decode cX0_goOneMinute 18 = .ok (.aload_n 0, 1) := by decide +kernel
theorem dX0_goOneMinute_19 : decode cX0_goOneMinute 19 = .ok (.iload_n 1, 1) := by decide +kernel
theorem dX0_goOneMinute_20 : decode cX0_goOneMinute 20 = .ok (.invokevirtual 85, 3) := by decide +kernel
theorem dX0_goOneMinute_23 : decode cX0_goOneMinute 23 = .ok (.iinc 1 1, 3) := by decide +kernel
theorem dX0_goOneMinute_26 : decode cX0_goOneMinute 26 = .ok (.goto (-16), 3) := by decide +kernel
theorem dX0_goOneMinute_29 : decode cX0_goOneMinute 29 = .ok (.aload_n 0, 1) := by decide +kernel
theorem dX0_goOneMinute_30 : decode cX0_goOneMinute 30 = .ok (.dup, 1) := by decide +kernel
theorem dX0_goOneMinute_31 : decode cX0_goOneMinute 31 = .ok (.getfield 9, 3) := by decide +kernel
theorem dX0_goOneMinute_34 : decode cX0_goOneMinute 34 = .ok (.iconst 1, 1) := by decide +kernel
theorem dX0_goOneMinute_35 : decode cX0_goOneMinute 35 = .ok (.iadd, 1) := by decide +kernel
theorem dX0_goOneMinute_36 : decode cX0_goOneMinute 36 = .ok (.putfield 9, 3) := by decide +kernel
theorem dX0_goOneMinute_39 : decode cX0_goOneMinute 39 = .ok (.return_, 1) := by decide +kernel
theorem dX0_advanceTransits_0 : decode cX0_advanceTransits 0 = .ok (.iconst 0, 1) := by decide +kernel
theorem dX0_advanceTransits_1 : decode cX0_advanceTransits 1 = .ok (.istore_n 1, 1) := by decide +kernel
theorem dX0_advanceTransits_2 : decode cX0_advanceTransits 2 = .ok (.iload_n 1, 1) := by decide +kernel
theorem dX0_advanceTransits_3 : decode cX0_advanceTransits 3 = .ok (.aload_n 0, 1) := by decide +kernel
theorem dX0_advanceTransits_4 : decode cX0_advanceTransits 4 = .ok (.getfield 21, 3) := by decide +kernel
theorem dX0_advanceTransits_7 : decode cX0_advanceTransits 7 = .ok (.if_icmp .ge 57, 3) := by decide +kernel
theorem dX0_advanceTransits_10 : decode cX0_advanceTransits 10 = .ok (.aload_n 0, 1) := by decide +kernel
theorem dX0_advanceTransits_11 : decode cX0_advanceTransits 11 = .ok (.getfield 37, 3) := by decide +kernel
theorem dX0_advanceTransits_14 : decode cX0_advanceTransits 14 = .ok (.iload_n 1, 1) := by decide +kernel
theorem dX0_advanceTransits_15 : decode cX0_advanceTransits 15 = .ok (.iaload, 1) := by decide +kernel
theorem dX0_advanceTransits_16 : decode cX0_advanceTransits 16 = .ok (.iconst 2, 1) := by decide +kernel
theorem dX0_advanceTransits_17 : decode cX0_advanceTransits 17 = .ok (.if_icmp .ne 41, 3) := by decide +kernel
theorem dX0_advanceTransits_20 : decode cX0_advanceTransits 20 = .ok (.aload_n 0, 1) := by decide +kernel
theorem dX0_advanceTransits_21 : decode cX0_advanceTransits 21 = .ok (.getfield 40, 3) := by decide +kernel
theorem dX0_advanceTransits_24 : decode cX0_advanceTransits 24 = .ok (.iload_n 1, 1) := by decide +kernel
theorem dX0_advanceTransits_25 : decode cX0_advanceTransits 25 = .ok (.dup2, 1) := by decide +kernel
theorem dX0_advanceTransits_26 : decode cX0_advanceTransits 26 = .ok (.iaload, 1) := by decide +kernel
theorem dX0_advanceTransits_27 : decode cX0_advanceTransits 27 = .ok (.iconst 1, 1) := by decide +kernel
theorem dX0_advanceTransits_28 : decode cX0_advanceTransits 28 = .ok (.isub, 1) := by decide +kernel
theorem dX0_advanceTransits_29 : decode cX0_advanceTransits 29 = .ok (.iastore, 1) := by decide +kernel
theorem dX0_advanceTransits_30 : decode cX0_advanceTransits 30 = .ok (.aload_n 0, 1) := by decide +kernel
theorem dX0_advanceTransits_31 : decode cX0_advanceTransits 31 = .ok (.getfield 40, 3) := by decide +kernel
theorem dX0_advanceTransits_34 : decode cX0_advanceTransits 34 = .ok (.iload_n 1, 1) := by decide +kernel
theorem dX0_advanceTransits_35 : decode cX0_advanceTransits 35 = .ok (.iaload, 1) := by decide +kernel
theorem dX0_advanceTransits_36 : decode cX0_advanceTransits 36 = .ok (.ifCond .gt 22, 3) := by decide +kernel
theorem dX0_advanceTransits_39 : decode cX0_advanceTransits 39 = .ok (.aload_n 0, 1) := by decide +kernel
theorem dX0_advanceTransits_40 : decode cX0_advanceTransits 40 = .ok (.getfield 37, 3) := by decide +kernel
theorem dX0_advanceTransits_43 : decode cX0_advanceTransits 43 = .ok (.iload_n 1, 1) := by decide +kernel
theorem dX0_advanceTransits_44 : decode cX0_advanceTransits 44 = .ok (.iconst 3, 1) := by decide +kernel
theorem dX0_advanceTransits_45 : decode cX0_advanceTransits 45 = .ok (.iastore, 1) := by decide +kernel
theorem dX0_advanceTransits_46 : decode cX0_advanceTransits 46 = .ok (.aload_n 0, 1) := by decide +kernel
theorem dX0_advanceTransits_47 : decode cX0_advanceTransits 47 = .ok (.getfield 43, 3) := by decide +kernel
theorem dX0_advanceTransits_50 : decode cX0_advanceTransits 50 = .ok (.iload_n 1, 1) := by decide +kernel
theorem dX0_advanceTransits_51 : decode cX0_advanceTransits 51 = .ok (.aload_n 0, 1) := by decide +kernel
theorem dX0_advanceTransits_52 : decode cX0_advanceTransits 52 = .ok (.getfield 9, 3) := by decide +kernel
theorem dX0_advanceTransits_55 : decode cX0_advanceTransits 55 = .ok (.iconst 1, 1) := by decide +kernel
theorem dX0_advanceTransits_56 : decode cX0_advanceTransits 56 = .ok (.iadd, 1) := by decide +kernel
theorem dX0_advanceTransits_57 : decode cX0_advanceTransits 57 = .ok (.iastore, 1) := by decide +kernel
theorem dX0_advanceTransits_58 : decode cX0_advanceTransits 58 = .ok (.iinc 1 1, 3) := by decide +kernel
theorem dX0_advanceTransits_61 : decode cX0_advanceTransits 61 = .ok (.goto (-59), 3) := by decide +kernel
theorem dX0_advanceTransits_64 : decode cX0_advanceTransits 64 = .ok (.return_, 1) := by decide +kernel
theorem dX0_shortenLullabies_0 : decode cX0_shortenLullabies 0 = .ok (.iconst 0, 1) := by decide +kernel
theorem dX0_shortenLullabies_1 : decode cX0_shortenLullabies 1 = .ok (.istore_n 1, 1) := by decide +kernel
theorem dX0_shortenLullabies_2 : decode cX0_shortenLullabies 2 = .ok (.iload_n 1, 1) := by decide +kernel
theorem dX0_shortenLullabies_3 : decode cX0_shortenLullabies 3 = .ok (.aload_n 0, 1) := by decide +kernel
theorem dX0_shortenLullabies_4 : decode cX0_shortenLullabies 4 = .ok (.getfield 21, 3) := by decide +kernel
theorem dX0_shortenLullabies_7 : decode cX0_shortenLullabies 7 = .ok (.if_icmp .ge 54, 3) := by decide +kernel
theorem dX0_shortenLullabies_10 : decode cX0_shortenLullabies 10 = .ok (.aload_n 0, 1) := by decide +kernel
theorem dX0_shortenLullabies_11 : decode cX0_shortenLullabies 11 = .ok (.getfield 37, 3) := by decide +kernel
theorem dX0_shortenLullabies_14 : decode cX0_shortenLullabies 14 = .ok (.iload_n 1, 1) := by decide +kernel
theorem dX0_shortenLullabies_15 : decode cX0_shortenLullabies 15 = .ok (.iaload, 1) := by decide +kernel
theorem dX0_shortenLullabies_16 : decode cX0_shortenLullabies 16 = .ok (.ifCond .ne 39, 3) := by decide +kernel
theorem dX0_shortenLullabies_19 : decode cX0_shortenLullabies 19 = .ok (.aload_n 0, 1) := by decide +kernel
theorem dX0_shortenLullabies_20 : decode cX0_shortenLullabies 20 = .ok (.getfield 34, 3) := by decide +kernel
theorem dX0_shortenLullabies_23 : decode cX0_shortenLullabies 23 = .ok (.iload_n 1, 1) := by decide +kernel
theorem dX0_shortenLullabies_24 : decode cX0_shortenLullabies 24 = .ok (.dup2, 1) := by decide +kernel
theorem dX0_shortenLullabies_25 : decode cX0_shortenLullabies 25 = .ok (.iaload, 1) := by decide +kernel
theorem dX0_shortenLullabies_26 : decode cX0_shortenLullabies 26 = .ok (.iconst 1, 1) := by decide +kernel
theorem dX0_shortenLullabies_27 : decode cX0_shortenLullabies 27 = .ok (.isub, 1) := by decide +kernel
theorem dX0_shortenLullabies_28 : decode cX0_shortenLullabies 28 = .ok (.iastore, 1) := by decide +kernel
theorem dX0_shortenLullabies_29 : decode cX0_shortenLullabies 29 = .ok (.aload_n 0, 1) := by decide +kernel
theorem dX0_shortenLullabies_30 : decode cX0_shortenLullabies 30 = .ok (.getfield 34, 3) := by decide +kernel
theorem dX0_shortenLullabies_33 : decode cX0_shortenLullabies 33 = .ok (.iload_n 1, 1) := by decide +kernel
theorem dX0_shortenLullabies_34 : decode cX0_shortenLullabies 34 = .ok (.iaload, 1) := by decide +kernel
theorem dX0_shortenLullabies_35 : decode cX0_shortenLullabies 35 = .ok (.ifCond .gt 20, 3) := by decide +kernel
theorem dX0_shortenLullabies_38 : decode cX0_shortenLullabies 38 = .ok (.aload_n 0, 1) := by decide +kernel
theorem dX0_shortenLullabies_39 : decode cX0_shortenLullabies 39 = .ok (.getfield 37, 3) := by decide +kernel
theorem dX0_shortenLullabies_42 : decode cX0_shortenLullabies 42 = .ok (.iload_n 1, 1) := by decide +kernel
theorem dX0_shortenLullabies_43 : decode cX0_shortenLullabies 43 = .ok (.iconst 4, 1) := by decide +kernel
theorem dX0_shortenLullabies_44 : decode cX0_shortenLullabies 44 = .ok (.iastore, 1) := by decide +kernel
theorem dX0_shortenLullabies_45 : decode cX0_shortenLullabies 45 = .ok (.aload_n 0, 1) := by decide +kernel
theorem dX0_shortenLullabies_46 : decode cX0_shortenLullabies 46 = .ok (.dup, 1) := by decide +kernel
theorem dX0_shortenLullabies_47 : decode cX0_shortenLullabies 47 = .ok (.getfield 15, 3) := by decide +kernel
theorem dX0_shortenLullabies_50 : decode cX0_shortenLullabies 50 = .ok (.iconst 1, 1) := by decide +kernel
theorem dX0_shortenLullabies_51 : decode cX0_shortenLullabies 51 = .ok (.iadd, 1) := by decide +kernel
theorem dX0_shortenLullabies_52 : decode cX0_shortenLullabies 52 = .ok (.putfield 15, 3) := by decide +kernel
theorem dX0_shortenLullabies_55 : decode cX0_shortenLullabies 55 = .ok (.iinc 1 1, 3) := by decide +kernel
theorem dX0_shortenLullabies_58 : decode cX0_shortenLullabies 58 = .ok (.goto (-56), 3) := by decide +kernel
theorem dX0_shortenLullabies_61 : decode cX0_shortenLullabies 61 = .ok (.return_, 1) := by decide +kernel
set_option maxRecDepth 20000 in
theorem ggX0_work_X0_isTraveller : GoodIn wsX0_work wsX0_isTraveller := goodIn_r _ [11, 12, 51, 52, 53, 54, 55, 56, 57, 58, 59, 60, 61, 62, 63, 64, 65] (by decide +kernel) (by decide +kernel)
set_option maxRecDepth 20000 in
theorem gX0_work_X0_isTraveller : GoodIn wsX0_work (wsV RX0 89 RX0 yX0_isTraveller wsX0_isTraveller) := goodIn_app (goodIn_of _ (by decide +kernel)) ggX0_work_X0_isTraveller
set_option maxRecDepth 20000 in
theorem ggX0_work_X0_searchOn : GoodIn wsX0_work wsX0_searchOn := goodIn_r _ [16, 17, 18, 19, 20, 1, 2, 21, 22, 5, 23, 24, 25, 26, 10, 27, 28, 29, 30, 31, 32, 33, 51, 52, 53, 54, 55, 56, 57, 58, 59, 60, 61, 62, 63, 64, 65] (by decide +kernel) (by decide +kernel)
set_option maxRecDepth 20000 in
theorem gX0_work_X0_searchOn : GoodIn wsX0_work (wsV RX0 93 RX0 yX0_searchOn wsX0_searchOn) := goodIn_app (goodIn_of _ (by decide +kernel)) ggX0_work_X0_searchOn
set_option maxRecDepth 20000 in
theorem ggX0_work_X0_firstWaiting : GoodIn wsX0_work wsX0_firstWaiting := goodIn_r _ [37, 12, 19, 51, 52, 53, 54, 55, 56, 57, 58, 59, 60, 61, 62, 63, 64, 65] (by decide +kernel) (by decide +kernel)
set_option maxRecDepth 20000 in
theorem gX0_work_X0_firstWaiting : GoodIn wsX0_work (wsV RX0 97 RX0 yX0_firstWaiting wsX0_firstWaiting) := goodIn_app (goodIn_of _ (by decide +kernel)) ggX0_work_X0_firstWaiting
set_option maxRecDepth 20000 in
theorem ggX0_work_X0_beginSearch : GoodIn wsX0_work wsX0_beginSearch := goodIn_r _ [41, 1, 17, 19, 42, 43, 44, 10, 45, 33, 46, 47, 48, 49, 12, 50, 51, 52, 53, 54, 55, 56, 57, 58, 59, 60, 61, 62, 63, 64, 65] (by decide +kernel) (by decide +kernel)
set_option maxRecDepth 20000 in
theorem gX0_work_X0_beginSearch : GoodIn wsX0_work (wsV RX0 100 RX0 yX0_beginSearch wsX0_beginSearch) := goodIn_app (goodIn_of _ (by decide +kernel)) ggX0_work_X0_beginSearch
theorem dX0_work_0 : decode cX0_work 0 = .ok (.aload_n 0, 1) := by decide +kernel
theorem dX0_work_1 : decode cX0_work 1 = .ok (.getfield 52, 3) := by decide +kernel
theorem dX0_work_4 : decode cX0_work 4 = .ok (.iload_n 1, 1) := by decide +kernel
theorem dX0_work_5 : decode cX0_work 5 = .ok (.iaload, 1) := by decide +kernel
theorem dX0_work_6 : decode cX0_work 6 = .ok (.istore_n 2, 1) := by decide +kernel
theorem dX0_work_7 : decode cX0_work 7 = .ok (.aload_n 0, 1) := by decide +kernel
theorem dX0_work_8 : decode cX0_work 8 = .ok (.iload_n 2, 1) := by decide +kernel
theorem dX0_work_9 : decode cX0_work 9 = .ok (.invokevirtual 89, 3) := by decide +kernel
theorem dX0_work_12 : decode cX0_work 12 = .ok (.ifCond .eq 10, 3) := by decide +kernel
theorem dX0_work_15 : decode cX0_work 15 = .ok (.aload_n 0, 1) := by decide +kernel
theorem dX0_work_16 : decode cX0_work 16 = .ok (.iload_n 1, 1) := by decide +kernel
theorem dX0_work_17 : decode cX0_work 17 = .ok (.iload_n 2, 1) := by decide +kernel
theorem dX0_work_18 : decode cX0_work 18 = .ok (.invokevirtual 93, 3) := by decide +kernel
theorem dX0_work_21 : decode cX0_work 21 = .ok (.return_, 1) := by decide +kernel
theorem dX0_work_22 : decode cX0_work 22 = .ok (.aload_n 0, 1) := by decide +kernel
theorem dX0_work_23 : decode cX0_work 23 = .ok (.invokevirtual 97, 3) := by decide +kernel
theorem dX0_work_26 : decode cX0_work 26 = .ok (.istore_n 3, 1) := by decide +kernel
theorem dX0_work_27 : decode cX0_work 27 = .ok (.aload_n 0, 1) := by decide +kernel
theorem dX0_work_28 : decode cX0_work 28 = .ok (.iload_n 3, 1) := by decide +kernel
theorem dX0_work_29 : decode cX0_work 29 = .ok (.invokevirtual 89, 3) := by decide +kernel
theorem dX0_work_32 : decode cX0_work 32 = .ok (.ifCond .eq 12, 3) := by decide +kernel
theorem dX0_work_35 : decode cX0_work 35 = .ok (.aload_n 0, 1) := by decide +kernel
theorem dX0_work_36 : decode cX0_work 36 = .ok (.iload_n 1, 1) := by decide +kernel
theorem dX0_work_37 : decode cX0_work 37 = .ok (.iload_n 3, 1) := by decide +kernel
theorem dX0_work_38 : decode cX0_work 38 = .ok (.invokevirtual 100, 3) := by decide +kernel
theorem dX0_work_41 : decode cX0_work 41 = .ok (.goto 22, 3) := by decide +kernel
theorem dX0_work_44 : decode cX0_work 44 = .ok (.aload_n 0, 1) := by decide +kernel
theorem dX0_work_45 : decode cX0_work 45 = .ok (.getfield 49, 3) := by decide +kernel
theorem dX0_work_48 : decode cX0_work 48 = .ok (.iload_n 1, 1) := by decide +kernel
theorem dX0_work_49 : decode cX0_work 49 = .ok (.aload_n 0, 1) := by decide +kernel
theorem dX0_work_50 : decode cX0_work 50 = .ok (.getfield 49, 3) := by decide +kernel
theorem dX0_work_53 : decode cX0_work 53 = .ok (.iload_n 1, 1) := by decide +kernel
theorem dX0_work_54 : decode cX0_work 54 = .ok (.iaload, 1) := by decide +kernel
theorem dX0_work_55 : decode cX0_work 55 = .ok (.iconst 1, 1) := by decide +kernel
theorem dX0_work_56 : decode cX0_work 56 = .ok (.iadd, 1) := by decide +kernel
theorem dX0_work_57 : decode cX0_work 57 = .ok (.bipush 9, 2) := by decide +kernel
theorem dX0_work_59 : decode cX0_work 59 = .ok (.invokestatic 103, 3) := by decide +kernel
theorem dX0_work_62 : decode cX0_work 62 = .ok (.iastore, 1) := by decide +kernel
theorem dX0_work_63 : decode cX0_work 63 = .ok (.return_, 1) := by decide +kernel
set_option maxRecDepth 20000 in
theorem ggX0_beginSearch_X0_searchMinutes : GoodIn wsX0_beginSearch wsX0_searchMinutes := goodIn_r _ [8, 9, 10, 11, 12, 7, 13, 14, 3, 15, 16, 17, 18, 19, 20, 21, 22, 23, 24, 25, 26, 27, 28, 29, 30] (by decide +kernel) (by decide +kernel)
set_option maxRecDepth 20000 in
theorem gX0_beginSearch_X0_searchMinutes : GoodIn wsX0_beginSearch (wsV RX0 106 RX0 yX0_searchMinutes wsX0_searchMinutes) := goodIn_app (goodIn_of _ (by decide +kernel)) ggX0_beginSearch_X0_searchMinutes
theorem dX0_beginSearch_0 : decode cX0_beginSearch 0 = .ok (.aload_n 0, 1) := by decide +kernel
theorem dX0_beginSearch_1 : decode cX0_beginSearch 1 = .ok (.getfield 52, 3) := by decide +kernel
theorem dX0_beginSearch_4 : decode cX0_beginSearch 4 = .ok (.iload_n 1, 1) := by decide +kernel
theorem dX0_beginSearch_5 : decode cX0_beginSearch 5 = .ok (.iload_n 2, 1) := by decide +kernel
theorem dX0_beginSearch_6 : decode cX0_beginSearch 6 = .ok (.iastore, 1) := by decide +kernel
theorem dX0_beginSearch_7 : decode cX0_beginSearch 7 = .ok (.aload_n 0, 1) := by decide +kernel
theorem dX0_beginSearch_8 : decode cX0_beginSearch 8 = .ok (.getfield 55, 3) := by decide +kernel
theorem dX0_beginSearch_11 : decode cX0_beginSearch 11 = .ok (.iload_n 1, 1) := by decide +kernel
theorem dX0_beginSearch_12 : decode cX0_beginSearch 12 = .ok (.aload_n 0, 1) := by decide +kernel
theorem dX0_beginSearch_13 : decode cX0_beginSearch 13 = .ok (.iload_n 2, 1) := by decide +kernel
theorem dX0_beginSearch_14 : decode cX0_beginSearch 14 = .ok (.invokevirtual 106, 3) := by decide +kernel
theorem dX0_beginSearch_17 : decode cX0_beginSearch 17 = .ok (.iastore, 1) := by decide +kernel
theorem dX0_beginSearch_18 : decode cX0_beginSearch 18 = .ok (.aload_n 0, 1) := by decide +kernel
theorem dX0_beginSearch_19 : decode cX0_beginSearch 19 = .ok (.getfield 37, 3) := by decide +kernel
theorem dX0_beginSearch_22 : decode cX0_beginSearch 22 = .ok (.iload_n 2, 1) := by decide +kernel
theorem dX0_beginSearch_23 : decode cX0_beginSearch 23 = .ok (.iconst 1, 1) := by decide +kernel
theorem dX0_beginSearch_24 : decode cX0_beginSearch 24 = .ok (.iastore, 1) := by decide +kernel
theorem dX0_beginSearch_25 : decode cX0_beginSearch 25 = .ok (.return_, 1) := by decide +kernel
set_option maxRecDepth 20000 in
theorem ggX0_searchOn_X0_finds : GoodIn wsX0_searchOn wsX0_finds := goodIn_r _ [15, 6, 16, 17, 18, 14, 19, 20, 21, 7, 8, 9, 10, 22, 23, 24, 25, 26, 27, 28, 29, 30, 31, 32, 33, 34, 35, 36] (by decide +kernel) (by decide +kernel)
set_option maxRecDepth 20000 in
theorem gX0_searchOn_X0_finds : GoodIn wsX0_searchOn (wsV RX0 109 RX0 yX0_finds wsX0_finds) := goodIn_app (goodIn_of _ (by decide +kernel)) ggX0_searchOn_X0_finds
set_option maxRecDepth 20000 in
theorem ggX0_searchOn_X0_hiddenDreams : GoodIn wsX0_searchOn wsX0_hiddenDreams := goodIn_r _ [19, 20, 21, 7, 8, 9, 10, 22, 23, 24, 25, 26, 27, 28, 29, 30, 31, 32, 33, 34, 35, 36] (by decide +kernel) (by decide +kernel)
set_option maxRecDepth 20000 in
theorem gX0_searchOn_X0_hiddenDreams : GoodIn wsX0_searchOn (wsV RX0 68 RX0 yX0_hiddenDreams wsX0_hiddenDreams) := goodIn_app (goodIn_of _ (by decide +kernel)) ggX0_searchOn_X0_hiddenDreams
theorem dX0_searchOn_0 : decode cX0_searchOn 0 = .ok (.aload_n 0, 1) := by decide +kernel
theorem dX0_searchOn_1 : decode cX0_searchOn 1 = .ok (.getfield 55, 3) := by decide +kernel
theorem dX0_searchOn_4 : decode cX0_searchOn 4 = .ok (.iload_n 1, 1) := by decide +kernel
theorem dX0_searchOn_5 : decode cX0_searchOn 5 = .ok (.dup2, 1) := by decide +kernel
theorem dX0_searchOn_6 : decode cX0_searchOn 6 = .ok (.iaload, 1) := by decide +kernel
theorem dX0_searchOn_7 : decode cX0_searchOn 7 = .ok (.iconst 1, 1) := by decide +kernel
theorem dX0_searchOn_8 : decode cX0_searchOn 8 = .ok (.isub, 1) := by decide +kernel
theorem dX0_searchOn_9 : decode cX0_searchOn 9 = .ok (.iastore, 1) := by decide +kernel
theorem dX0_searchOn_10 : decode cX0_searchOn 10 = .ok (.aload_n 0, 1) := by decide +kernel
theorem dX0_searchOn_11 : decode cX0_searchOn 11 = .ok (.getfield 55, 3) := by decide +kernel
theorem dX0_searchOn_14 : decode cX0_searchOn 14 = .ok (.iload_n 1, 1) := by decide +kernel
theorem dX0_searchOn_15 : decode cX0_searchOn 15 = .ok (.iaload, 1) := by decide +kernel
theorem dX0_searchOn_16 : decode cX0_searchOn 16 = .ok (.ifCond .le 4, 3) := by decide +kernel
theorem dX0_searchOn_19 : decode cX0_searchOn 19 = .ok (.return_, 1) := by decide +kernel
theorem dX0_searchOn_20 : decode cX0_searchOn 20 = .ok (.aload_n 0, 1) := by decide +kernel
theorem dX0_searchOn_21 : decode cX0_searchOn 21 = .ok (.iload_n 1, 1) := by decide +kernel
theorem dX0_searchOn_22 : decode cX0_searchOn 22 = .ok (.iload_n 2, 1) := by decide +kernel
theorem dX0_searchOn_23 : decode cX0_searchOn 23 = .ok (.invokevirtual 109, 3) := by decide +kernel
theorem dX0_searchOn_26 : decode cX0_searchOn 26 = .ok (.ifCond .eq 29, 3) := by decide +kernel
theorem dX0_searchOn_29 : decode cX0_searchOn 29 = .ok (.aload_n 0, 1) := by decide +kernel
theorem dX0_searchOn_30 : decode cX0_searchOn 30 = .ok (.dup, 1) := by decide +kernel
theorem dX0_searchOn_31 : decode cX0_searchOn 31 = .ok (.getfield 18, 3) := by decide +kernel
theorem dX0_searchOn_34 : decode cX0_searchOn 34 = .ok (.iconst 3, 1) := by decide +kernel
theorem dX0_searchOn_35 : decode cX0_searchOn 35 = .ok (.aload_n 0, 1) := by decide +kernel
theorem dX0_searchOn_36 : decode cX0_searchOn 36 = .ok (.iload_n 2, 1) := by decide +kernel
theorem dX0_searchOn_37 : decode cX0_searchOn 37 = .ok (.invokevirtual 68, 3) := by decide +kernel
theorem dX0_searchOn_40 : decode cX0_searchOn 40 = .ok (.imul, 1) := by decide +kernel
theorem dX0_searchOn_41 : decode cX0_searchOn 41 = .ok (.iadd, 1) := by decide +kernel
theorem dX0_searchOn_42 : decode cX0_searchOn 42 = .ok (.putfield 18, 3) := by decide +kernel
theorem dX0_searchOn_45 : decode cX0_searchOn 45 = .ok (.aload_n 0, 1) := by decide +kernel
theorem dX0_searchOn_46 : decode cX0_searchOn 46 = .ok (.getfield 37, 3) := by decide +kernel
theorem dX0_searchOn_49 : decode cX0_searchOn 49 = .ok (.iload_n 2, 1) := by decide +kernel
theorem dX0_searchOn_50 : decode cX0_searchOn 50 = .ok (.iconst 4, 1) := by decide +kernel
theorem dX0_searchOn_51 : decode cX0_searchOn 51 = .ok (.iastore, 1) := by decide +kernel
theorem dX0_searchOn_52 : decode cX0_searchOn 52 = .ok (.goto 17, 3) := by decide +kernel
theorem dX0_searchOn_55 : decode cX0_searchOn 55 = .ok (.aload_n 0, 1) := by decide +kernel
theorem dX0_searchOn_56 : decode cX0_searchOn 56 = .ok (.getfield 37, 3) := by decide +kernel
theorem dX0_searchOn_59 : decode cX0_searchOn 59 = .ok (.iload_n 2, 1) := by decide +kernel
theorem dX0_searchOn_60 : decode cX0_searchOn 60 = .ok (.iconst 2, 1) := by decide +kernel
theorem dX0_searchOn_61 : decode cX0_searchOn 61 = .ok (.iastore, 1) := by decide +kernel
theorem dX0_searchOn_62 : decode cX0_searchOn 62 = .ok (.aload_n 0, 1) := by decide +kernel
theorem dX0_searchOn_63 : decode cX0_searchOn 63 = .ok (.getfield 40, 3) := by decide +kernel
theorem dX0_searchOn_66 : decode cX0_searchOn 66 = .ok (.iload_n 2, 1) := by decide +kernel
theorem dX0_searchOn_67 : decode cX0_searchOn 67 = .ok (.iconst 5, 1) := by decide +kernel
theorem dX0_searchOn_68 : decode cX0_searchOn 68 = .ok (.iastore, 1) := by decide +kernel
theorem dX0_searchOn_69 : decode cX0_searchOn 69 = .ok (.aload_n 0, 1) := by decide +kernel
theorem dX0_searchOn_70 : decode cX0_searchOn 70 = .ok (.getfield 52, 3) := by decide +kernel
theorem dX0_searchOn_73 : decode cX0_searchOn 73 = .ok (.iload_n 1, 1) := by decide +kernel
theorem dX0_searchOn_74 : decode cX0_searchOn 74 = .ok (.iconst (-1), 1) := by decide +kernel
theorem dX0_searchOn_75 : decode cX0_searchOn 75 = .ok (.iastore, 1) := by decide +kernel
theorem dX0_searchOn_76 : decode cX0_searchOn 76 = .ok (.aload_n 0, 1) := by decide +kernel
theorem dX0_searchOn_77 : decode cX0_searchOn 77 = .ok (.getfield 49, 3) := by decide +kernel
theorem dX0_searchOn_80 : decode cX0_searchOn 80 = .ok (.iload_n 1, 1) := by decide +kernel
theorem dX0_searchOn_81 : decode cX0_searchOn 81 = .ok (.aload_n 0, 1) := by decide +kernel
theorem dX0_searchOn_82 : decode cX0_searchOn 82 = .ok (.getfield 49, 3) := by decide +kernel
theorem dX0_searchOn_85 : decode cX0_searchOn 85 = .ok (.iload_n 1, 1) := by decide +kernel
theorem dX0_searchOn_86 : decode cX0_searchOn 86 = .ok (.iaload, 1) := by decide +kernel
theorem dX0_searchOn_87 : decode cX0_searchOn 87 = .ok (.iconst 1, 1) := by decide +kernel
theorem dX0_searchOn_88 : decode cX0_searchOn 88 = .ok (.isub, 1) := by decide +kernel
theorem dX0_searchOn_89 : decode cX0_searchOn 89 = .ok (.iconst 0, 1) := by decide +kernel
theorem dX0_searchOn_90 : decode cX0_searchOn 90 = .ok (.invokestatic 58, 3) := by decide +kernel
theorem dX0_searchOn_93 : decode cX0_searchOn 93 = .ok (.iastore, 1) := by decide +kernel
theorem dX0_searchOn_94 : decode cX0_searchOn 94 = .ok (.return_, 1) := by decide +kernel
end
section
set_option maxRecDepth 20000 in
theorem ggX1_init_X0_init : GoodIn wsX1_init wsX0_init := goodIn_r _ [10, 11, 2, 3, 12, 13, 14, 15, 16, 17, 18, 19, 20, 21, 22, 23, 24, 25, 26, 27, 28, 29, 30, 31, 32, 33, 34, 35, 36, 37, 38, 39, 40, 41, 42] (by decide +kernel) (by decide +kernel)
set_option maxRecDepth 20000 in
theorem gX1_init_X0_init_n9 : GoodIn wsX1_init (wsX0_init) := ggX1_init_X0_init
theorem dX1_init_0 : decode cX1_init 0 = .ok (.aload_n 0, 1) := by decide +kernel
theorem dX1_init_1 : decode cX1_init 1 = .ok (.invokespecial 1, 3) := by decide +kernel
theorem dX1_init_4 : decode cX1_init 4 = .ok (.aload_n 0, 1) := by decide +kernel
theorem dX1_init_5 : decode cX1_init 5 = .ok (.new 7, 3) := by decide +kernel
theorem dX1_init_8 : decode cX1_init 8 = .ok (.dup, 1) := by decide +kernel
theorem dX1_init_9 : decode cX1_init 9 = .ok (.invokespecial 9, 3) := by decide +kernel
theorem dX1_init_12 : decode cX1_init 12 = .ok (.putfield 10, 3) := by decide +kernel
theorem dX1_init_15 : decode cX1_init 15 = .ok (.aload_n 0, 1) := by decide +kernel
theorem dX1_init_16 : decode cX1_init 16 = .ok (.new 7, 3) := by decide +kernel
theorem dX1_init_19 : decode cX1_init 19 = .ok (.dup, 1) := by decide +kernel
theorem dX1_init_20 : decode cX1_init 20 = .ok (.invokespecial 9, 3) := by decide +kernel
theorem dX1_init_23 : decode cX1_init 23 = .ok (.putfield 16, 3) := by decide +kernel
theorem dX1_init_26 : decode cX1_init 26 = .ok (.return_, 1) := by decide +kernel
set_option maxRecDepth 20000 in
theorem ggX1_addGuard_X0_admitGuard : GoodIn wsX1_addGuard wsX0_admitGuard := goodIn_r _ [9, 10, 11, 12, 13, 16, 17, 18, 19, 20, 21, 22, 23, 24, 25, 26, 27, 28, 29, 30] (by decide +kernel) (by decide +kernel)
set_option maxRecDepth 20000 in
theorem gX1_addGuard_X0_admitGuard : GoodIn wsX1_addGuard (wsV RX1 30 RX0 yX0_admitGuard wsX0_admitGuard) := goodIn_app (goodIn_of _ (by decide +kernel)) ggX1_addGuard_X0_admitGuard
theorem dX1_addGuard_0 : decode cX1_addGuard 0 = .ok (.aload_n 0, 1) := by decide +kernel
theorem dX1_addGuard_1 : decode cX1_addGuard 1 = .ok (.getfield 10, 3) := by decide +kernel
theorem dX1_addGuard_4 : decode cX1_addGuard 4 = .ok (.getfield 19, 3) := by decide +kernel
theorem dX1_addGuard_7 : decode cX1_addGuard 7 = .ok (.iconst 4, 1) := by decide +kernel
theorem dX1_addGuard_8 : decode cX1_addGuard 8 = .ok (.if_icmp .lt 13, 3) := by decide +kernel
theorem dX1_addGuard_11 : decode cX1_addGuard 11 = .ok (.new 23, 3) := by decide +kernel
theorem dX1_addGuard_14 : decode cX1_addGuard 14 = .ok (.dup, 1) := by decide +kernel
theorem dX1_addGuard_15 : decode cX1_addGuard 15 = .ok (.ldc 25, 2) := by decide +kernel
theorem dX1_addGuard_17 : decode cX1_addGuard 17 = .ok (.invokespecial 27, 3) := by decide +kernel
theorem dX1_addGuard_20 : decode cX1_addGuard 20 = .ok (.athrow, 1) := by decide +kernel
theorem dX1_addGuard_21 : decode cX1_addGuard 21 = .ok (.aload_n 0, 1) := by decide +kernel
theorem dX1_addGuard_22 : decode cX1_addGuard 22 = .ok (.getfield 10, 3) := by decide +kernel
theorem dX1_addGuard_25 : decode cX1_addGuard 25 = .ok (.invokevirtual 30, 3) := by decide +kernel
theorem dX1_addGuard_28 : decode cX1_addGuard 28 = .ok (.aload_n 0, 1) := by decide +kernel
theorem dX1_addGuard_29 : decode cX1_addGuard 29 = .ok (.getfield 10, 3) := by decide +kernel
theorem dX1_addGuard_32 : decode cX1_addGuard 32 = .ok (.getfield 19, 3) := by decide +kernel
theorem dX1_addGuard_35 : decode cX1_addGuard 35 = .ok (.iconst 1, 1) := by decide +kernel
theorem dX1_addGuard_36 : decode cX1_addGuard 36 = .ok (.isub, 1) := by decide +kernel
theorem dX1_addGuard_37 : decode cX1_addGuard 37 = .ok (.ireturn, 1) := by decide +kernel
set_option maxRecDepth 20000 in
theorem ggX1_arrive_X1_requireDigit : GoodIn wsX1_arrive wsX1_requireDigit := goodIn_ca (goodIn_r _ [8, 9, 10] (by decide +kernel) (by decide +kernel)) (goodIn_sub (fun _ h => List.mem_cons_of_mem _ (List.mem_append_right _ h)) (by decide +kernel))
set_option maxRecDepth 20000 in
theorem gX1_arrive_X1_requireDigit : GoodIn wsX1_arrive (va_wsS RX1 33 yX1_requireDigit wsX1_requireDigit) := goodIn_app (goodIn_of _ (by decide +kernel)) ggX1_arrive_X1_requireDigit
set_option maxRecDepth 20000 in
theorem ggX1_arrive_X1_requireMinutes : GoodIn wsX1_arrive wsX1_requireMinutes := goodIn_ca (goodIn_r _ [13, 9, 10] (by decide +kernel) (by decide +kernel)) (goodIn_sub (fun _ h => List.mem_cons_of_mem _ (List.mem_append_right _ h)) (by decide +kernel))
set_option maxRecDepth 20000 in
theorem gX1_arrive_X1_requireMinutes : GoodIn wsX1_arrive (va_wsS RX1 37 yX1_requireMinutes wsX1_requireMinutes) := goodIn_app (goodIn_of _ (by decide +kernel)) ggX1_arrive_X1_requireMinutes
set_option maxRecDepth 20000 in
theorem ggX1_arrive_X0_admitTraveller : GoodIn wsX1_arrive wsX0_admitTraveller := goodIn_r _ [18, 19, 20, 21, 22, 23, 24, 27, 28, 29, 30, 31, 32, 33, 34, 35, 36, 37, 38, 39, 40, 41] (by decide +kernel) (by decide +kernel)
set_option maxRecDepth 20000 in
theorem gX1_arrive_X0_admitTraveller : GoodIn wsX1_arrive (wsV RX1 45 RX0 yX0_admitTraveller wsX0_admitTraveller) := goodIn_app (goodIn_of _ (by decide +kernel)) ggX1_arrive_X0_admitTraveller
theorem dX1_arrive_0 : decode cX1_arrive 0 = .ok (.iload_n 1, 1) := by decide +kernel
theorem dX1_arrive_1 : decode cX1_arrive 1 = .ok (.invokestatic 33, 3) := by decide +kernel
theorem dX1_arrive_4 : decode cX1_arrive 4 = .ok (.iload_n 2, 1) := by decide +kernel
theorem dX1_arrive_5 : decode cX1_arrive 5 = .ok (.invokestatic 33, 3) := by decide +kernel
theorem dX1_arrive_8 : decode cX1_arrive 8 = .ok (.iload_n 3, 1) := by decide +kernel
theorem dX1_arrive_9 : decode cX1_arrive 9 = .ok (.invokestatic 33, 3) := by decide +kernel
theorem dX1_arrive_12 : decode cX1_arrive 12 = .ok (.iload 4, 2) := by decide +kernel
theorem dX1_arrive_14 : decode cX1_arrive 14 = .ok (.invokestatic 37, 3) := by decide +kernel
theorem dX1_arrive_17 : decode cX1_arrive 17 = .ok (.aload_n 0, 1) := by decide +kernel
theorem dX1_arrive_18 : decode cX1_arrive 18 = .ok (.getfield 10, 3) := by decide +kernel
theorem dX1_arrive_21 : decode cX1_arrive 21 = .ok (.getfield 40, 3) := by decide +kernel
theorem dX1_arrive_24 : decode cX1_arrive 24 = .ok (.bipush 24, 2) := by decide +kernel
theorem dX1_arrive_26 : decode cX1_arrive 26 = .ok (.if_icmp .lt 13, 3) := by decide +kernel
theorem dX1_arrive_29 : decode cX1_arrive 29 = .ok (.new 23, 3) := by decide +kernel
theorem dX1_arrive_32 : decode cX1_arrive 32 = .ok (.dup, 1) := by decide +kernel
theorem dX1_arrive_33 : decode cX1_arrive 33 = .ok (.ldc 43, 2) := by decide +kernel
theorem dX1_arrive_35 : decode cX1_arrive 35 = .ok (.invokespecial 27, 3) := by decide +kernel
theorem dX1_arrive_38 : decode cX1_arrive 38 = .ok (.athrow, 1) := by decide +kernel
theorem dX1_arrive_39 : decode cX1_arrive 39 = .ok (.aload_n 0, 1) := by decide +kernel
theorem dX1_arrive_40 : decode cX1_arrive 40 = .ok (.getfield 10, 3) := by decide +kernel
theorem dX1_arrive_43 : decode cX1_arrive 43 = .ok (.iload_n 1, 1) := by decide +kernel
theorem dX1_arrive_44 : decode cX1_arrive 44 = .ok (.iload_n 2, 1) := by decide +kernel
theorem dX1_arrive_45 : decode cX1_arrive 45 = .ok (.iload_n 3, 1) := by decide +kernel
theorem dX1_arrive_46 : decode cX1_arrive 46 = .ok (.iload 4, 2) := by decide +kernel
theorem dX1_arrive_48 : decode cX1_arrive 48 = .ok (.invokevirtual 45, 3) := by decide +kernel
theorem dX1_arrive_51 : decode cX1_arrive 51 = .ok (.aload_n 0, 1) := by decide +kernel
theorem dX1_arrive_52 : decode cX1_arrive 52 = .ok (.getfield 10, 3) := by decide +kernel
theorem dX1_arrive_55 : decode cX1_arrive 55 = .ok (.getfield 40, 3) := by decide +kernel
theorem dX1_arrive_58 : decode cX1_arrive 58 = .ok (.iconst 1, 1) := by decide +kernel
theorem dX1_arrive_59 : decode cX1_arrive 59 = .ok (.isub, 1) := by decide +kernel
theorem dX1_arrive_60 : decode cX1_arrive 60 = .ok (.ireturn, 1) := by decide +kernel
set_option maxRecDepth 20000 in
theorem ggX1_declare_X1_requireTraveller : GoodIn wsX1_declare wsX1_requireTraveller := goodIn_ca (goodIn_r _ [7, 8, 9, 1, 10, 11, 12, 13, 14, 15, 28, 29, 30, 31, 32, 33, 34, 35, 36, 37, 38, 39, 40, 41, 42, 43, 44] (by decide +kernel) (by decide +kernel)) (goodIn_sub (fun _ h => List.mem_cons_of_mem _ (List.mem_append_left _ (List.mem_append_left _ (List.mem_append_right _ h)))) (by decide +kernel))
set_option maxRecDepth 20000 in
theorem gX1_declare_X1_requireTraveller : GoodIn wsX1_declare (wsV RX1 49 RX1 yX1_requireTraveller wsX1_requireTraveller) := goodIn_app (goodIn_of _ (by decide +kernel)) ggX1_declare_X1_requireTraveller
set_option maxRecDepth 20000 in
theorem ggX1_declare_X1_requireDigit : GoodIn wsX1_declare wsX1_requireDigit := goodIn_ca (goodIn_r _ [18, 19, 20] (by decide +kernel) (by decide +kernel)) (goodIn_sub (fun _ h => List.mem_cons_of_mem _ (List.mem_append_left _ (List.mem_append_right _ h))) (by decide +kernel))
set_option maxRecDepth 20000 in
theorem gX1_declare_X1_requireDigit : GoodIn wsX1_declare (va_wsS RX1 33 yX1_requireDigit wsX1_requireDigit) := goodIn_app (goodIn_of _ (by decide +kernel)) ggX1_declare_X1_requireDigit
set_option maxRecDepth 20000 in
theorem ggX1_declare_X1_requireWaiting : GoodIn wsX1_declare wsX1_requireWaiting := goodIn_ca (goodIn_r _ [24, 25, 26, 1, 27, 28, 29, 30, 31, 32, 33, 34, 35, 36, 37, 38, 39, 40, 41, 42, 43, 44] (by decide +kernel) (by decide +kernel)) (goodIn_sub (fun _ h => List.mem_cons_of_mem _ (List.mem_append_right _ h)) (by decide +kernel))
set_option maxRecDepth 20000 in
theorem gX1_declare_X1_requireWaiting : GoodIn wsX1_declare (wsV RX1 52 RX1 yX1_requireWaiting wsX1_requireWaiting) := goodIn_app (goodIn_of _ (by decide +kernel)) ggX1_declare_X1_requireWaiting
theorem dX1_declare_0 : decode cX1_declare 0 = .ok (.aload_n 0, 1) := by decide +kernel
theorem dX1_declare_1 : decode cX1_declare 1 = .ok (.iload_n 1, 1) := by decide +kernel
theorem dX1_declare_2 : decode cX1_declare 2 = .ok (.invokevirtual 49, 3) := by decide +kernel
theorem dX1_declare_5 : decode cX1_declare 5 = .ok (.iload_n 2, 1) := by decide +kernel
theorem dX1_declare_6 : decode cX1_declare 6 = .ok (.invokestatic 33, 3) := by decide +kernel
theorem dX1_declare_9 : decode cX1_declare 9 = .ok (.aload_n 0, 1) := by decide +kernel
theorem dX1_declare_10 : decode cX1_declare 10 = .ok (.iload_n 1, 1) := by decide +kernel
theorem dX1_declare_11 : decode cX1_declare 11 = .ok (.invokevirtual 52, 3) := by decide +kernel
theorem dX1_declare_14 : decode cX1_declare 14 = .ok (.aload_n 0, 1) := by decide +kernel
theorem dX1_declare_15 : decode cX1_declare 15 = .ok (.getfield 10, 3) := by decide +kernel
theorem dX1_declare_18 : decode cX1_declare 18 = .ok (.getfield 55, 3) := by decide +kernel
theorem dX1_declare_21 : decode cX1_declare 21 = .ok (.iload_n 1, 1) := by decide +kernel
theorem dX1_declare_22 : decode cX1_declare 22 = .ok (.iaload, 1) := by decide +kernel
theorem dX1_declare_23 : decode cX1_declare 23 = .ok (.istore_n 3, 1) := by decide +kernel
theorem dX1_declare_24 : decode cX1_declare 24 = .ok (.aload_n 0, 1) := by decide +kernel
theorem dX1_declare_25 : decode cX1_declare 25 = .ok (.getfield 10, 3) := by decide +kernel
theorem dX1_declare_28 : decode cX1_declare 28 = .ok (.getfield 55, 3) := by decide +kernel
theorem dX1_declare_31 : decode cX1_declare 31 = .ok (.iload_n 1, 1) := by decide +kernel
theorem dX1_declare_32 : decode cX1_declare 32 = .ok (.iload_n 2, 1) := by decide +kernel
theorem dX1_declare_33 : decode cX1_declare 33 = .ok (.iastore, 1) := by decide +kernel
theorem dX1_declare_34 : decode cX1_declare 34 = .ok (.iload_n 3, 1) := by decide +kernel
theorem dX1_declare_35 : decode cX1_declare 35 = .ok (.ireturn, 1) := by decide +kernel
set_option maxRecDepth 20000 in
theorem ggX1_sing_X1_requireTraveller : GoodIn wsX1_sing wsX1_requireTraveller := goodIn_ca (goodIn_r _ [7, 8, 9, 1, 10, 11, 12, 13, 14, 15, 28, 29, 30, 31, 32, 33, 34, 35, 36, 37, 38, 39, 40, 41, 42, 43, 44] (by decide +kernel) (by decide +kernel)) (goodIn_sub (fun _ h => List.mem_cons_of_mem _ (List.mem_append_left _ (List.mem_append_left _ (List.mem_append_right _ h)))) (by decide +kernel))
set_option maxRecDepth 20000 in
theorem gX1_sing_X1_requireTraveller : GoodIn wsX1_sing (wsV RX1 49 RX1 yX1_requireTraveller wsX1_requireTraveller) := goodIn_app (goodIn_of _ (by decide +kernel)) ggX1_sing_X1_requireTraveller
set_option maxRecDepth 20000 in
theorem ggX1_sing_X1_requireMinutes : GoodIn wsX1_sing wsX1_requireMinutes := goodIn_ca (goodIn_r _ [18, 19, 20] (by decide +kernel) (by decide +kernel)) (goodIn_sub (fun _ h => List.mem_cons_of_mem _ (List.mem_append_left _ (List.mem_append_right _ h))) (by decide +kernel))
set_option maxRecDepth 20000 in
theorem gX1_sing_X1_requireMinutes : GoodIn wsX1_sing (va_wsS RX1 37 yX1_requireMinutes wsX1_requireMinutes) := goodIn_app (goodIn_of _ (by decide +kernel)) ggX1_sing_X1_requireMinutes
set_option maxRecDepth 20000 in
theorem ggX1_sing_X1_requireWaiting : GoodIn wsX1_sing wsX1_requireWaiting := goodIn_ca (goodIn_r _ [24, 25, 26, 1, 27, 28, 29, 30, 31, 32, 33, 34, 35, 36, 37, 38, 39, 40, 41, 42, 43, 44] (by decide +kernel) (by decide +kernel)) (goodIn_sub (fun _ h => List.mem_cons_of_mem _ (List.mem_append_right _ h)) (by decide +kernel))
set_option maxRecDepth 20000 in
theorem gX1_sing_X1_requireWaiting : GoodIn wsX1_sing (wsV RX1 52 RX1 yX1_requireWaiting wsX1_requireWaiting) := goodIn_app (goodIn_of _ (by decide +kernel)) ggX1_sing_X1_requireWaiting
theorem dX1_sing_0 : decode cX1_sing 0 = .ok (.aload_n 0, 1) := by decide +kernel
theorem dX1_sing_1 : decode cX1_sing 1 = .ok (.iload_n 1, 1) := by decide +kernel
theorem dX1_sing_2 : decode cX1_sing 2 = .ok (.invokevirtual 49, 3) := by decide +kernel
theorem dX1_sing_5 : decode cX1_sing 5 = .ok (.iload_n 2, 1) := by decide +kernel
theorem dX1_sing_6 : decode cX1_sing 6 = .ok (.invokestatic 37, 3) := by decide +kernel
theorem dX1_sing_9 : decode cX1_sing 9 = .ok (.aload_n 0, 1) := by decide +kernel
theorem dX1_sing_10 : decode cX1_sing 10 = .ok (.iload_n 1, 1) := by decide +kernel
theorem dX1_sing_11 : decode cX1_sing 11 = .ok (.invokevirtual 52, 3) := by decide +kernel
theorem dX1_sing_14 : decode cX1_sing 14 = .ok (.aload_n 0, 1) := by decide +kernel
theorem dX1_sing_15 : decode cX1_sing 15 = .ok (.getfield 10, 3) := by decide +kernel
theorem dX1_sing_18 : decode cX1_sing 18 = .ok (.getfield 59, 3) := by decide +kernel
theorem dX1_sing_21 : decode cX1_sing 21 = .ok (.iload_n 1, 1) := by decide +kernel
theorem dX1_sing_22 : decode cX1_sing 22 = .ok (.iaload, 1) := by decide +kernel
theorem dX1_sing_23 : decode cX1_sing 23 = .ok (.istore_n 3, 1) := by decide +kernel
theorem dX1_sing_24 : decode cX1_sing 24 = .ok (.aload_n 0, 1) := by decide +kernel
theorem dX1_sing_25 : decode cX1_sing 25 = .ok (.getfield 10, 3) := by decide +kernel
theorem dX1_sing_28 : decode cX1_sing 28 = .ok (.getfield 59, 3) := by decide +kernel
theorem dX1_sing_31 : decode cX1_sing 31 = .ok (.iload_n 1, 1) := by decide +kernel
theorem dX1_sing_32 : decode cX1_sing 32 = .ok (.iload_n 2, 1) := by decide +kernel
theorem dX1_sing_33 : decode cX1_sing 33 = .ok (.iastore, 1) := by decide +kernel
theorem dX1_sing_34 : decode cX1_sing 34 = .ok (.iload_n 3, 1) := by decide +kernel
theorem dX1_sing_35 : decode cX1_sing 35 = .ok (.ireturn, 1) := by decide +kernel
set_option maxRecDepth 20000 in
theorem ggX1_wake_X1_requireGuard : GoodIn wsX1_wake wsX1_requireGuard := goodIn_ca (goodIn_r _ [7, 8, 9, 1, 10, 11, 12, 13, 14, 15, 16, 17, 18, 19, 20, 21, 22, 23, 24, 25, 26, 27, 28, 29, 30, 31, 32] (by decide +kernel) (by decide +kernel)) (goodIn_sub (fun _ h => List.mem_cons_of_mem _ (List.mem_append_right _ h)) (by decide +kernel))
set_option maxRecDepth 20000 in
theorem gX1_wake_X1_requireGuard : GoodIn wsX1_wake (wsV RX1 62 RX1 yX1_requireGuard wsX1_requireGuard) := goodIn_app (goodIn_of _ (by decide +kernel)) ggX1_wake_X1_requireGuard
theorem dX1_wake_0 : decode cX1_wake 0 = .ok (.aload_n 0, 1) := by decide +kernel
theorem dX1_wake_1 : decode cX1_wake 1 = .ok (.iload_n 1, 1) := by decide +kernel
theorem dX1_wake_2 : decode cX1_wake 2 = .ok (.invokevirtual 62, 3) := by decide +kernel
theorem dX1_wake_5 : decode cX1_wake 5 = .ok (.aload_n 0, 1) := by decide +kernel
theorem dX1_wake_6 : decode cX1_wake 6 = .ok (.getfield 10, 3) := by decide +kernel
theorem dX1_wake_9 : decode cX1_wake 9 = .ok (.getfield 65, 3) := by decide +kernel
theorem dX1_wake_12 : decode cX1_wake 12 = .ok (.iload_n 1, 1) := by decide +kernel
theorem dX1_wake_13 : decode cX1_wake 13 = .ok (.iaload, 1) := by decide +kernel
theorem dX1_wake_14 : decode cX1_wake 14 = .ok (.istore_n 2, 1) := by decide +kernel
theorem dX1_wake_15 : decode cX1_wake 15 = .ok (.aload_n 0, 1) := by decide +kernel
theorem dX1_wake_16 : decode cX1_wake 16 = .ok (.getfield 10, 3) := by decide +kernel
theorem dX1_wake_19 : decode cX1_wake 19 = .ok (.getfield 65, 3) := by decide +kernel
theorem dX1_wake_22 : decode cX1_wake 22 = .ok (.iload_n 1, 1) := by decide +kernel
theorem dX1_wake_23 : decode cX1_wake 23 = .ok (.bipush 9, 2) := by decide +kernel
theorem dX1_wake_25 : decode cX1_wake 25 = .ok (.iastore, 1) := by decide +kernel
theorem dX1_wake_26 : decode cX1_wake 26 = .ok (.iload_n 2, 1) := by decide +kernel
theorem dX1_wake_27 : decode cX1_wake 27 = .ok (.ireturn, 1) := by decide +kernel
set_option maxRecDepth 20000 in
theorem ggX1_pass_X1_requireMinutes : GoodIn wsX1_pass wsX1_requireMinutes := goodIn_ca (goodIn_r _ [5, 6, 7] (by decide +kernel) (by decide +kernel)) (goodIn_sub (fun _ h => List.mem_cons_of_mem _ (List.mem_append_right _ h)) (by decide +kernel))
set_option maxRecDepth 20000 in
theorem gX1_pass_X1_requireMinutes : GoodIn wsX1_pass (va_wsS RX1 37 yX1_requireMinutes wsX1_requireMinutes) := goodIn_app (goodIn_of _ (by decide +kernel)) ggX1_pass_X1_requireMinutes
set_option maxRecDepth 20000 in
theorem ggX1_pass_X0_countIn : GoodIn wsX1_pass wsX0_countIn := goodIn_r _ [12, 13, 14, 85, 86, 87, 88, 89, 90, 91, 92, 93, 94, 95, 96, 97, 98, 99] (by decide +kernel) (by decide +kernel)
set_option maxRecDepth 20000 in
theorem gX1_pass_X0_countIn : GoodIn wsX1_pass (wsV RX1 68 RX0 yX0_countIn wsX0_countIn) := goodIn_app (goodIn_of _ (by decide +kernel)) ggX1_pass_X0_countIn
set_option maxRecDepth 20000 in
theorem ggX1_pass_X0_goOneMinute : GoodIn wsX1_pass wsX0_goOneMinute := goodIn_r _ [18, 19, 20, 21, 22, 23, 11, 24, 13, 14, 25, 26, 27, 28, 29, 30, 31, 32, 33, 34, 35, 36, 37, 38, 39, 40, 41, 42, 43, 44, 45, 46, 47, 48, 49, 50, 51, 52, 53, 54, 55, 56, 57, 58, 59, 60, 61, 62, 63, 64, 65, 66, 67, 68, 69, 70, 71, 72, 73, 74, 75, 76, 77, 78, 79, 80, 81, 82, 85, 86, 87, 88, 89, 90, 91, 92, 93, 94, 95, 96, 97, 98, 99] (by decide +kernel) (by decide +kernel)
set_option maxRecDepth 20000 in
theorem gX1_pass_X0_goOneMinute : GoodIn wsX1_pass (wsV RX1 72 RX0 yX0_goOneMinute wsX0_goOneMinute) := goodIn_app (goodIn_of _ (by decide +kernel)) ggX1_pass_X0_goOneMinute
theorem dX1_pass_0 : decode cX1_pass 0 = .ok (.iload_n 1, 1) := by decide +kernel
theorem dX1_pass_1 : decode cX1_pass 1 = .ok (.invokestatic 37, 3) := by decide +kernel
theorem dX1_pass_4 : decode cX1_pass 4 = .ok (.aload_n 0, 1) := by decide +kernel
theorem dX1_pass_5 : decode cX1_pass 5 = .ok (.getfield 10, 3) := by decide +kernel
theorem dX1_pass_8 : decode cX1_pass 8 = .ok (.iconst 3, 1) := by decide +kernel
theorem dX1_pass_9 : decode cX1_pass 9 = .ok (.invokevirtual 68, 3) := by decide +kernel
theorem dX1_pass_12 : decode cX1_pass 12 = .ok (.istore_n 2, 1) := by decide +kernel
theorem dX1_pass_13 : decode cX1_pass 13 = .ok (.iconst 0, 1) := by decide +kernel
theorem dX1_pass_14 : decode cX1_pass 14 = .ok (.istore_n 3, 1) := by decide +kernel
theorem dX1_pass_15 : decode cX1_pass 15 = .ok (.iload_n 3, 1) := by decide +kernel
theorem dX1_pass_16 : decode cX1_pass 16 = .ok (.iload_n 1, 1) := by decide +kernel
theorem dX1_pass_17 : decode cX1_pass 17 = .ok (.if_icmp .ge 16, 3) := by decide +kernel
theorem dX1_pass_20 : decode cX1_pass 20 = .ok (.aload_n 0, 1) := by decide +kernel
theorem dX1_pass_21 : decode cX1_pass 21 = .ok (.getfield 10, 3) := by decide +kernel
theorem dX1_pass_24 : decode cX1_pass 24 = .ok (.invokevirtual 72, 3) := by decide +kernel
theorem dX1_pass_27 : decode cX1_pass 27 = .ok (.iinc 3 1, 3) := by decide +kernel
theorem dX1_pass_30 : decode cX1_pass 30 = .ok (.goto (-15), 3) := by decide +kernel
theorem dX1_pass_33 : decode cX1_pass 33 = .ok (.aload_n 0, 1) := by decide +kernel
theorem dX1_pass_34 : decode cX1_pass 34 = .ok (.getfield 10, 3) := by decide +kernel
theorem dX1_pass_37 : decode cX1_pass 37 = .ok (.iconst 3, 1) := by decide +kernel
theorem dX1_pass_38 : decode cX1_pass 38 = .ok (.invokevirtual 68, 3) := by decide +kernel
theorem dX1_pass_41 : decode cX1_pass 41 = .ok (.iload_n 2, 1) := by decide +kernel
theorem dX1_pass_42 : decode cX1_pass 42 = .ok (.isub, 1) := by decide +kernel
theorem dX1_pass_43 : decode cX1_pass 43 = .ok (.ireturn, 1) := by decide +kernel
theorem dX1_minute_0 : decode cX1_minute 0 = .ok (.aload_n 0, 1) := by decide +kernel
theorem dX1_minute_1 : decode cX1_minute 1 = .ok (.getfield 10, 3) := by decide +kernel
theorem dX1_minute_4 : decode cX1_minute 4 = .ok (.getfield 75, 3) := by decide +kernel
theorem dX1_minute_7 : decode cX1_minute 7 = .ok (.ireturn, 1) := by decide +kernel
theorem dX1_travellers_0 : decode cX1_travellers 0 = .ok (.aload_n 0, 1) := by decide +kernel
theorem dX1_travellers_1 : decode cX1_travellers 1 = .ok (.getfield 10, 3) := by decide +kernel
theorem dX1_travellers_4 : decode cX1_travellers 4 = .ok (.getfield 40, 3) := by decide +kernel
theorem dX1_travellers_7 : decode cX1_travellers 7 = .ok (.ireturn, 1) := by decide +kernel
set_option maxRecDepth 20000 in
theorem ggX1_waiting_X0_countIn : GoodIn wsX1_waiting wsX0_countIn := goodIn_r _ [6, 7, 8, 11, 12, 13, 14, 15, 16, 17, 18, 19, 20, 21, 22, 23, 24, 25] (by decide +kernel) (by decide +kernel)
set_option maxRecDepth 20000 in
theorem gX1_waiting_X0_countIn : GoodIn wsX1_waiting (wsV RX1 68 RX0 yX0_countIn wsX0_countIn) := goodIn_app (goodIn_of _ (by decide +kernel)) ggX1_waiting_X0_countIn
theorem dX1_waiting_0 : decode cX1_waiting 0 = .ok (.aload_n 0, 1) := by decide +kernel
theorem dX1_waiting_1 : decode cX1_waiting 1 = .ok (.getfield 10, 3) := by decide +kernel
theorem dX1_waiting_4 : decode cX1_waiting 4 = .ok (.iconst 0, 1) := by decide +kernel
theorem dX1_waiting_5 : decode cX1_waiting 5 = .ok (.invokevirtual 68, 3) := by decide +kernel
theorem dX1_waiting_8 : decode cX1_waiting 8 = .ok (.ireturn, 1) := by decide +kernel
set_option maxRecDepth 20000 in
theorem ggX1_asleep_X0_countIn : GoodIn wsX1_asleep wsX0_countIn := goodIn_r _ [6, 7, 8, 11, 12, 13, 14, 15, 16, 17, 18, 19, 20, 21, 22, 23, 24, 25] (by decide +kernel) (by decide +kernel)
set_option maxRecDepth 20000 in
theorem gX1_asleep_X0_countIn : GoodIn wsX1_asleep (wsV RX1 68 RX0 yX0_countIn wsX0_countIn) := goodIn_app (goodIn_of _ (by decide +kernel)) ggX1_asleep_X0_countIn
theorem dX1_asleep_0 : decode cX1_asleep 0 = .ok (.aload_n 0, 1) := by decide +kernel
theorem dX1_asleep_1 : decode cX1_asleep 1 = .ok (.getfield 10, 3) := by decide +kernel
theorem dX1_asleep_4 : decode cX1_asleep 4 = .ok (.iconst 3, 1) := by decide +kernel
theorem dX1_asleep_5 : decode cX1_asleep 5 = .ok (.invokevirtual 68, 3) := by decide +kernel
theorem dX1_asleep_8 : decode cX1_asleep 8 = .ok (.ireturn, 1) := by decide +kernel
set_option maxRecDepth 20000 in
theorem ggX1_sentBack_X0_countIn : GoodIn wsX1_sentBack wsX0_countIn := goodIn_r _ [6, 7, 8, 11, 12, 13, 14, 15, 16, 17, 18, 19, 20, 21, 22, 23, 24, 25] (by decide +kernel) (by decide +kernel)
set_option maxRecDepth 20000 in
theorem gX1_sentBack_X0_countIn : GoodIn wsX1_sentBack (wsV RX1 68 RX0 yX0_countIn wsX0_countIn) := goodIn_app (goodIn_of _ (by decide +kernel)) ggX1_sentBack_X0_countIn
theorem dX1_sentBack_0 : decode cX1_sentBack 0 = .ok (.aload_n 0, 1) := by decide +kernel
theorem dX1_sentBack_1 : decode cX1_sentBack 1 = .ok (.getfield 10, 3) := by decide +kernel
theorem dX1_sentBack_4 : decode cX1_sentBack 4 = .ok (.iconst 4, 1) := by decide +kernel
theorem dX1_sentBack_5 : decode cX1_sentBack 5 = .ok (.invokevirtual 68, 3) := by decide +kernel
theorem dX1_sentBack_8 : decode cX1_sentBack 8 = .ok (.ireturn, 1) := by decide +kernel
theorem dX1_expired_0 : decode cX1_expired 0 = .ok (.aload_n 0, 1) := by decide +kernel
theorem dX1_expired_1 : decode cX1_expired 1 = .ok (.getfield 10, 3) := by decide +kernel
theorem dX1_expired_4 : decode cX1_expired 4 = .ok (.getfield 78, 3) := by decide +kernel
theorem dX1_expired_7 : decode cX1_expired 7 = .ok (.ireturn, 1) := by decide +kernel
theorem dX1_paid_0 : decode cX1_paid 0 = .ok (.aload_n 0, 1) := by decide +kernel
theorem dX1_paid_1 : decode cX1_paid 1 = .ok (.getfield 10, 3) := by decide +kernel
theorem dX1_paid_4 : decode cX1_paid 4 = .ok (.getfield 81, 3) := by decide +kernel
theorem dX1_paid_7 : decode cX1_paid 7 = .ok (.ireturn, 1) := by decide +kernel
set_option maxRecDepth 20000 in
theorem ggX1_noise_X0_addedSnores : GoodIn wsX1_noise wsX0_addedSnores := goodIn_r _ [6, 7, 8, 9, 12, 13, 14, 15, 16, 17, 18, 19, 20, 21, 22, 23, 24, 25, 26] (by decide +kernel) (by decide +kernel)
set_option maxRecDepth 20000 in
theorem gX1_noise_X0_addedSnores : GoodIn wsX1_noise (wsV RX1 84 RX0 yX0_addedSnores wsX0_addedSnores) := goodIn_app (goodIn_of _ (by decide +kernel)) ggX1_noise_X0_addedSnores
theorem dX1_noise_0 : decode cX1_noise 0 = .ok (.aload_n 0, 1) := by decide +kernel
theorem dX1_noise_1 : decode cX1_noise 1 = .ok (.getfield 10, 3) := by decide +kernel
theorem dX1_noise_4 : decode cX1_noise 4 = .ok (.invokevirtual 84, 3) := by decide +kernel
theorem dX1_noise_7 : decode cX1_noise 7 = .ok (.ireturn, 1) := by decide +kernel
set_option maxRecDepth 20000 in
theorem ggX1_nextInLine_X0_firstWaiting : GoodIn wsX1_nextInLine wsX0_firstWaiting := goodIn_r _ [6, 7, 8, 11, 12, 13, 14, 15, 16, 17, 18, 19, 20, 21, 22, 23, 24, 25] (by decide +kernel) (by decide +kernel)
set_option maxRecDepth 20000 in
theorem gX1_nextInLine_X0_firstWaiting : GoodIn wsX1_nextInLine (wsV RX1 88 RX0 yX0_firstWaiting wsX0_firstWaiting) := goodIn_app (goodIn_of _ (by decide +kernel)) ggX1_nextInLine_X0_firstWaiting
theorem dX1_nextInLine_0 : decode cX1_nextInLine 0 = .ok (.aload_n 0, 1) := by decide +kernel
theorem dX1_nextInLine_1 : decode cX1_nextInLine 1 = .ok (.getfield 10, 3) := by decide +kernel
theorem dX1_nextInLine_4 : decode cX1_nextInLine 4 = .ok (.invokevirtual 88, 3) := by decide +kernel
theorem dX1_nextInLine_7 : decode cX1_nextInLine 7 = .ok (.ireturn, 1) := by decide +kernel
set_option maxRecDepth 20000 in
theorem ggX1_stateOf_X1_requireTraveller : GoodIn wsX1_stateOf wsX1_requireTraveller := goodIn_ca (goodIn_r _ [7, 8, 9, 1, 10, 11, 12, 13, 14, 15, 16, 17, 18, 19, 20, 21, 22, 23, 24, 25, 26, 27, 28, 29, 30, 31, 32] (by decide +kernel) (by decide +kernel)) (goodIn_sub (fun _ h => List.mem_cons_of_mem _ (List.mem_append_right _ h)) (by decide +kernel))
set_option maxRecDepth 20000 in
theorem gX1_stateOf_X1_requireTraveller : GoodIn wsX1_stateOf (wsV RX1 49 RX1 yX1_requireTraveller wsX1_requireTraveller) := goodIn_app (goodIn_of _ (by decide +kernel)) ggX1_stateOf_X1_requireTraveller
theorem dX1_stateOf_0 : decode cX1_stateOf 0 = .ok (.aload_n 0, 1) := by decide +kernel
theorem dX1_stateOf_1 : decode cX1_stateOf 1 = .ok (.iload_n 1, 1) := by decide +kernel
theorem dX1_stateOf_2 : decode cX1_stateOf 2 = .ok (.invokevirtual 49, 3) := by decide +kernel
theorem dX1_stateOf_5 : decode cX1_stateOf 5 = .ok (.aload_n 0, 1) := by decide +kernel
theorem dX1_stateOf_6 : decode cX1_stateOf 6 = .ok (.getfield 10, 3) := by decide +kernel
theorem dX1_stateOf_9 : decode cX1_stateOf 9 = .ok (.getfield 91, 3) := by decide +kernel
theorem dX1_stateOf_12 : decode cX1_stateOf 12 = .ok (.iload_n 1, 1) := by decide +kernel
theorem dX1_stateOf_13 : decode cX1_stateOf 13 = .ok (.iaload, 1) := by decide +kernel
theorem dX1_stateOf_14 : decode cX1_stateOf 14 = .ok (.ireturn, 1) := by decide +kernel
set_option maxRecDepth 20000 in
theorem ggX1_hiddenOf_X1_requireTraveller : GoodIn wsX1_hiddenOf wsX1_requireTraveller := goodIn_ca (goodIn_r _ [6, 7, 8, 1, 9, 10, 11, 12, 13, 14, 25, 26, 27, 28, 29, 30, 31, 32, 33, 34, 35, 36, 37, 38, 39, 40, 41] (by decide +kernel) (by decide +kernel)) (goodIn_sub (fun _ h => List.mem_cons_of_mem _ (List.mem_append_right _ h)) (by decide +kernel))
set_option maxRecDepth 20000 in
theorem gX1_hiddenOf_X1_requireTraveller : GoodIn wsX1_hiddenOf (wsV RX1 49 RX1 yX1_requireTraveller wsX1_requireTraveller) := goodIn_app (goodIn_of _ (by decide +kernel)) ggX1_hiddenOf_X1_requireTraveller
set_option maxRecDepth 20000 in
theorem ggX1_hiddenOf_X0_hiddenDreams : GoodIn wsX1_hiddenOf wsX0_hiddenDreams := goodIn_r _ [18, 19, 20, 21, 22, 23, 24, 27, 28, 29, 30, 31, 32, 33, 34, 35, 36, 37, 38, 39, 40, 41] (by decide +kernel) (by decide +kernel)
set_option maxRecDepth 20000 in
theorem gX1_hiddenOf_X0_hiddenDreams : GoodIn wsX1_hiddenOf (wsV RX1 94 RX0 yX0_hiddenDreams wsX0_hiddenDreams) := goodIn_app (goodIn_of _ (by decide +kernel)) ggX1_hiddenOf_X0_hiddenDreams
theorem dX1_hiddenOf_0 : decode cX1_hiddenOf 0 = .ok (.aload_n 0, 1) := by decide +kernel
theorem dX1_hiddenOf_1 : decode cX1_hiddenOf 1 = .ok (.iload_n 1, 1) := by decide +kernel
theorem dX1_hiddenOf_2 : decode cX1_hiddenOf 2 = .ok (.invokevirtual 49, 3) := by decide +kernel
theorem dX1_hiddenOf_5 : decode cX1_hiddenOf 5 = .ok (.aload_n 0, 1) := by decide +kernel
theorem dX1_hiddenOf_6 : decode cX1_hiddenOf 6 = .ok (.getfield 10, 3) := by decide +kernel
theorem dX1_hiddenOf_9 : decode cX1_hiddenOf 9 = .ok (.iload_n 1, 1) := by decide +kernel
theorem dX1_hiddenOf_10 : decode cX1_hiddenOf 10 = .ok (.invokevirtual 94, 3) := by decide +kernel
theorem dX1_hiddenOf_13 : decode cX1_hiddenOf 13 = .ok (.ireturn, 1) := by decide +kernel
set_option maxRecDepth 20000 in
theorem ggX1_lullabyOf_X1_requireTraveller : GoodIn wsX1_lullabyOf wsX1_requireTraveller := goodIn_ca (goodIn_r _ [7, 8, 9, 1, 10, 11, 12, 13, 14, 15, 16, 17, 18, 19, 20, 21, 22, 23, 24, 25, 26, 27, 28, 29, 30, 31, 32] (by decide +kernel) (by decide +kernel)) (goodIn_sub (fun _ h => List.mem_cons_of_mem _ (List.mem_append_right _ h)) (by decide +kernel))
set_option maxRecDepth 20000 in
theorem gX1_lullabyOf_X1_requireTraveller : GoodIn wsX1_lullabyOf (wsV RX1 49 RX1 yX1_requireTraveller wsX1_requireTraveller) := goodIn_app (goodIn_of _ (by decide +kernel)) ggX1_lullabyOf_X1_requireTraveller
theorem dX1_lullabyOf_0 : decode cX1_lullabyOf 0 = .ok (.aload_n 0, 1) := by decide +kernel
theorem dX1_lullabyOf_1 : decode cX1_lullabyOf 1 = .ok (.iload_n 1, 1) := by decide +kernel
theorem dX1_lullabyOf_2 : decode cX1_lullabyOf 2 = .ok (.invokevirtual 49, 3) := by decide +kernel
theorem dX1_lullabyOf_5 : decode cX1_lullabyOf 5 = .ok (.aload_n 0, 1) := by decide +kernel
theorem dX1_lullabyOf_6 : decode cX1_lullabyOf 6 = .ok (.getfield 10, 3) := by decide +kernel
theorem dX1_lullabyOf_9 : decode cX1_lullabyOf 9 = .ok (.getfield 59, 3) := by decide +kernel
theorem dX1_lullabyOf_12 : decode cX1_lullabyOf 12 = .ok (.iload_n 1, 1) := by decide +kernel
theorem dX1_lullabyOf_13 : decode cX1_lullabyOf 13 = .ok (.iaload, 1) := by decide +kernel
theorem dX1_lullabyOf_14 : decode cX1_lullabyOf 14 = .ok (.ireturn, 1) := by decide +kernel
set_option maxRecDepth 20000 in
theorem ggX1_placeInLine_X1_requireTraveller : GoodIn wsX1_placeInLine wsX1_requireTraveller := goodIn_ca (goodIn_r _ [7, 8, 9, 1, 10, 11, 12, 13, 14, 15, 21, 22, 23, 24, 25, 26, 27, 28, 29, 30, 31, 32, 33, 34, 35, 36, 37] (by decide +kernel) (by decide +kernel)) (goodIn_sub (fun _ h => List.mem_cons_of_mem _ (List.mem_append_right _ h)) (by decide +kernel))
set_option maxRecDepth 20000 in
theorem gX1_placeInLine_X1_requireTraveller : GoodIn wsX1_placeInLine (wsV RX1 49 RX1 yX1_requireTraveller wsX1_requireTraveller) := goodIn_app (goodIn_of _ (by decide +kernel)) ggX1_placeInLine_X1_requireTraveller
set_option maxRecDepth 20000 in
theorem ggX1_placeInLine_X0_waitingAhead : GoodIn wsX1_placeInLine wsX0_waitingAhead := goodIn_r _ [19, 15, 20, 23, 24, 25, 26, 27, 28, 29, 30, 31, 32, 33, 34, 35, 36, 37] (by decide +kernel) (by decide +kernel)
set_option maxRecDepth 20000 in
theorem gX1_placeInLine_X0_waitingAhead : GoodIn wsX1_placeInLine (wsV RX1 97 RX0 yX0_waitingAhead wsX0_waitingAhead) := goodIn_app (goodIn_of _ (by decide +kernel)) ggX1_placeInLine_X0_waitingAhead
theorem dX1_placeInLine_0 : decode cX1_placeInLine 0 = .ok (.aload_n 0, 1) := by decide +kernel
theorem dX1_placeInLine_1 : decode cX1_placeInLine 1 = .ok (.iload_n 1, 1) := by decide +kernel
theorem dX1_placeInLine_2 : decode cX1_placeInLine 2 = .ok (.invokevirtual 49, 3) := by decide +kernel
theorem dX1_placeInLine_5 : decode cX1_placeInLine 5 = .ok (.aload_n 0, 1) := by decide +kernel
theorem dX1_placeInLine_6 : decode cX1_placeInLine 6 = .ok (.getfield 10, 3) := by decide +kernel
theorem dX1_placeInLine_9 : decode cX1_placeInLine 9 = .ok (.getfield 91, 3) := by decide +kernel
theorem dX1_placeInLine_12 : decode cX1_placeInLine 12 = .ok (.iload_n 1, 1) := by decide +kernel
theorem dX1_placeInLine_13 : decode cX1_placeInLine 13 = .ok (.iaload, 1) := by decide +kernel
theorem dX1_placeInLine_14 : decode cX1_placeInLine 14 = .ok (.ifCond .eq 5, 3) := by decide +kernel
theorem dX1_placeInLine_17 : decode cX1_placeInLine 17 = .ok (.iconst (-1), 1) := by decide +kernel
theorem dX1_placeInLine_18 : decode cX1_placeInLine 18 = .ok (.ireturn, 1) := by decide +kernel
theorem dX1_placeInLine_19 : decode cX1_placeInLine 19 = .ok (.aload_n 0, 1) := by decide +kernel
theorem dX1_placeInLine_20 : decode cX1_placeInLine 20 = .ok (.getfield 10, 3) := by decide +kernel
theorem dX1_placeInLine_23 : decode cX1_placeInLine 23 = .ok (.iload_n 1, 1) := by decide +kernel
theorem dX1_placeInLine_24 : decode cX1_placeInLine 24 = .ok (.invokevirtual 97, 3) := by decide +kernel
theorem dX1_placeInLine_27 : decode cX1_placeInLine 27 = .ok (.ireturn, 1) := by decide +kernel
set_option maxRecDepth 20000 in
theorem ggX1_searchTime_X1_requireTraveller : GoodIn wsX1_searchTime wsX1_requireTraveller := goodIn_ca (goodIn_r _ [6, 7, 8, 1, 9, 10, 11, 12, 13, 14, 26, 27, 28, 29, 30, 31, 32, 33, 34, 35, 36, 37, 38, 39, 40, 41, 42] (by decide +kernel) (by decide +kernel)) (goodIn_sub (fun _ h => List.mem_cons_of_mem _ (List.mem_append_right _ h)) (by decide +kernel))
set_option maxRecDepth 20000 in
theorem gX1_searchTime_X1_requireTraveller : GoodIn wsX1_searchTime (wsV RX1 49 RX1 yX1_requireTraveller wsX1_requireTraveller) := goodIn_app (goodIn_of _ (by decide +kernel)) ggX1_searchTime_X1_requireTraveller
set_option maxRecDepth 20000 in
theorem ggX1_searchTime_X0_searchMinutes : GoodIn wsX1_searchTime wsX0_searchMinutes := goodIn_r _ [18, 19, 20, 21, 22, 12, 23, 14, 24, 25, 28, 29, 30, 31, 32, 33, 34, 35, 36, 37, 38, 39, 40, 41, 42] (by decide +kernel) (by decide +kernel)
set_option maxRecDepth 20000 in
theorem gX1_searchTime_X0_searchMinutes : GoodIn wsX1_searchTime (wsV RX1 100 RX0 yX0_searchMinutes wsX0_searchMinutes) := goodIn_app (goodIn_of _ (by decide +kernel)) ggX1_searchTime_X0_searchMinutes
theorem dX1_searchTime_0 : decode cX1_searchTime 0 = .ok (.aload_n 0, 1) := by decide +kernel
theorem dX1_searchTime_1 : decode cX1_searchTime 1 = .ok (.iload_n 1, 1) := by decide +kernel
theorem dX1_searchTime_2 : decode cX1_searchTime 2 = .ok (.invokevirtual 49, 3) := by decide +kernel
theorem dX1_searchTime_5 : decode cX1_searchTime 5 = .ok (.aload_n 0, 1) := by decide +kernel
theorem dX1_searchTime_6 : decode cX1_searchTime 6 = .ok (.getfield 10, 3) := by decide +kernel
theorem dX1_searchTime_9 : decode cX1_searchTime 9 = .ok (.iload_n 1, 1) := by decide +kernel
theorem dX1_searchTime_10 : decode cX1_searchTime 10 = .ok (.invokevirtual 100, 3) := by decide +kernel
theorem dX1_searchTime_13 : decode cX1_searchTime 13 = .ok (.ireturn, 1) := by decide +kernel
theorem dX1_guards_0 : decode cX1_guards 0 = .ok (.aload_n 0, 1) := by decide +kernel
theorem dX1_guards_1 : decode cX1_guards 1 = .ok (.getfield 10, 3) := by decide +kernel
theorem dX1_guards_4 : decode cX1_guards 4 = .ok (.getfield 19, 3) := by decide +kernel
theorem dX1_guards_7 : decode cX1_guards 7 = .ok (.ireturn, 1) := by decide +kernel
set_option maxRecDepth 20000 in
theorem ggX1_alertnessOf_X1_requireGuard : GoodIn wsX1_alertnessOf wsX1_requireGuard := goodIn_ca (goodIn_r _ [7, 8, 9, 1, 10, 11, 12, 13, 14, 15, 16, 17, 18, 19, 20, 21, 22, 23, 24, 25, 26, 27, 28, 29, 30, 31, 32] (by decide +kernel) (by decide +kernel)) (goodIn_sub (fun _ h => List.mem_cons_of_mem _ (List.mem_append_right _ h)) (by decide +kernel))
set_option maxRecDepth 20000 in
theorem gX1_alertnessOf_X1_requireGuard : GoodIn wsX1_alertnessOf (wsV RX1 62 RX1 yX1_requireGuard wsX1_requireGuard) := goodIn_app (goodIn_of _ (by decide +kernel)) ggX1_alertnessOf_X1_requireGuard
theorem dX1_alertnessOf_0 : decode cX1_alertnessOf 0 = .ok (.aload_n 0, 1) := by decide +kernel
theorem dX1_alertnessOf_1 : decode cX1_alertnessOf 1 = .ok (.iload_n 1, 1) := by decide +kernel
theorem dX1_alertnessOf_2 : decode cX1_alertnessOf 2 = .ok (.invokevirtual 62, 3) := by decide +kernel
theorem dX1_alertnessOf_5 : decode cX1_alertnessOf 5 = .ok (.aload_n 0, 1) := by decide +kernel
theorem dX1_alertnessOf_6 : decode cX1_alertnessOf 6 = .ok (.getfield 10, 3) := by decide +kernel
theorem dX1_alertnessOf_9 : decode cX1_alertnessOf 9 = .ok (.getfield 65, 3) := by decide +kernel
theorem dX1_alertnessOf_12 : decode cX1_alertnessOf 12 = .ok (.iload_n 1, 1) := by decide +kernel
theorem dX1_alertnessOf_13 : decode cX1_alertnessOf 13 = .ok (.iaload, 1) := by decide +kernel
theorem dX1_alertnessOf_14 : decode cX1_alertnessOf 14 = .ok (.ireturn, 1) := by decide +kernel
set_option maxRecDepth 20000 in
theorem ggX1_searches_X1_requireGuard : GoodIn wsX1_searches wsX1_requireGuard := goodIn_ca (goodIn_r _ [7, 8, 9, 1, 10, 11, 12, 13, 14, 15, 16, 17, 18, 19, 20, 21, 22, 23, 24, 25, 26, 27, 28, 29, 30, 31, 32] (by decide +kernel) (by decide +kernel)) (goodIn_sub (fun _ h => List.mem_cons_of_mem _ (List.mem_append_right _ h)) (by decide +kernel))
set_option maxRecDepth 20000 in
theorem gX1_searches_X1_requireGuard : GoodIn wsX1_searches (wsV RX1 62 RX1 yX1_requireGuard wsX1_requireGuard) := goodIn_app (goodIn_of _ (by decide +kernel)) ggX1_searches_X1_requireGuard
theorem dX1_searches_0 : decode cX1_searches 0 = .ok (.aload_n 0, 1) := by decide +kernel
theorem dX1_searches_1 : decode cX1_searches 1 = .ok (.iload_n 1, 1) := by decide +kernel
theorem dX1_searches_2 : decode cX1_searches 2 = .ok (.invokevirtual 62, 3) := by decide +kernel
theorem dX1_searches_5 : decode cX1_searches 5 = .ok (.aload_n 0, 1) := by decide +kernel
theorem dX1_searches_6 : decode cX1_searches 6 = .ok (.getfield 10, 3) := by decide +kernel
theorem dX1_searches_9 : decode cX1_searches 9 = .ok (.getfield 103, 3) := by decide +kernel
theorem dX1_searches_12 : decode cX1_searches 12 = .ok (.iload_n 1, 1) := by decide +kernel
theorem dX1_searches_13 : decode cX1_searches 13 = .ok (.iaload, 1) := by decide +kernel
theorem dX1_searches_14 : decode cX1_searches 14 = .ok (.ireturn, 1) := by decide +kernel
set_option maxRecDepth 20000 in
theorem ggX1_minutesToGo_X1_requireGuard : GoodIn wsX1_minutesToGo wsX1_requireGuard := goodIn_ca (goodIn_r _ [7, 8, 9, 1, 10, 11, 12, 13, 14, 15, 16, 17, 18, 19, 20, 21, 22, 23, 24, 25, 26, 27, 28, 29, 30, 31, 32] (by decide +kernel) (by decide +kernel)) (goodIn_sub (fun _ h => List.mem_cons_of_mem _ (List.mem_append_right _ h)) (by decide +kernel))
set_option maxRecDepth 20000 in
theorem gX1_minutesToGo_X1_requireGuard : GoodIn wsX1_minutesToGo (wsV RX1 62 RX1 yX1_requireGuard wsX1_requireGuard) := goodIn_app (goodIn_of _ (by decide +kernel)) ggX1_minutesToGo_X1_requireGuard
theorem dX1_minutesToGo_0 : decode cX1_minutesToGo 0 = .ok (.aload_n 0, 1) := by decide +kernel
theorem dX1_minutesToGo_1 : decode cX1_minutesToGo 1 = .ok (.iload_n 1, 1) := by decide +kernel
theorem dX1_minutesToGo_2 : decode cX1_minutesToGo 2 = .ok (.invokevirtual 62, 3) := by decide +kernel
theorem dX1_minutesToGo_5 : decode cX1_minutesToGo 5 = .ok (.aload_n 0, 1) := by decide +kernel
theorem dX1_minutesToGo_6 : decode cX1_minutesToGo 6 = .ok (.getfield 10, 3) := by decide +kernel
theorem dX1_minutesToGo_9 : decode cX1_minutesToGo 9 = .ok (.getfield 106, 3) := by decide +kernel
theorem dX1_minutesToGo_12 : decode cX1_minutesToGo 12 = .ok (.iload_n 1, 1) := by decide +kernel
theorem dX1_minutesToGo_13 : decode cX1_minutesToGo 13 = .ok (.iaload, 1) := by decide +kernel
theorem dX1_minutesToGo_14 : decode cX1_minutesToGo 14 = .ok (.ireturn, 1) := by decide +kernel
set_option maxRecDepth 20000 in
theorem ggX1_wouldFind_X1_requireGuard : GoodIn wsX1_wouldFind wsX1_requireGuard := goodIn_ca (goodIn_r _ [6, 7, 8, 1, 9, 10, 11, 12, 13, 14, 39, 40, 41, 42, 43, 44, 45, 46, 47, 48, 49, 50, 51, 52, 53, 54, 55] (by decide +kernel) (by decide +kernel)) (goodIn_sub (fun _ h => List.mem_cons_of_mem _ (List.mem_append_right _ h)) (by decide +kernel))
set_option maxRecDepth 20000 in
theorem gX1_wouldFind_X1_requireGuard : GoodIn wsX1_wouldFind (wsV RX1 62 RX1 yX1_requireGuard wsX1_requireGuard) := goodIn_app (goodIn_of _ (by decide +kernel)) ggX1_wouldFind_X1_requireGuard
set_option maxRecDepth 20000 in
theorem ggX1_wouldFind_X1_requireTraveller : GoodIn wsX1_wouldFind wsX1_requireTraveller := goodIn_ca (goodIn_r _ [18, 7, 8, 1, 19, 20, 21, 12, 22, 23, 39, 40, 41, 42, 43, 44, 45, 46, 47, 48, 49, 50, 51, 52, 53, 54, 55] (by decide +kernel) (by decide +kernel)) (goodIn_sub (fun _ h => List.mem_cons_of_mem _ (List.mem_append_right _ h)) (by decide +kernel))
set_option maxRecDepth 20000 in
theorem gX1_wouldFind_X1_requireTraveller : GoodIn wsX1_wouldFind (wsV RX1 49 RX1 yX1_requireTraveller wsX1_requireTraveller) := goodIn_app (goodIn_of _ (by decide +kernel)) ggX1_wouldFind_X1_requireTraveller
set_option maxRecDepth 20000 in
theorem ggX1_wouldFind_X0_finds : GoodIn wsX1_wouldFind wsX0_finds := goodIn_r _ [27, 28, 29, 30, 31, 12, 32, 33, 34, 35, 36, 37, 38, 41, 42, 43, 44, 45, 46, 47, 48, 49, 50, 51, 52, 53, 54, 55] (by decide +kernel) (by decide +kernel)
set_option maxRecDepth 20000 in
theorem gX1_wouldFind_X0_finds : GoodIn wsX1_wouldFind (wsV RX1 109 RX0 yX0_finds wsX0_finds) := goodIn_app (goodIn_of _ (by decide +kernel)) ggX1_wouldFind_X0_finds
theorem dX1_wouldFind_0 : decode cX1_wouldFind 0 = .ok (.aload_n 0, 1) := by decide +kernel
theorem dX1_wouldFind_1 : decode cX1_wouldFind 1 = .ok (.iload_n 1, 1) := by decide +kernel
theorem dX1_wouldFind_2 : decode cX1_wouldFind 2 = .ok (.invokevirtual 62, 3) := by decide +kernel
theorem dX1_wouldFind_5 : decode cX1_wouldFind 5 = .ok (.aload_n 0, 1) := by decide +kernel
theorem dX1_wouldFind_6 : decode cX1_wouldFind 6 = .ok (.iload_n 2, 1) := by decide +kernel
theorem dX1_wouldFind_7 : decode cX1_wouldFind 7 = .ok (.invokevirtual 49, 3) := by decide +kernel
theorem dX1_wouldFind_10 : decode cX1_wouldFind 10 = .ok (.aload_n 0, 1) := by decide +kernel
theorem dX1_wouldFind_11 : decode cX1_wouldFind 11 = .ok (.getfield 10, 3) := by decide +kernel
theorem dX1_wouldFind_14 : decode cX1_wouldFind 14 = .ok (.iload_n 1, 1) := by decide +kernel
theorem dX1_wouldFind_15 : decode cX1_wouldFind 15 = .ok (.iload_n 2, 1) := by decide +kernel
theorem dX1_wouldFind_16 : decode cX1_wouldFind 16 = .ok (.invokevirtual 109, 3) := by decide +kernel
theorem dX1_wouldFind_19 : decode cX1_wouldFind 19 = .ok (.ireturn, 1) := by decide +kernel
theorem dX1_mostAlert_0 : decode cX1_mostAlert 0 = .ok (.iconst (-1), 1) := by decide +kernel
theorem dX1_mostAlert_1 : decode cX1_mostAlert 1 = .ok (.istore_n 1, 1) := by decide +kernel
theorem dX1_mostAlert_2 : decode cX1_mostAlert 2 = .ok (.iconst (-1), 1) := by decide +kernel
theorem dX1_mostAlert_3 : decode cX1_mostAlert 3 = .ok (.istore_n 2, 1) := by decide +kernel
theorem dX1_mostAlert_4 : decode cX1_mostAlert 4 = .ok (.iconst 0, 1) := by decide +kernel
theorem dX1_mostAlert_5 : decode cX1_mostAlert 5 = .ok (.istore_n 3, 1) := by decide +kernel
theorem dX1_mostAlert_6 : decode cX1_mostAlert 6 = .ok (.iload_n 3, 1) := by decide +kernel
theorem dX1_mostAlert_7 : decode cX1_mostAlert 7 = .ok (.aload_n 0, 1) := by decide +kernel
theorem dX1_mostAlert_8 : decode cX1_mostAlert 8 = .ok (.getfield 10, 3) := by decide +kernel
theorem dX1_mostAlert_11 : decode cX1_mostAlert 11 = .ok (.getfield 19, 3) := by decide +kernel
theorem dX1_mostAlert_14 : decode cX1_mostAlert 14 = .ok (.if_icmp .ge 34, 3) := by decide +kernel
theorem dX1_mostAlert_17 : decode cX1_mostAlert 17 = .ok (.aload_n 0, 1) := by decide +kernel
theorem dX1_mostAlert_18 : decode cX1_mostAlert 18 = .ok (.getfield 10, 3) := by decide +kernel
theorem dX1_mostAlert_21 : decode cX1_mostAlert 21 = .ok (.getfield 65, 3) := by decide +kernel
theorem dX1_mostAlert_24 : decode cX1_mostAlert 24 = .ok (.iload_n 3, 1) := by decide +kernel
theorem dX1_mostAlert_25 : decode cX1_mostAlert 25 = .ok (.iaload, 1) := by decide +kernel
theorem dX1_mostAlert_26 : decode cX1_mostAlert 26 = .ok (.iload_n 2, 1) := by decide +kernel
theorem dX1_mostAlert_27 : decode cX1_mostAlert 27 = .ok (.if_icmp .le 15, 3) := by decide +kernel
theorem dX1_mostAlert_30 : decode cX1_mostAlert 30 = .ok (.iload_n 3, 1) := by decide +kernel
theorem dX1_mostAlert_31 : decode cX1_mostAlert 31 = .ok (.istore_n 1, 1) := by decide +kernel
theorem dX1_mostAlert_32 : decode cX1_mostAlert 32 = .ok (.aload_n 0, 1) := by decide +kernel
theorem dX1_mostAlert_33 : decode cX1_mostAlert 33 = .ok (.getfield 10, 3) := by decide +kernel
theorem dX1_mostAlert_36 : decode cX1_mostAlert 36 = .ok (.getfield 65, 3) := by decide +kernel
theorem dX1_mostAlert_39 : decode cX1_mostAlert 39 = .ok (.iload_n 3, 1) := by decide +kernel
theorem dX1_mostAlert_40 : decode cX1_mostAlert 40 = .ok (.iaload, 1) := by decide +kernel
theorem dX1_mostAlert_41 : decode cX1_mostAlert 41 = .ok (.istore_n 2, 1) := by decide +kernel
theorem dX1_mostAlert_42 : decode cX1_mostAlert 42 = .ok (.iinc 3 1, 3) := by decide +kernel
theorem dX1_mostAlert_45 : decode cX1_mostAlert 45 = .ok (.goto (-39), 3) := by decide +kernel
theorem dX1_mostAlert_48 : decode cX1_mostAlert 48 = .ok (.iload_n 1, 1) := by decide +kernel
theorem dX1_mostAlert_49 : decode cX1_mostAlert 49 = .ok (.ireturn, 1) := by decide +kernel
set_option maxRecDepth 20000 in
theorem ggX1_minutesUntilAsleep_X1_requireTraveller : GoodIn wsX1_minutesUntilAsleep wsX1_requireTraveller := goodIn_ca (goodIn_r _ [7, 8, 9, 2, 10, 11, 12, 13, 14, 15, 101, 102, 103, 104, 105, 106, 107, 108, 109, 110, 111, 112, 113, 114, 115, 116, 117] (by decide +kernel) (by decide +kernel)) (goodIn_sub (fun _ h => List.mem_cons_of_mem _ (List.mem_append_right _ h)) (by decide +kernel))
set_option maxRecDepth 20000 in
theorem gX1_minutesUntilAsleep_X1_requireTraveller : GoodIn wsX1_minutesUntilAsleep (wsV RX1 49 RX1 yX1_requireTraveller wsX1_requireTraveller) := goodIn_app (goodIn_of _ (by decide +kernel)) ggX1_minutesUntilAsleep_X1_requireTraveller
set_option maxRecDepth 20000 in
theorem ggX1_minutesUntilAsleep_X0_become : GoodIn wsX1_minutesUntilAsleep wsX0_become := goodIn_r _ [19, 20, 21, 22, 15, 23, 24, 25, 26, 27, 28, 29, 30, 31, 32, 33, 103, 104, 105, 106, 107, 108, 109, 110, 111, 112, 113, 114, 115, 116, 117] (by decide +kernel) (by decide +kernel)
set_option maxRecDepth 20000 in
theorem gX1_minutesUntilAsleep_X0_become : GoodIn wsX1_minutesUntilAsleep (wsV RX1 113 RX0 yX0_become wsX0_become) := goodIn_app (goodIn_of _ (by decide +kernel)) ggX1_minutesUntilAsleep_X0_become
set_option maxRecDepth 20000 in
theorem ggX1_minutesUntilAsleep_X0_goOn : GoodIn wsX1_minutesUntilAsleep wsX0_goOn := goodIn_r _ [37, 38, 39, 40, 13, 41, 15, 27, 42, 43, 44, 45, 30, 20, 46, 47, 48, 49, 28, 29, 50, 51, 52, 53, 26, 21, 54, 55, 56, 57, 32, 31, 58, 59, 60, 61, 62, 11, 12, 14, 63, 64, 65, 66, 33, 22, 67, 68, 69, 70, 71, 72, 73, 74, 75, 76, 77, 23, 24, 78, 79, 80, 81, 82, 83, 84, 85, 86, 87, 88, 89, 90, 91, 92, 93, 25, 103, 104, 105, 106, 107, 108, 109, 110, 111, 112, 113, 114, 115, 116, 117] (by decide +kernel) (by decide +kernel)
set_option maxRecDepth 20000 in
theorem gX1_minutesUntilAsleep_X0_goOn : GoodIn wsX1_minutesUntilAsleep (wsV RX1 117 RX0 yX0_goOn wsX0_goOn) := goodIn_app (goodIn_of _ (by decide +kernel)) ggX1_minutesUntilAsleep_X0_goOn
set_option maxRecDepth 20000 in
theorem ggX1_minutesUntilAsleep_X1_foreseenSleep : GoodIn wsX1_minutesUntilAsleep wsX1_foreseenSleep := goodIn_r _ [97, 2, 98, 1, 99, 100, 101, 102, 103, 104, 105, 106, 107, 108, 109, 110, 111, 112, 113, 114, 115, 116, 117] (by decide +kernel) (by decide +kernel)
set_option maxRecDepth 20000 in
theorem gX1_minutesUntilAsleep_X1_foreseenSleep : GoodIn wsX1_minutesUntilAsleep (wsV RX1 120 RX1 yX1_foreseenSleep wsX1_foreseenSleep) := goodIn_app (goodIn_of _ (by decide +kernel)) ggX1_minutesUntilAsleep_X1_foreseenSleep
theorem dX1_minutesUntilAsleep_0 : decode cX1_minutesUntilAsleep 0 = .ok (.aload_n 0, 1) := by decide +kernel
theorem dX1_minutesUntilAsleep_1 : decode cX1_minutesUntilAsleep 1 = .ok (.iload_n 1, 1) := by decide +kernel
theorem dX1_minutesUntilAsleep_2 : decode cX1_minutesUntilAsleep 2 = .ok (.invokevirtual 49, 3) := by decide +kernel
theorem dX1_minutesUntilAsleep_5 : decode cX1_minutesUntilAsleep 5 = .ok (.aload_n 0, 1) := by decide +kernel
theorem dX1_minutesUntilAsleep_6 : decode cX1_minutesUntilAsleep 6 = .ok (.getfield 16, 3) := by decide +kernel
theorem dX1_minutesUntilAsleep_9 : decode cX1_minutesUntilAsleep 9 = .ok (.aload_n 0, 1) := by decide +kernel
theorem dX1_minutesUntilAsleep_10 : decode cX1_minutesUntilAsleep 10 = .ok (.getfield 10, 3) := by decide +kernel
theorem dX1_minutesUntilAsleep_13 : decode cX1_minutesUntilAsleep 13 = .ok (.invokevirtual 113, 3) := by decide +kernel
theorem dX1_minutesUntilAsleep_16 : decode cX1_minutesUntilAsleep 16 = .ok (.aload_n 0, 1) := by decide +kernel
theorem dX1_minutesUntilAsleep_17 : decode cX1_minutesUntilAsleep 17 = .ok (.getfield 16, 3) := by decide +kernel
theorem dX1_minutesUntilAsleep_20 : decode cX1_minutesUntilAsleep 20 = .ok (.bipush 100, 2) := by decide +kernel
theorem dX1_minutesUntilAsleep_22 : decode cX1_minutesUntilAsleep 22 = .ok (.invokevirtual 117, 3) := by decide +kernel
theorem dX1_minutesUntilAsleep_25 : decode cX1_minutesUntilAsleep 25 = .ok (.aload_n 0, 1) := by decide +kernel
theorem dX1_minutesUntilAsleep_26 : decode cX1_minutesUntilAsleep 26 = .ok (.iload_n 1, 1) := by decide +kernel
theorem dX1_minutesUntilAsleep_27 : decode cX1_minutesUntilAsleep 27 = .ok (.invokevirtual 120, 3) := by decide +kernel
theorem dX1_minutesUntilAsleep_30 : decode cX1_minutesUntilAsleep 30 = .ok (.ireturn, 1) := by decide +kernel
set_option maxRecDepth 20000 in
theorem ggX1_asleepIn_X1_requireMinutes : GoodIn wsX1_asleepIn wsX1_requireMinutes := goodIn_ca (goodIn_r _ [6, 7, 8] (by decide +kernel) (by decide +kernel)) (goodIn_sub (fun _ h => List.mem_cons_of_mem _ (List.mem_append_right _ h)) (by decide +kernel))
set_option maxRecDepth 20000 in
theorem gX1_asleepIn_X1_requireMinutes : GoodIn wsX1_asleepIn (va_wsS RX1 37 yX1_requireMinutes wsX1_requireMinutes) := goodIn_app (goodIn_of _ (by decide +kernel)) ggX1_asleepIn_X1_requireMinutes
set_option maxRecDepth 20000 in
theorem ggX1_asleepIn_X0_become : GoodIn wsX1_asleepIn wsX0_become := goodIn_r _ [13, 14, 15, 16, 17, 18, 19, 20, 21, 22, 23, 24, 25, 26, 27, 28, 98, 99, 100, 101, 102, 103, 104, 105, 106, 107, 108, 109, 110, 111, 112] (by decide +kernel) (by decide +kernel)
set_option maxRecDepth 20000 in
theorem gX1_asleepIn_X0_become : GoodIn wsX1_asleepIn (wsV RX1 113 RX0 yX0_become wsX0_become) := goodIn_app (goodIn_of _ (by decide +kernel)) ggX1_asleepIn_X0_become
set_option maxRecDepth 20000 in
theorem ggX1_asleepIn_X0_goOn : GoodIn wsX1_asleepIn wsX0_goOn := goodIn_r _ [32, 33, 34, 35, 12, 36, 17, 22, 37, 38, 39, 40, 25, 14, 41, 42, 43, 44, 23, 24, 45, 46, 47, 48, 21, 15, 49, 50, 51, 52, 27, 26, 53, 54, 55, 56, 57, 58, 59, 60, 61, 62, 63, 64, 28, 16, 65, 66, 67, 68, 69, 70, 71, 72, 73, 74, 75, 18, 19, 76, 77, 78, 79, 80, 81, 82, 83, 84, 85, 86, 87, 88, 89, 90, 91, 20, 98, 99, 100, 101, 102, 103, 104, 105, 106, 107, 108, 109, 110, 111, 112] (by decide +kernel) (by decide +kernel)
set_option maxRecDepth 20000 in
theorem gX1_asleepIn_X0_goOn : GoodIn wsX1_asleepIn (wsV RX1 117 RX0 yX0_goOn wsX0_goOn) := goodIn_app (goodIn_of _ (by decide +kernel)) ggX1_asleepIn_X0_goOn
set_option maxRecDepth 20000 in
theorem ggX1_asleepIn_X0_countIn : GoodIn wsX1_asleepIn wsX0_countIn := goodIn_r _ [95, 17, 22, 98, 99, 100, 101, 102, 103, 104, 105, 106, 107, 108, 109, 110, 111, 112] (by decide +kernel) (by decide +kernel)
set_option maxRecDepth 20000 in
theorem gX1_asleepIn_X0_countIn : GoodIn wsX1_asleepIn (wsV RX1 68 RX0 yX0_countIn wsX0_countIn) := goodIn_app (goodIn_of _ (by decide +kernel)) ggX1_asleepIn_X0_countIn
theorem dX1_asleepIn_0 : decode cX1_asleepIn 0 = .ok (.iload_n 1, 1) := by decide +kernel
theorem dX1_asleepIn_1 : decode cX1_asleepIn 1 = .ok (.invokestatic 37, 3) := by decide +kernel
theorem dX1_asleepIn_4 : decode cX1_asleepIn 4 = .ok (.aload_n 0, 1) := by decide +kernel
theorem dX1_asleepIn_5 : decode cX1_asleepIn 5 = .ok (.getfield 16, 3) := by decide +kernel
theorem dX1_asleepIn_8 : decode cX1_asleepIn 8 = .ok (.aload_n 0, 1) := by decide +kernel
theorem dX1_asleepIn_9 : decode cX1_asleepIn 9 = .ok (.getfield 10, 3) := by decide +kernel
theorem dX1_asleepIn_12 : decode cX1_asleepIn 12 = .ok (.invokevirtual 113, 3) := by decide +kernel
theorem dX1_asleepIn_15 : decode cX1_asleepIn 15 = .ok (.aload_n 0, 1) := by decide +kernel
theorem dX1_asleepIn_16 : decode cX1_asleepIn 16 = .ok (.getfield 16, 3) := by decide +kernel
theorem dX1_asleepIn_19 : decode cX1_asleepIn 19 = .ok (.iload_n 1, 1) := by decide +kernel
theorem dX1_asleepIn_20 : decode cX1_asleepIn 20 = .ok (.invokevirtual 117, 3) := by decide +kernel
theorem dX1_asleepIn_23 : decode cX1_asleepIn 23 = .ok (.aload_n 0, 1) := by decide +kernel
theorem dX1_asleepIn_24 : decode cX1_asleepIn 24 = .ok (.getfield 16, 3) := by decide +kernel
theorem dX1_asleepIn_27 : decode cX1_asleepIn 27 = .ok (.iconst 3, 1) := by decide +kernel
theorem dX1_asleepIn_28 : decode cX1_asleepIn 28 = .ok (.invokevirtual 68, 3) := by decide +kernel
theorem dX1_asleepIn_31 : decode cX1_asleepIn 31 = .ok (.ireturn, 1) := by decide +kernel
set_option maxRecDepth 20000 in
theorem ggX1_bestToDeclare_X1_requireTraveller : GoodIn wsX1_bestToDeclare wsX1_requireTraveller := goodIn_ca (goodIn_r _ [9, 10, 11, 1, 12, 13, 14, 15, 16, 17, 102, 103, 104, 105, 106, 107, 108, 109, 110, 111, 112, 113, 114, 115, 116, 117, 118] (by decide +kernel) (by decide +kernel)) (goodIn_sub (fun _ h => List.mem_cons_of_mem _ (List.mem_append_right _ h)) (by decide +kernel))
set_option maxRecDepth 20000 in
theorem gX1_bestToDeclare_X1_requireTraveller : GoodIn wsX1_bestToDeclare (wsV RX1 49 RX1 yX1_requireTraveller wsX1_requireTraveller) := goodIn_app (goodIn_of _ (by decide +kernel)) ggX1_bestToDeclare_X1_requireTraveller
set_option maxRecDepth 20000 in
theorem ggX1_bestToDeclare_X0_become : GoodIn wsX1_bestToDeclare wsX0_become := goodIn_r _ [21, 22, 23, 24, 17, 25, 26, 27, 28, 29, 30, 31, 32, 33, 34, 35, 104, 105, 106, 107, 108, 109, 110, 111, 112, 113, 114, 115, 116, 117, 118] (by decide +kernel) (by decide +kernel)
set_option maxRecDepth 20000 in
theorem gX1_bestToDeclare_X0_become : GoodIn wsX1_bestToDeclare (wsV RX1 113 RX0 yX0_become wsX0_become) := goodIn_app (goodIn_of _ (by decide +kernel)) ggX1_bestToDeclare_X0_become
set_option maxRecDepth 20000 in
theorem ggX1_bestToDeclare_X0_goOn : GoodIn wsX1_bestToDeclare wsX0_goOn := goodIn_r _ [39, 40, 41, 42, 15, 43, 17, 29, 44, 45, 46, 47, 32, 22, 48, 49, 50, 51, 30, 31, 52, 53, 54, 55, 28, 23, 56, 57, 58, 59, 34, 33, 60, 61, 62, 63, 64, 13, 14, 16, 65, 66, 67, 68, 35, 24, 69, 70, 71, 72, 73, 74, 75, 76, 77, 78, 79, 25, 26, 80, 81, 82, 83, 84, 85, 86, 87, 88, 89, 90, 91, 92, 93, 94, 95, 27, 104, 105, 106, 107, 108, 109, 110, 111, 112, 113, 114, 115, 116, 117, 118] (by decide +kernel) (by decide +kernel)
set_option maxRecDepth 20000 in
theorem gX1_bestToDeclare_X0_goOn : GoodIn wsX1_bestToDeclare (wsV RX1 117 RX0 yX0_goOn wsX0_goOn) := goodIn_app (goodIn_of _ (by decide +kernel)) ggX1_bestToDeclare_X0_goOn
set_option maxRecDepth 20000 in
theorem ggX1_bestToDeclare_X1_foreseenSleep : GoodIn wsX1_bestToDeclare wsX1_foreseenSleep := goodIn_r _ [99, 1, 2, 3, 100, 101, 102, 103, 104, 105, 106, 107, 108, 109, 110, 111, 112, 113, 114, 115, 116, 117, 118] (by decide +kernel) (by decide +kernel)
set_option maxRecDepth 20000 in
theorem gX1_bestToDeclare_X1_foreseenSleep : GoodIn wsX1_bestToDeclare (wsV RX1 120 RX1 yX1_foreseenSleep wsX1_foreseenSleep) := goodIn_app (goodIn_of _ (by decide +kernel)) ggX1_bestToDeclare_X1_foreseenSleep
theorem dX1_bestToDeclare_0 : decode cX1_bestToDeclare 0 = .ok (.aload_n 0, 1) := by decide +kernel
theorem dX1_bestToDeclare_1 : decode cX1_bestToDeclare 1 = .ok (.iload_n 1, 1) := by decide +kernel
theorem dX1_bestToDeclare_2 : decode cX1_bestToDeclare 2 = .ok (.invokevirtual 49, 3) := by decide +kernel
theorem dX1_bestToDeclare_5 : decode cX1_bestToDeclare 5 = .ok (.aload_n 0, 1) := by decide +kernel
theorem dX1_bestToDeclare_6 : decode cX1_bestToDeclare 6 = .ok (.getfield 10, 3) := by decide +kernel
theorem dX1_bestToDeclare_9 : decode cX1_bestToDeclare 9 = .ok (.getfield 91, 3) := by decide +kernel
theorem dX1_bestToDeclare_12 : decode cX1_bestToDeclare 12 = .ok (.iload_n 1, 1) := by decide +kernel
theorem dX1_bestToDeclare_13 : decode cX1_bestToDeclare 13 = .ok (.iaload, 1) := by decide +kernel
theorem dX1_bestToDeclare_14 : decode cX1_bestToDeclare 14 = .ok (.ifCond .eq 5, 3) := by decide +kernel
theorem dX1_bestToDeclare_17 : decode cX1_bestToDeclare 17 = .ok (.iconst (-1), 1) := by decide +kernel
theorem dX1_bestToDeclare_18 : decode cX1_bestToDeclare 18 = .ok (.ireturn, 1) := by decide +kernel
theorem dX1_bestToDeclare_19 : decode cX1_bestToDeclare 19 = .ok (.iconst (-1), 1) := by decide +kernel
theorem dX1_bestToDeclare_20 : decode cX1_bestToDeclare 20 = .ok (.istore_n 2, 1) := by decide +kernel
theorem dX1_bestToDeclare_21 : decode cX1_bestToDeclare 21 = .ok (.bipush 101, 2) := by decide +kernel
theorem dX1_bestToDeclare_23 : decode cX1_bestToDeclare 23 = .ok (.istore_n 3, 1) := by decide +kernel
theorem dX1_bestToDeclare_24 : decode cX1_bestToDeclare 24 = .ok (.iconst 0, 1) := by decide +kernel
theorem dX1_bestToDeclare_25 : decode cX1_bestToDeclare 25 = .ok (.istore 4, 2) := by decide +kernel
theorem dX1_bestToDeclare_27 : decode cX1_bestToDeclare 27 = .ok (.iload 4, 2) := by decide +kernel
theorem dX1_bestToDeclare_29 : decode cX1_bestToDeclare 29 = .ok (.bipush 9, 2) := by decide +kernel
theorem dX1_bestToDeclare_31 : decode cX1_bestToDeclare 31 = .ok (.if_icmp .gt 64, 3) := by decide +kernel
theorem dX1_bestToDeclare_34 : decode cX1_bestToDeclare 34 = .ok (.aload_n 0, 1) := by decide +kernel
theorem dX1_bestToDeclare_35 : decode cX1_bestToDeclare 35 = .ok (.getfield 16, 3) := by decide +kernel
theorem dX1_bestToDeclare_38 : decode cX1_bestToDeclare 38 = .ok (.aload_n 0, 1) := by decide +kernel
theorem dX1_bestToDeclare_39 : decode cX1_bestToDeclare 39 = .ok (.getfield 10, 3) := by decide +kernel
theorem dX1_bestToDeclare_42 : decode cX1_bestToDeclare 42 = .ok (.invokevirtual 113, 3) := by decide +kernel
theorem dX1_bestToDeclare_45 : decode cX1_bestToDeclare 45 = .ok (.aload_n 0, 1) := by decide +kernel
theorem dX1_bestToDeclare_46 : decode cX1_bestToDeclare 46 = .ok (.getfield 16, 3) := by decide +kernel
theorem dX1_bestToDeclare_49 : decode cX1_bestToDeclare 49 = .ok (.getfield 55, 3) := by decide +kernel
theorem dX1_bestToDeclare_52 : decode cX1_bestToDeclare 52 = .ok (.iload_n 1, 1) := by decide +kernel
theorem dX1_bestToDeclare_53 : decode cX1_bestToDeclare 53 = .ok (.iload 4, 2) := by decide +kernel
theorem dX1_bestToDeclare_55 : decode cX1_bestToDeclare 55 = .ok (.iastore, 1) := by decide +kernel
theorem dX1_bestToDeclare_56 : decode cX1_bestToDeclare 56 = .ok (.aload_n 0, 1) := by decide +kernel
theorem dX1_bestToDeclare_57 : decode cX1_bestToDeclare 57 = .ok (.getfield 16, 3) := by decide +kernel
theorem dX1_bestToDeclare_60 : decode cX1_bestToDeclare 60 = .ok (.bipush 100, 2) := by decide +kernel
theorem dX1_bestToDeclare_62 : decode cX1_bestToDeclare 62 = .ok (.invokevirtual 117, 3) := by decide +kernel
theorem dX1_bestToDeclare_65 : decode cX1_bestToDeclare 65 = .ok (.aload_n 0, 1) := by decide +kernel
theorem dX1_bestToDeclare_66 : decode cX1_bestToDeclare 66 = .ok (.iload_n 1, 1) := by decide +kernel
theorem dX1_bestToDeclare_67 : decode cX1_bestToDeclare 67 = .ok (.invokevirtual 120, 3) := by decide +kernel
theorem dX1_bestToDeclare_70 : decode cX1_bestToDeclare 70 = .ok (.istore 5, 2) := by decide +kernel
theorem dX1_bestToDeclare_72 : decode cX1_bestToDeclare 72 = .ok (.iload 5, 2) := by decide +kernel
theorem dX1_bestToDeclare_74 : decode cX1_bestToDeclare 74 = .ok (.ifCond .lt 15, 3) := by decide +kernel
theorem dX1_bestToDeclare_77 : decode cX1_bestToDeclare 77 = .ok (.iload 5, 2) := by decide +kernel
theorem dX1_bestToDeclare_79 : decode cX1_bestToDeclare 79 = .ok (.iload_n 3, 1) := by decide +kernel
theorem dX1_bestToDeclare_80 : decode cX1_bestToDeclare 80 = .ok (.if_icmp .ge 9, 3) := by decide +kernel
theorem dX1_bestToDeclare_83 : decode cX1_bestToDeclare 83 = .ok (.iload 4, 2) := by decide +kernel
theorem dX1_bestToDeclare_85 : decode cX1_bestToDeclare 85 = .ok (.istore_n 2, 1) := by decide +kernel
theorem dX1_bestToDeclare_86 : decode cX1_bestToDeclare 86 = .ok (.iload 5, 2) := by decide +kernel
theorem dX1_bestToDeclare_88 : decode cX1_bestToDeclare 88 = .ok (.istore_n 3, 1) := by decide +kernel
theorem dX1_bestToDeclare_89 : decode cX1_bestToDeclare 89 = .ok (.iinc 4 1, 3) := by decide +kernel
theorem dX1_bestToDeclare_92 : decode cX1_bestToDeclare 92 = .ok (.goto (-65), 3) := by decide +kernel
theorem dX1_bestToDeclare_95 : decode cX1_bestToDeclare 95 = .ok (.iload_n 2, 1) := by decide +kernel
theorem dX1_bestToDeclare_96 : decode cX1_bestToDeclare 96 = .ok (.ireturn, 1) := by decide +kernel
set_option maxRecDepth 20000 in
theorem ggX1_guardsWanted_X0_become : GoodIn wsX1_guardsWanted wsX0_become := goodIn_r _ [8, 9, 10, 11, 12, 13, 14, 15, 16, 17, 18, 19, 20, 21, 22, 23, 93, 94, 95, 96, 97, 98, 99, 100, 101, 102, 103, 104, 105, 106, 107] (by decide +kernel) (by decide +kernel)
set_option maxRecDepth 20000 in
theorem gX1_guardsWanted_X0_become : GoodIn wsX1_guardsWanted (wsV RX1 113 RX0 yX0_become wsX0_become) := goodIn_app (goodIn_of _ (by decide +kernel)) ggX1_guardsWanted_X0_become
set_option maxRecDepth 20000 in
theorem ggX1_guardsWanted_X0_admitGuard : GoodIn wsX1_guardsWanted wsX0_admitGuard := goodIn_r _ [27, 20, 21, 22, 23, 93, 94, 95, 96, 97, 98, 99, 100, 101, 102, 103, 104, 105, 106, 107] (by decide +kernel) (by decide +kernel)
set_option maxRecDepth 20000 in
theorem gX1_guardsWanted_X0_admitGuard : GoodIn wsX1_guardsWanted (wsV RX1 30 RX0 yX0_admitGuard wsX0_admitGuard) := goodIn_app (goodIn_of _ (by decide +kernel)) ggX1_guardsWanted_X0_admitGuard
set_option maxRecDepth 20000 in
theorem ggX1_guardsWanted_X0_goOn : GoodIn wsX1_guardsWanted wsX0_goOn := goodIn_r _ [31, 32, 33, 34, 7, 35, 12, 17, 36, 37, 38, 39, 20, 9, 40, 41, 42, 43, 18, 19, 44, 45, 46, 47, 16, 10, 48, 49, 50, 51, 22, 21, 52, 53, 54, 55, 56, 57, 58, 59, 60, 61, 62, 63, 23, 11, 64, 65, 66, 67, 68, 69, 70, 71, 72, 73, 74, 13, 14, 75, 76, 77, 78, 79, 80, 81, 82, 83, 84, 85, 86, 87, 88, 89, 90, 15, 93, 94, 95, 96, 97, 98, 99, 100, 101, 102, 103, 104, 105, 106, 107] (by decide +kernel) (by decide +kernel)
set_option maxRecDepth 20000 in
theorem gX1_guardsWanted_X0_goOn : GoodIn wsX1_guardsWanted (wsV RX1 117 RX0 yX0_goOn wsX0_goOn) := goodIn_app (goodIn_of _ (by decide +kernel)) ggX1_guardsWanted_X0_goOn
theorem dX1_guardsWanted_0 : decode cX1_guardsWanted 0 = .ok (.iconst 0, 1) := by decide +kernel
theorem dX1_guardsWanted_1 : decode cX1_guardsWanted 1 = .ok (.istore_n 1, 1) := by decide +kernel
theorem dX1_guardsWanted_2 : decode cX1_guardsWanted 2 = .ok (.iload_n 1, 1) := by decide +kernel
theorem dX1_guardsWanted_3 : decode cX1_guardsWanted 3 = .ok (.iconst 4, 1) := by decide +kernel
theorem dX1_guardsWanted_4 : decode cX1_guardsWanted 4 = .ok (.if_icmp .gt 68, 3) := by decide +kernel
theorem dX1_guardsWanted_7 : decode cX1_guardsWanted 7 = .ok (.aload_n 0, 1) := by decide +kernel
theorem dX1_guardsWanted_8 : decode cX1_guardsWanted 8 = .ok (.getfield 16, 3) := by decide +kernel
theorem dX1_guardsWanted_11 : decode cX1_guardsWanted 11 = .ok (.aload_n 0, 1) := by decide +kernel
theorem dX1_guardsWanted_12 : decode cX1_guardsWanted 12 = .ok (.getfield 10, 3) := by decide +kernel
theorem dX1_guardsWanted_15 : decode cX1_guardsWanted 15 = .ok (.invokevirtual 113, 3) := by decide +kernel
theorem dX1_guardsWanted_18 : decode cX1_guardsWanted 18 = .ok (.iconst 0, 1) := by decide +kernel
theorem dX1_guardsWanted_19 : decode cX1_guardsWanted 19 = .ok (.istore_n 2, 1) := by decide +kernel
theorem dX1_guardsWanted_20 : decode cX1_guardsWanted 20 = .ok (.iload_n 2, 1) := by decide +kernel
theorem dX1_guardsWanted_21 : decode cX1_guardsWanted 21 = .ok (.iload_n 1, 1) := by decide +kernel
theorem dX1_guardsWanted_22 : decode cX1_guardsWanted 22 = .ok (.if_icmp .ge 16, 3) := by decide +kernel
theorem dX1_guardsWanted_25 : decode cX1_guardsWanted 25 = .ok (.aload_n 0, 1) := by decide +kernel
theorem dX1_guardsWanted_26 : decode cX1_guardsWanted 26 = .ok (.getfield 16, 3) := by decide +kernel
theorem dX1_guardsWanted_29 : decode cX1_guardsWanted 29 = .ok (.invokevirtual 30, 3) := by decide +kernel
theorem dX1_guardsWanted_32 : decode cX1_guardsWanted 32 = .ok (.iinc 2 1, 3) := by decide +kernel
theorem dX1_guardsWanted_35 : decode cX1_guardsWanted 35 = .ok (.goto (-15), 3) := by decide +kernel
theorem dX1_guardsWanted_38 : decode cX1_guardsWanted 38 = .ok (.aload_n 0, 1) := by decide +kernel
theorem dX1_guardsWanted_39 : decode cX1_guardsWanted 39 = .ok (.getfield 16, 3) := by decide +kernel
theorem dX1_guardsWanted_42 : decode cX1_guardsWanted 42 = .ok (.bipush 60, 2) := by decide +kernel
theorem dX1_guardsWanted_44 : decode cX1_guardsWanted 44 = .ok (.invokevirtual 117, 3) := by decide +kernel
theorem dX1_guardsWanted_47 : decode cX1_guardsWanted 47 = .ok (.aload_n 0, 1) := by decide +kernel
theorem dX1_guardsWanted_48 : decode cX1_guardsWanted 48 = .ok (.getfield 16, 3) := by decide +kernel
theorem dX1_guardsWanted_51 : decode cX1_guardsWanted 51 = .ok (.getfield 78, 3) := by decide +kernel
theorem dX1_guardsWanted_54 : decode cX1_guardsWanted 54 = .ok (.aload_n 0, 1) := by decide +kernel
theorem dX1_guardsWanted_55 : decode cX1_guardsWanted 55 = .ok (.getfield 10, 3) := by decide +kernel
theorem dX1_guardsWanted_58 : decode cX1_guardsWanted 58 = .ok (.getfield 78, 3) := by decide +kernel
theorem dX1_guardsWanted_61 : decode cX1_guardsWanted 61 = .ok (.if_icmp .ne 5, 3) := by decide +kernel
theorem dX1_guardsWanted_64 : decode cX1_guardsWanted 64 = .ok (.iload_n 1, 1) := by decide +kernel
theorem dX1_guardsWanted_65 : decode cX1_guardsWanted 65 = .ok (.ireturn, 1) := by decide +kernel
theorem dX1_guardsWanted_66 : decode cX1_guardsWanted 66 = .ok (.iinc 1 1, 3) := by decide +kernel
theorem dX1_guardsWanted_69 : decode cX1_guardsWanted 69 = .ok (.goto (-67), 3) := by decide +kernel
theorem dX1_guardsWanted_72 : decode cX1_guardsWanted 72 = .ok (.iconst (-1), 1) := by decide +kernel
theorem dX1_guardsWanted_73 : decode cX1_guardsWanted 73 = .ok (.ireturn, 1) := by decide +kernel
theorem dX1_meanAlertness_0 : decode cX1_meanAlertness 0 = .ok (.aload_n 0, 1) := by decide +kernel
theorem dX1_meanAlertness_1 : decode cX1_meanAlertness 1 = .ok (.getfield 10, 3) := by decide +kernel
theorem dX1_meanAlertness_4 : decode cX1_meanAlertness 4 = .ok (.getfield 19, 3) := by decide +kernel
theorem dX1_meanAlertness_7 : decode cX1_meanAlertness 7 = .ok (.ifCond .ne 5, 3) := by decide +kernel
theorem dX1_meanAlertness_10 : decode cX1_meanAlertness 10 = .ok (.dconst 0, 1) := by decide +kernel
theorem dX1_meanAlertness_11 : decode cX1_meanAlertness 11 = .ok (.dreturn, 1) := by decide +kernel
theorem dX1_meanAlertness_12 : decode cX1_meanAlertness 12 = .ok (.iconst 0, 1) := by decide +kernel
theorem dX1_meanAlertness_13 : decode cX1_meanAlertness 13 = .ok (.istore_n 1, 1) := by decide +kernel
theorem dX1_meanAlertness_14 : decode cX1_meanAlertness 14 = .ok (.iconst 0, 1) := by decide +kernel
theorem dX1_meanAlertness_15 : decode cX1_meanAlertness 15 = .ok (.istore_n 2, 1) := by decide +kernel
theorem dX1_meanAlertness_16 : decode cX1_meanAlertness 16 = .ok (.iload_n 2, 1) := by decide +kernel
theorem dX1_meanAlertness_17 : decode cX1_meanAlertness 17 = .ok (.aload_n 0, 1) := by decide +kernel
theorem dX1_meanAlertness_18 : decode cX1_meanAlertness 18 = .ok (.getfield 10, 3) := by decide +kernel
theorem dX1_meanAlertness_21 : decode cX1_meanAlertness 21 = .ok (.getfield 19, 3) := by decide +kernel
theorem dX1_meanAlertness_24 : decode cX1_meanAlertness 24 = .ok (.if_icmp .ge 21, 3) := by decide +kernel
theorem dX1_meanAlertness_27 : decode cX1_meanAlertness 27 = .ok (.iload_n 1, 1) := by decide +kernel
theorem dX1_meanAlertness_28 : decode cX1_meanAlertness 28 = .ok (.aload_n 0, 1) := by decide +kernel
theorem dX1_meanAlertness_29 : decode cX1_meanAlertness 29 = .ok (.getfield 10, 3) := by decide +kernel
theorem dX1_meanAlertness_32 : decode cX1_meanAlertness 32 = .ok (.getfield 65, 3) := by decide +kernel
theorem dX1_meanAlertness_35 : decode cX1_meanAlertness 35 = .ok (.iload_n 2, 1) := by decide +kernel
theorem dX1_meanAlertness_36 : decode cX1_meanAlertness 36 = .ok (.iaload, 1) := by decide +kernel
theorem dX1_meanAlertness_37 : decode cX1_meanAlertness 37 = .ok (.iadd, 1) := by decide +kernel
theorem dX1_meanAlertness_38 : decode cX1_meanAlertness 38 = .ok (.istore_n 1, 1) := by decide +kernel
theorem dX1_meanAlertness_39 : decode cX1_meanAlertness 39 = .ok (.iinc 2 1, 3) := by decide +kernel
theorem dX1_meanAlertness_42 : decode cX1_meanAlertness 42 = .ok (.goto (-26), 3) := by decide +kernel
theorem dX1_meanAlertness_45 : decode cX1_meanAlertness 45 = .ok (.iload_n 1, 1) := by decide +kernel
theorem dX1_meanAlertness_46 : decode cX1_meanAlertness 46 = .ok (.i2d, 1) := by decide +kernel
theorem dX1_meanAlertness_47 : decode cX1_meanAlertness 47 = .ok (.aload_n 0, 1) := by decide +kernel
theorem dX1_meanAlertness_48 : decode cX1_meanAlertness 48 = .ok (.getfield 10, 3) := by decide +kernel
theorem dX1_meanAlertness_51 : decode cX1_meanAlertness 51 = .ok (.getfield 19, 3) := by decide +kernel
theorem dX1_meanAlertness_54 : decode cX1_meanAlertness 54 = .ok (.i2d, 1) := by decide +kernel
theorem dX1_meanAlertness_55 : decode cX1_meanAlertness 55 = .ok (.ddiv, 1) := by decide +kernel
theorem dX1_meanAlertness_56 : decode cX1_meanAlertness 56 = .ok (.dreturn, 1) := by decide +kernel
set_option maxRecDepth 20000 in
theorem ggX1_digest_X1_minute : GoodIn wsX1_digest wsX1_minute := goodIn_r _ [6, 7, 8, 235, 236, 237, 238, 239, 240, 241, 242, 243, 244, 245, 246, 247, 248, 249, 250, 251] (by decide +kernel) (by decide +kernel)
set_option maxRecDepth 20000 in
theorem gX1_digest_X1_minute : GoodIn wsX1_digest (wsV RX1 125 RX1 yX1_minute wsX1_minute) := goodIn_app (goodIn_of _ (by decide +kernel)) ggX1_digest_X1_minute
set_option maxRecDepth 20000 in
theorem ggX1_digest_X1_mix : GoodIn wsX1_digest wsX1_mix := goodIn_r _ [11, 12] (by decide +kernel) (by decide +kernel)
set_option maxRecDepth 20000 in
theorem gX1_digest_X1_mix : GoodIn wsX1_digest (va_wsS RX1 128 yX1_mix wsX1_mix) := goodIn_app (goodIn_of _ (by decide +kernel)) ggX1_digest_X1_mix
set_option maxRecDepth 20000 in
theorem ggX1_digest_X1_travellers : GoodIn wsX1_digest wsX1_travellers := goodIn_r _ [16, 7, 17, 235, 236, 237, 238, 239, 240, 241, 242, 243, 244, 245, 246, 247, 248, 249, 250, 251] (by decide +kernel) (by decide +kernel)
set_option maxRecDepth 20000 in
theorem gX1_digest_X1_travellers : GoodIn wsX1_digest (wsV RX1 132 RX1 yX1_travellers wsX1_travellers) := goodIn_app (goodIn_of _ (by decide +kernel)) ggX1_digest_X1_travellers
set_option maxRecDepth 20000 in
theorem ggX1_digest_X1_waiting : GoodIn wsX1_digest wsX1_waiting := goodIn_r _ [21, 7, 22, 23, 24, 25, 26, 27, 28, 235, 236, 237, 238, 239, 240, 241, 242, 243, 244, 245, 246, 247, 248, 249, 250, 251] (by decide +kernel) (by decide +kernel)
set_option maxRecDepth 20000 in
theorem gX1_digest_X1_waiting : GoodIn wsX1_digest (wsV RX1 135 RX1 yX1_waiting wsX1_waiting) := goodIn_app (goodIn_of _ (by decide +kernel)) ggX1_digest_X1_waiting
set_option maxRecDepth 20000 in
theorem ggX1_digest_X1_asleep : GoodIn wsX1_digest wsX1_asleep := goodIn_r _ [32, 7, 22, 23, 24, 25, 26, 27, 28, 235, 236, 237, 238, 239, 240, 241, 242, 243, 244, 245, 246, 247, 248, 249, 250, 251] (by decide +kernel) (by decide +kernel)
set_option maxRecDepth 20000 in
theorem gX1_digest_X1_asleep : GoodIn wsX1_digest (wsV RX1 138 RX1 yX1_asleep wsX1_asleep) := goodIn_app (goodIn_of _ (by decide +kernel)) ggX1_digest_X1_asleep
set_option maxRecDepth 20000 in
theorem ggX1_digest_X1_sentBack : GoodIn wsX1_digest wsX1_sentBack := goodIn_r _ [36, 7, 22, 23, 24, 25, 26, 27, 28, 235, 236, 237, 238, 239, 240, 241, 242, 243, 244, 245, 246, 247, 248, 249, 250, 251] (by decide +kernel) (by decide +kernel)
set_option maxRecDepth 20000 in
theorem gX1_digest_X1_sentBack : GoodIn wsX1_digest (wsV RX1 141 RX1 yX1_sentBack wsX1_sentBack) := goodIn_app (goodIn_of _ (by decide +kernel)) ggX1_digest_X1_sentBack
set_option maxRecDepth 20000 in
theorem ggX1_digest_X1_expired : GoodIn wsX1_digest wsX1_expired := goodIn_r _ [40, 7, 41, 235, 236, 237, 238, 239, 240, 241, 242, 243, 244, 245, 246, 247, 248, 249, 250, 251] (by decide +kernel) (by decide +kernel)
set_option maxRecDepth 20000 in
theorem gX1_digest_X1_expired : GoodIn wsX1_digest (wsV RX1 144 RX1 yX1_expired wsX1_expired) := goodIn_app (goodIn_of _ (by decide +kernel)) ggX1_digest_X1_expired
set_option maxRecDepth 20000 in
theorem ggX1_digest_X1_paid : GoodIn wsX1_digest wsX1_paid := goodIn_r _ [45, 7, 46, 235, 236, 237, 238, 239, 240, 241, 242, 243, 244, 245, 246, 247, 248, 249, 250, 251] (by decide +kernel) (by decide +kernel)
set_option maxRecDepth 20000 in
theorem gX1_digest_X1_paid : GoodIn wsX1_digest (wsV RX1 147 RX1 yX1_paid wsX1_paid) := goodIn_app (goodIn_of _ (by decide +kernel)) ggX1_digest_X1_paid
set_option maxRecDepth 20000 in
theorem ggX1_digest_X1_noise : GoodIn wsX1_digest wsX1_noise := goodIn_r _ [50, 7, 51, 52, 53, 25, 54, 27, 28, 55, 235, 236, 237, 238, 239, 240, 241, 242, 243, 244, 245, 246, 247, 248, 249, 250, 251] (by decide +kernel) (by decide +kernel)
set_option maxRecDepth 20000 in
theorem gX1_digest_X1_noise : GoodIn wsX1_digest (wsV RX1 150 RX1 yX1_noise wsX1_noise) := goodIn_app (goodIn_of _ (by decide +kernel)) ggX1_digest_X1_noise
set_option maxRecDepth 20000 in
theorem ggX1_digest_X1_nextInLine : GoodIn wsX1_digest wsX1_nextInLine := goodIn_r _ [59, 7, 60, 61, 62, 25, 63, 27, 28, 235, 236, 237, 238, 239, 240, 241, 242, 243, 244, 245, 246, 247, 248, 249, 250, 251] (by decide +kernel) (by decide +kernel)
set_option maxRecDepth 20000 in
theorem gX1_digest_X1_nextInLine : GoodIn wsX1_digest (wsV RX1 153 RX1 yX1_nextInLine wsX1_nextInLine) := goodIn_app (goodIn_of _ (by decide +kernel)) ggX1_digest_X1_nextInLine
set_option maxRecDepth 20000 in
theorem ggX1_digest_X1_guards : GoodIn wsX1_digest wsX1_guards := goodIn_r _ [67, 7, 68, 235, 236, 237, 238, 239, 240, 241, 242, 243, 244, 245, 246, 247, 248, 249, 250, 251] (by decide +kernel) (by decide +kernel)
set_option maxRecDepth 20000 in
theorem gX1_digest_X1_guards : GoodIn wsX1_digest (wsV RX1 156 RX1 yX1_guards wsX1_guards) := goodIn_app (goodIn_of _ (by decide +kernel)) ggX1_digest_X1_guards
set_option maxRecDepth 20000 in
theorem ggX1_digest_X1_mostAlert : GoodIn wsX1_digest wsX1_mostAlert := goodIn_r _ [72, 7, 68, 73, 235, 236, 237, 238, 239, 240, 241, 242, 243, 244, 245, 246, 247, 248, 249, 250, 251] (by decide +kernel) (by decide +kernel)
set_option maxRecDepth 20000 in
theorem gX1_digest_X1_mostAlert : GoodIn wsX1_digest (wsV RX1 159 RX1 yX1_mostAlert wsX1_mostAlert) := goodIn_app (goodIn_of _ (by decide +kernel)) ggX1_digest_X1_mostAlert
set_option maxRecDepth 20000 in
theorem ggX1_digest_X1_asleepIn : GoodIn wsX1_digest wsX1_asleepIn := goodIn_ca (goodIn_r _ [77, 78, 7, 79, 80, 5, 81, 82, 83, 84, 85, 86, 25, 87, 88, 89, 90, 27, 91, 92, 55, 93, 28, 94, 95, 96, 97, 98, 99, 100, 101, 102, 103, 104, 105, 106, 107, 108, 109, 110, 111, 112, 113, 114, 115, 116, 117, 118, 119, 120, 121, 122, 123, 124, 125, 126, 127, 128, 129, 130, 131, 132, 133, 134, 135, 136, 137, 138, 139, 140, 141, 142, 143, 144, 145, 146, 147, 61, 62, 63, 148, 149, 150, 151, 152, 153, 154, 155, 156, 52, 53, 54, 22, 23, 24, 26, 235, 236, 237, 238, 239, 240, 241, 242, 243, 244, 245, 246, 247, 248, 249, 250, 251] (by decide +kernel) (by decide +kernel)) (goodIn_sub (fun _ h => List.mem_cons_of_mem _ (List.mem_append_left _ (List.mem_append_right _ h))) (by decide +kernel))
set_option maxRecDepth 20000 in
theorem gX1_digest_X1_asleepIn : GoodIn wsX1_digest (wsV RX1 162 RX1 yX1_asleepIn wsX1_asleepIn) := goodIn_app (goodIn_of _ (by decide +kernel)) ggX1_digest_X1_asleepIn
set_option maxRecDepth 20000 in
theorem ggX1_digest_X1_guardsWanted : GoodIn wsX1_digest wsX1_guardsWanted := goodIn_r _ [160, 78, 7, 41, 84, 85, 86, 25, 87, 88, 89, 90, 27, 91, 92, 55, 93, 28, 94, 95, 96, 97, 98, 99, 161, 162, 163, 164, 100, 101, 102, 103, 104, 105, 106, 107, 108, 109, 110, 111, 112, 113, 114, 115, 116, 117, 118, 119, 120, 121, 122, 123, 124, 125, 126, 127, 128, 129, 130, 131, 132, 133, 134, 135, 136, 137, 138, 139, 140, 141, 142, 143, 144, 145, 146, 147, 61, 62, 63, 148, 149, 150, 151, 152, 153, 154, 155, 156, 52, 53, 54, 235, 236, 237, 238, 239, 240, 241, 242, 243, 244, 245, 246, 247, 248, 249, 250, 251] (by decide +kernel) (by decide +kernel)
set_option maxRecDepth 20000 in
theorem gX1_digest_X1_guardsWanted : GoodIn wsX1_digest (wsV RX1 165 RX1 yX1_guardsWanted wsX1_guardsWanted) := goodIn_app (goodIn_of _ (by decide +kernel)) ggX1_digest_X1_guardsWanted
set_option maxRecDepth 20000 in
theorem ggX1_digest_X1_mixTravellers : GoodIn wsX1_digest wsX1_mixTravellers := goodIn_ca (goodIn_r _ [168, 78, 7, 17, 84, 85, 86, 25, 87, 88, 89, 90, 27, 91, 92, 55, 93, 28, 94, 95, 96, 97, 98, 99, 100, 101, 102, 103, 104, 105, 106, 107, 108, 109, 110, 111, 112, 113, 114, 115, 116, 117, 118, 119, 120, 121, 122, 123, 124, 125, 126, 127, 128, 129, 130, 131, 132, 133, 134, 135, 136, 137, 138, 139, 140, 141, 142, 143, 144, 145, 146, 147, 61, 62, 63, 148, 149, 150, 151, 152, 153, 154, 155, 156, 52, 53, 54, 169, 170, 171, 5, 172, 173, 174, 175, 176, 177, 178, 179, 180, 9, 10, 11, 12, 181, 182, 183, 184, 185, 186, 187, 188, 189, 190, 191, 192, 193, 194, 195, 196, 197, 198, 199, 200, 201, 202, 203, 204, 205, 206, 207, 208, 8, 235, 236, 237, 238, 239, 240, 241, 242, 243, 244, 245, 246, 247, 248, 249, 250, 251] (by decide +kernel) (by decide +kernel)) (goodIn_sub (fun _ h => List.mem_cons_of_mem _ (List.mem_append_right _ h)) (by decide +kernel))
set_option maxRecDepth 20000 in
theorem gX1_digest_X1_mixTravellers : GoodIn wsX1_digest (wsV RX1 168 RX1 yX1_mixTravellers wsX1_mixTravellers) := goodIn_app (goodIn_of _ (by decide +kernel)) ggX1_digest_X1_mixTravellers
set_option maxRecDepth 20000 in
theorem ggX1_digest_X1_mixGuards : GoodIn wsX1_digest wsX1_mixGuards := goodIn_ca (goodIn_r _ [212, 7, 68, 213, 214, 215, 5, 216, 73, 217, 218, 219, 220, 178, 179, 221, 222, 223, 25, 224, 96, 9, 10, 11, 12, 225, 226, 227, 228, 229, 230, 231, 232, 233, 234, 235, 236, 237, 238, 239, 240, 241, 242, 243, 244, 245, 246, 247, 248, 249, 250, 251] (by decide +kernel) (by decide +kernel)) (goodIn_sub (fun _ h => List.mem_cons_of_mem _ (List.mem_append_right _ h)) (by decide +kernel))
set_option maxRecDepth 20000 in
theorem gX1_digest_X1_mixGuards : GoodIn wsX1_digest (wsV RX1 172 RX1 yX1_mixGuards wsX1_mixGuards) := goodIn_app (goodIn_of _ (by decide +kernel)) ggX1_digest_X1_mixGuards
theorem dX1_digest_0 : decode cX1_digest 0 = .ok (.ldc2_w 123, 3) := by decide +kernel
theorem dX1_digest_3 : decode cX1_digest 3 = .ok (.lstore_n 1, 1) := by decide +kernel
theorem dX1_digest_4 : decode cX1_digest 4 = .ok (.lload_n 1, 1) := by decide +kernel
theorem dX1_digest_5 : decode cX1_digest 5 = .ok (.aload_n 0, 1) := by decide +kernel
theorem dX1_digest_6 : decode cX1_digest 6 = .ok (.invokevirtual 125, 3) := by decide +kernel
theorem dX1_digest_9 : decode cX1_digest 9 = .ok (.invokestatic 128, 3) := by decide +kernel
theorem dX1_digest_12 : decode cX1_digest 12 = .ok (.lstore_n 1, 1) := by decide +kernel
theorem dX1_digest_13 : decode cX1_digest 13 = .ok (.lload_n 1, 1) := by decide +kernel
theorem dX1_digest_14 : decode cX1_digest 14 = .ok (.aload_n 0, 1) := by decide +kernel
theorem dX1_digest_15 : decode cX1_digest 15 = .ok (.invokevirtual 132, 3) := by decide +kernel
theorem dX1_digest_18 : decode cX1_digest 18 = .ok (.invokestatic 128, 3) := by decide +kernel
theorem dX1_digest_21 : decode cX1_digest 21 = .ok (.lstore_n 1, 1) := by decide +kernel
theorem dX1_digest_22 : decode cX1_digest 22 = .ok (.lload_n 1, 1) := by decide +kernel
theorem dX1_digest_23 : decode cX1_digest 23 = .ok (.aload_n 0, 1) := by decide +kernel
theorem dX1_digest_24 : decode cX1_digest 24 = .ok (.invokevirtual 135, 3) := by decide +kernel
theorem dX1_digest_27 : decode cX1_digest 27 = .ok (.invokestatic 128, 3) := by decide +kernel
theorem dX1_digest_30 : decode cX1_digest 30 = .ok (.lstore_n 1, 1) := by decide +kernel
theorem dX1_digest_31 : decode cX1_digest 31 = .ok (.lload_n 1, 1) := by decide +kernel
theorem dX1_digest_32 : decode cX1_digest 32 = .ok (.aload_n 0, 1) := by decide +kernel
theorem dX1_digest_33 : decode cX1_digest 33 = .ok (.invokevirtual 138, 3) := by decide +kernel
theorem dX1_digest_36 : decode cX1_digest 36 = .ok (.invokestatic 128, 3) := by decide +kernel
theorem dX1_digest_39 : decode cX1_digest 39 = .ok (.lstore_n 1, 1) := by decide +kernel
theorem dX1_digest_40 : decode cX1_digest 40 = .ok (.lload_n 1, 1) := by decide +kernel
theorem dX1_digest_41 : decode cX1_digest 41 = .ok (.aload_n 0, 1) := by decide +kernel
theorem dX1_digest_42 : decode cX1_digest 42 = .ok (.invokevirtual 141, 3) := by decide +kernel
theorem dX1_digest_45 : decode cX1_digest 45 = .ok (.invokestatic 128, 3) := by decide +kernel
theorem dX1_digest_48 : decode cX1_digest 48 = .ok (.lstore_n 1, 1) := by decide +kernel
theorem dX1_digest_49 : decode cX1_digest 49 = .ok (.lload_n 1, 1) := by decide +kernel
theorem dX1_digest_50 : decode cX1_digest 50 = .ok (.aload_n 0, 1) := by decide +kernel
theorem dX1_digest_51 : decode cX1_digest 51 = .ok (.invokevirtual 144, 3) := by decide +kernel
theorem dX1_digest_54 : decode cX1_digest 54 = .ok (.invokestatic 128, 3) := by decide +kernel
theorem dX1_digest_57 : decode cX1_digest 57 = .ok (.lstore_n 1, 1) := by decide +kernel
theorem dX1_digest_58 : decode cX1_digest 58 = .ok (.lload_n 1, 1) := by decide +kernel
theorem dX1_digest_59 : decode cX1_digest 59 = .ok (.aload_n 0, 1) := by decide +kernel
theorem dX1_digest_60 : decode cX1_digest 60 = .ok (.invokevirtual 147, 3) := by decide +kernel
theorem dX1_digest_63 : decode cX1_digest 63 = .ok (.invokestatic 128, 3) := by decide +kernel
theorem dX1_digest_66 : decode cX1_digest 66 = .ok (.lstore_n 1, 1) := by decide +kernel
theorem dX1_digest_67 : decode cX1_digest 67 = .ok (.lload_n 1, 1) := by decide +kernel
theorem dX1_digest_68 : decode cX1_digest 68 = .ok (.aload_n 0, 1) := by decide +kernel
theorem dX1_digest_69 : decode cX1_digest 69 = .ok (.invokevirtual 150, 3) := by decide +kernel
theorem dX1_digest_72 : decode cX1_digest 72 = .ok (.invokestatic 128, 3) := by decide +kernel
theorem dX1_digest_75 : decode cX1_digest 75 = .ok (.lstore_n 1, 1) := by decide +kernel
theorem dX1_digest_76 : decode cX1_digest 76 = .ok (.lload_n 1, 1) := by decide +kernel
theorem dX1_digest_77 : decode cX1_digest 77 = .ok (.aload_n 0, 1) := by decide +kernel
theorem dX1_digest_78 : decode cX1_digest 78 = .ok (.invokevirtual 153, 3) := by decide +kernel
theorem dX1_digest_81 : decode cX1_digest 81 = .ok (.invokestatic 128, 3) := by decide +kernel
theorem dX1_digest_84 : decode cX1_digest 84 = .ok (.lstore_n 1, 1) := by decide +kernel
theorem dX1_digest_85 : decode cX1_digest 85 = .ok (.lload_n 1, 1) := by decide +kernel
theorem dX1_digest_86 : decode cX1_digest 86 = .ok (.aload_n 0, 1) := by decide +kernel
theorem dX1_digest_87 : decode cX1_digest 87 = .ok (.invokevirtual 156, 3) := by decide +kernel
theorem dX1_digest_90 : decode cX1_digest 90 = .ok (.invokestatic 128, 3) := by decide +kernel
theorem dX1_digest_93 : decode cX1_digest 93 = .ok (.lstore_n 1, 1) := by decide +kernel
theorem dX1_digest_94 : decode cX1_digest 94 = .ok (.lload_n 1, 1) := by decide +kernel
theorem dX1_digest_95 : decode cX1_digest 95 = .ok (.aload_n 0, 1) := by decide +kernel
theorem dX1_digest_96 : decode cX1_digest 96 = .ok (.invokevirtual 159, 3) := by decide +kernel
theorem dX1_digest_99 : decode cX1_digest 99 = .ok (.invokestatic 128, 3) := by decide +kernel
theorem dX1_digest_102 : decode cX1_digest 102 = .ok (.lstore_n 1, 1) := by decide +kernel
theorem dX1_digest_103 : decode cX1_digest 103 = .ok (.lload_n 1, 1) := by decide +kernel
theorem dX1_digest_104 : decode cX1_digest 104 = .ok (.aload_n 0, 1) := by decide +kernel
theorem dX1_digest_105 : decode cX1_digest 105 = .ok (.bipush 30, 2) := by decide +kernel
theorem dX1_digest_107 : decode cX1_digest 107 = .ok (.invokevirtual 162, 3) := by decide +kernel
theorem dX1_digest_110 : decode cX1_digest 110 = .ok (.invokestatic 128, 3) := by decide +kernel
theorem dX1_digest_113 : decode cX1_digest 113 = .ok (.lstore_n 1, 1) := by decide +kernel
theorem dX1_digest_114 : decode cX1_digest 114 = .ok (.lload_n 1, 1) := by decide +kernel
theorem dX1_digest_115 : decode cX1_digest 115 = .ok (.aload_n 0, 1) := by decide +kernel
theorem dX1_digest_116 : decode cX1_digest 116 = .ok (.invokevirtual 165, 3) := by decide +kernel
theorem dX1_digest_119 : decode cX1_digest 119 = .ok (.invokestatic 128, 3) := by decide +kernel
theorem dX1_digest_122 : decode cX1_digest 122 = .ok (.lstore_n 1, 1) := by decide +kernel
theorem dX1_digest_123 : decode cX1_digest 123 = .ok (.aload_n 0, 1) := by decide +kernel
theorem dX1_digest_124 : decode cX1_digest 124 = .ok (.aload_n 0, 1) := by decide +kernel
theorem dX1_digest_125 : decode cX1_digest 125 = .ok (.lload_n 1, 1) := by decide +kernel
theorem dX1_digest_126 : decode cX1_digest 126 = .ok (.invokevirtual 168, 3) := by decide +kernel
theorem dX1_digest_129 : decode cX1_digest 129 = .ok (.invokevirtual 172, 3) := by decide +kernel
theorem dX1_digest_132 : decode cX1_digest 132 = .ok (.lreturn, 1) := by decide +kernel
set_option maxRecDepth 20000 in
theorem ggX1_mixTravellers_X0_become : GoodIn wsX1_mixTravellers wsX0_become := goodIn_r _ [8, 9, 10, 11, 12, 13, 14, 15, 16, 17, 18, 19, 20, 21, 22, 23, 135, 136, 137, 138, 139, 140, 141, 142, 143, 144, 145, 146, 147, 148, 149] (by decide +kernel) (by decide +kernel)
set_option maxRecDepth 20000 in
theorem gX1_mixTravellers_X0_become : GoodIn wsX1_mixTravellers (wsV RX1 113 RX0 yX0_become wsX0_become) := goodIn_app (goodIn_of _ (by decide +kernel)) ggX1_mixTravellers_X0_become
set_option maxRecDepth 20000 in
theorem ggX1_mixTravellers_X0_goOn : GoodIn wsX1_mixTravellers wsX0_goOn := goodIn_r _ [27, 28, 29, 30, 7, 31, 12, 17, 32, 33, 34, 35, 20, 9, 36, 37, 38, 39, 18, 19, 40, 41, 42, 43, 16, 10, 44, 45, 46, 47, 22, 21, 48, 49, 50, 51, 52, 53, 54, 55, 56, 57, 58, 59, 23, 11, 60, 61, 62, 63, 64, 65, 66, 67, 68, 69, 70, 13, 14, 71, 72, 73, 74, 75, 76, 77, 78, 79, 80, 81, 82, 83, 84, 85, 86, 15, 135, 136, 137, 138, 139, 140, 141, 142, 143, 144, 145, 146, 147, 148, 149] (by decide +kernel) (by decide +kernel)
set_option maxRecDepth 20000 in
theorem gX1_mixTravellers_X0_goOn : GoodIn wsX1_mixTravellers (wsV RX1 117 RX0 yX0_goOn wsX0_goOn) := goodIn_app (goodIn_of _ (by decide +kernel)) ggX1_mixTravellers_X0_goOn
set_option maxRecDepth 20000 in
theorem ggX1_mixTravellers_X1_stateOf : GoodIn wsX1_mixTravellers wsX1_stateOf := goodIn_ca (goodIn_r _ [91, 2, 92, 93, 94, 95, 90, 96, 97, 98, 99, 53, 54, 7, 55, 12, 133, 134, 135, 136, 137, 138, 139, 140, 141, 142, 143, 144, 145, 146, 147, 148, 149] (by decide +kernel) (by decide +kernel)) (goodIn_sub (fun _ h => List.mem_cons_of_mem _ (List.mem_append_right _ h)) (by decide +kernel))
set_option maxRecDepth 20000 in
theorem gX1_mixTravellers_X1_stateOf : GoodIn wsX1_mixTravellers (wsV RX1 175 RX1 yX1_stateOf wsX1_stateOf) := goodIn_app (goodIn_of _ (by decide +kernel)) ggX1_mixTravellers_X1_stateOf
set_option maxRecDepth 20000 in
theorem ggX1_mixTravellers_X1_mix : GoodIn wsX1_mixTravellers wsX1_mix := goodIn_r _ [102, 103] (by decide +kernel) (by decide +kernel)
set_option maxRecDepth 20000 in
theorem gX1_mixTravellers_X1_mix : GoodIn wsX1_mixTravellers (va_wsS RX1 128 yX1_mix wsX1_mix) := goodIn_app (goodIn_of _ (by decide +kernel)) ggX1_mixTravellers_X1_mix
set_option maxRecDepth 20000 in
theorem ggX1_mixTravellers_X1_hiddenOf : GoodIn wsX1_mixTravellers wsX1_hiddenOf := goodIn_ca (goodIn_r _ [107, 2, 93, 94, 95, 90, 96, 97, 98, 99, 53, 54, 7, 55, 12, 108, 68, 69, 70, 13, 14, 60, 61, 50, 62, 133, 134, 135, 136, 137, 138, 139, 140, 141, 142, 143, 144, 145, 146, 147, 148, 149] (by decide +kernel) (by decide +kernel)) (goodIn_sub (fun _ h => List.mem_cons_of_mem _ (List.mem_append_right _ h)) (by decide +kernel))
set_option maxRecDepth 20000 in
theorem gX1_mixTravellers_X1_hiddenOf : GoodIn wsX1_mixTravellers (wsV RX1 178 RX1 yX1_hiddenOf wsX1_hiddenOf) := goodIn_app (goodIn_of _ (by decide +kernel)) ggX1_mixTravellers_X1_hiddenOf
set_option maxRecDepth 20000 in
theorem ggX1_mixTravellers_X1_lullabyOf : GoodIn wsX1_mixTravellers wsX1_lullabyOf := goodIn_ca (goodIn_r _ [112, 2, 113, 93, 94, 95, 90, 96, 97, 98, 99, 53, 54, 7, 55, 12, 133, 134, 135, 136, 137, 138, 139, 140, 141, 142, 143, 144, 145, 146, 147, 148, 149] (by decide +kernel) (by decide +kernel)) (goodIn_sub (fun _ h => List.mem_cons_of_mem _ (List.mem_append_right _ h)) (by decide +kernel))
set_option maxRecDepth 20000 in
theorem gX1_mixTravellers_X1_lullabyOf : GoodIn wsX1_mixTravellers (wsV RX1 181 RX1 yX1_lullabyOf wsX1_lullabyOf) := goodIn_app (goodIn_of _ (by decide +kernel)) ggX1_mixTravellers_X1_lullabyOf
set_option maxRecDepth 20000 in
theorem ggX1_mixTravellers_X1_placeInLine : GoodIn wsX1_mixTravellers wsX1_placeInLine := goodIn_ca (goodIn_r _ [117, 2, 92, 93, 94, 95, 90, 96, 97, 98, 99, 53, 54, 7, 55, 12, 118, 119, 120, 121, 17, 133, 134, 135, 136, 137, 138, 139, 140, 141, 142, 143, 144, 145, 146, 147, 148, 149] (by decide +kernel) (by decide +kernel)) (goodIn_sub (fun _ h => List.mem_cons_of_mem _ (List.mem_append_right _ h)) (by decide +kernel))
set_option maxRecDepth 20000 in
theorem gX1_mixTravellers_X1_placeInLine : GoodIn wsX1_mixTravellers (wsV RX1 184 RX1 yX1_placeInLine wsX1_placeInLine) := goodIn_app (goodIn_of _ (by decide +kernel)) ggX1_mixTravellers_X1_placeInLine
set_option maxRecDepth 20000 in
theorem ggX1_mixTravellers_X1_searchTime : GoodIn wsX1_mixTravellers wsX1_searchTime := goodIn_ca (goodIn_r _ [125, 2, 93, 94, 95, 90, 96, 97, 98, 99, 53, 54, 7, 55, 12, 126, 80, 81, 82, 14, 83, 84, 85, 86, 17, 15, 133, 134, 135, 136, 137, 138, 139, 140, 141, 142, 143, 144, 145, 146, 147, 148, 149] (by decide +kernel) (by decide +kernel)) (goodIn_sub (fun _ h => List.mem_cons_of_mem _ (List.mem_append_right _ h)) (by decide +kernel))
set_option maxRecDepth 20000 in
theorem gX1_mixTravellers_X1_searchTime : GoodIn wsX1_mixTravellers (wsV RX1 187 RX1 yX1_searchTime wsX1_searchTime) := goodIn_app (goodIn_of _ (by decide +kernel)) ggX1_mixTravellers_X1_searchTime
set_option maxRecDepth 20000 in
theorem ggX1_mixTravellers_X1_foreseenSleep : GoodIn wsX1_mixTravellers wsX1_foreseenSleep := goodIn_r _ [130, 2, 92, 1, 131, 132, 133, 134, 135, 136, 137, 138, 139, 140, 141, 142, 143, 144, 145, 146, 147, 148, 149] (by decide +kernel) (by decide +kernel)
set_option maxRecDepth 20000 in
theorem gX1_mixTravellers_X1_foreseenSleep : GoodIn wsX1_mixTravellers (wsV RX1 120 RX1 yX1_foreseenSleep wsX1_foreseenSleep) := goodIn_app (goodIn_of _ (by decide +kernel)) ggX1_mixTravellers_X1_foreseenSleep
theorem dX1_mixTravellers_0 : decode cX1_mixTravellers 0 = .ok (.aload_n 0, 1) := by decide +kernel
theorem dX1_mixTravellers_1 : decode cX1_mixTravellers 1 = .ok (.getfield 16, 3) := by decide +kernel
theorem dX1_mixTravellers_4 : decode cX1_mixTravellers 4 = .ok (.aload_n 0, 1) := by decide +kernel
theorem dX1_mixTravellers_5 : decode cX1_mixTravellers 5 = .ok (.getfield 10, 3) := by decide +kernel
theorem dX1_mixTravellers_8 : decode cX1_mixTravellers 8 = .ok (.invokevirtual 113, 3) := by decide +kernel
theorem dX1_mixTravellers_11 : decode cX1_mixTravellers 11 = .ok (.aload_n 0, 1) := by decide +kernel
theorem dX1_mixTravellers_12 : decode cX1_mixTravellers 12 = .ok (.getfield 16, 3) := by decide +kernel
theorem dX1_mixTravellers_15 : decode cX1_mixTravellers 15 = .ok (.bipush 100, 2) := by decide +kernel
theorem dX1_mixTravellers_17 : decode cX1_mixTravellers 17 = .ok (.invokevirtual 117, 3) := by decide +kernel
theorem dX1_mixTravellers_20 : decode cX1_mixTravellers 20 = .ok (.lload_n 1, 1) := by decide +kernel
theorem dX1_mixTravellers_21 : decode cX1_mixTravellers 21 = .ok (.lstore_n 3, 1) := by decide +kernel
theorem dX1_mixTravellers_22 : decode cX1_mixTravellers 22 = .ok (.iconst 0, 1) := by decide +kernel
theorem dX1_mixTravellers_23 : decode cX1_mixTravellers 23 = .ok (.istore 5, 2) := by decide +kernel
theorem dX1_mixTravellers_25 : decode cX1_mixTravellers 25 = .ok (.iload 5, 2) := by decide +kernel
theorem dX1_mixTravellers_27 : decode cX1_mixTravellers 27 = .ok (.aload_n 0, 1) := by decide +kernel
theorem dX1_mixTravellers_28 : decode cX1_mixTravellers 28 = .ok (.getfield 10, 3) := by decide +kernel
theorem dX1_mixTravellers_31 : decode cX1_mixTravellers 31 = .ok (.getfield 40, 3) := by decide +kernel
theorem dX1_mixTravellers_34 : decode cX1_mixTravellers 34 = .ok (.if_icmp .ge 75, 3) := by decide +kernel
theorem dX1_mixTravellers_37 : decode cX1_mixTravellers 37 = .ok (.lload_n 3, 1) := by decide +kernel
theorem dX1_mixTravellers_38 : decode cX1_mixTravellers 38 = .ok (.aload_n 0, 1) := by decide +kernel
theorem dX1_mixTravellers_39 : decode cX1_mixTravellers 39 = .ok (.iload 5, 2) := by decide +kernel
theorem dX1_mixTravellers_41 : decode cX1_mixTravellers 41 = .ok (.invokevirtual 175, 3) := by decide +kernel
theorem dX1_mixTravellers_44 : decode cX1_mixTravellers 44 = .ok (.invokestatic 128, 3) := by decide +kernel
theorem dX1_mixTravellers_47 : decode cX1_mixTravellers 47 = .ok (.lstore_n 3, 1) := by decide +kernel
theorem dX1_mixTravellers_48 : decode cX1_mixTravellers 48 = .ok (.lload_n 3, 1) := by decide +kernel
theorem dX1_mixTravellers_49 : decode cX1_mixTravellers 49 = .ok (.aload_n 0, 1) := by decide +kernel
theorem dX1_mixTravellers_50 : decode cX1_mixTravellers 50 = .ok (.iload 5, 2) := by decide +kernel
theorem dX1_mixTravellers_52 : decode cX1_mixTravellers 52 = .ok (.invokevirtual 178, 3) := by decide +kernel
theorem dX1_mixTravellers_55 : decode cX1_mixTravellers 55 = .ok (.invokestatic 128, 3) := by decide +kernel
theorem dX1_mixTravellers_58 : decode cX1_mixTravellers 58 = .ok (.lstore_n 3, 1) := by decide +kernel
theorem dX1_mixTravellers_59 : decode cX1_mixTravellers 59 = .ok (.lload_n 3, 1) := by decide +kernel
theorem dX1_mixTravellers_60 : decode cX1_mixTravellers 60 = .ok (.aload_n 0, 1) := by decide +kernel
theorem dX1_mixTravellers_61 : decode cX1_mixTravellers 61 = .ok (.iload 5, 2) := by decide +kernel
theorem dX1_mixTravellers_63 : decode cX1_mixTravellers 63 = .ok (.invokevirtual 181, 3) := by decide +kernel
theorem dX1_mixTravellers_66 : decode cX1_mixTravellers 66 = .ok (.invokestatic 128, 3) := by decide +kernel
theorem dX1_mixTravellers_69 : decode cX1_mixTravellers 69 = .ok (.lstore_n 3, 1) := by decide +kernel
theorem dX1_mixTravellers_70 : decode cX1_mixTravellers 70 = .ok (.lload_n 3, 1) := by decide +kernel
theorem dX1_mixTravellers_71 : decode cX1_mixTravellers 71 = .ok (.aload_n 0, 1) := by decide +kernel
theorem dX1_mixTravellers_72 : decode cX1_mixTravellers 72 = .ok (.iload 5, 2) := by decide +kernel
theorem dX1_mixTravellers_74 : decode cX1_mixTravellers 74 = .ok (.invokevirtual 184, 3) := by decide +kernel
theorem dX1_mixTravellers_77 : decode cX1_mixTravellers 77 = .ok (.invokestatic 128, 3) := by decide +kernel
theorem dX1_mixTravellers_80 : decode cX1_mixTravellers 80 = .ok (.lstore_n 3, 1) := by decide +kernel
theorem dX1_mixTravellers_81 : decode cX1_mixTravellers 81 = .ok (.lload_n 3, 1) := by decide +kernel
theorem dX1_mixTravellers_82 : decode cX1_mixTravellers 82 = .ok (.aload_n 0, 1) := by decide +kernel
theorem dX1_mixTravellers_83 : decode cX1_mixTravellers 83 = .ok (.iload 5, 2) := by decide +kernel
theorem dX1_mixTravellers_85 : decode cX1_mixTravellers 85 = .ok (.invokevirtual 187, 3) := by decide +kernel
theorem dX1_mixTravellers_88 : decode cX1_mixTravellers 88 = .ok (.invokestatic 128, 3) := by decide +kernel
theorem dX1_mixTravellers_91 : decode cX1_mixTravellers 91 = .ok (.lstore_n 3, 1) := by decide +kernel
theorem dX1_mixTravellers_92 : decode cX1_mixTravellers 92 = .ok (.lload_n 3, 1) := by decide +kernel
theorem dX1_mixTravellers_93 : decode cX1_mixTravellers 93 = .ok (.aload_n 0, 1) := by decide +kernel
theorem dX1_mixTravellers_94 : decode cX1_mixTravellers 94 = .ok (.iload 5, 2) := by decide +kernel
theorem dX1_mixTravellers_96 : decode cX1_mixTravellers 96 = .ok (.invokevirtual 120, 3) := by decide +kernel
theorem dX1_mixTravellers_99 : decode cX1_mixTravellers 99 = .ok (.invokestatic 128, 3) := by decide +kernel
theorem dX1_mixTravellers_102 : decode cX1_mixTravellers 102 = .ok (.lstore_n 3, 1) := by decide +kernel
theorem dX1_mixTravellers_103 : decode cX1_mixTravellers 103 = .ok (.iinc 5 1, 3) := by decide +kernel
theorem dX1_mixTravellers_106 : decode cX1_mixTravellers 106 = .ok (.goto (-81), 3) := by decide +kernel
theorem dX1_mixTravellers_109 : decode cX1_mixTravellers 109 = .ok (.lload_n 3, 1) := by decide +kernel
theorem dX1_mixTravellers_110 : decode cX1_mixTravellers 110 = .ok (.lreturn, 1) := by decide +kernel
set_option maxRecDepth 20000 in
theorem ggX1_mixGuards_X1_alertnessOf : GoodIn wsX1_mixGuards wsX1_alertnessOf := goodIn_ca (goodIn_r _ [7, 1, 8, 9, 10, 11, 6, 12, 13, 14, 15, 16, 17, 18, 19, 20, 35, 36, 37, 38, 39, 40, 41, 42, 43, 44, 45, 46, 47, 48, 49, 50, 51] (by decide +kernel) (by decide +kernel)) (goodIn_sub (fun _ h => List.mem_cons_of_mem _ (List.mem_append_right _ h)) (by decide +kernel))
set_option maxRecDepth 20000 in
theorem gX1_mixGuards_X1_alertnessOf : GoodIn wsX1_mixGuards (wsV RX1 190 RX1 yX1_alertnessOf wsX1_alertnessOf) := goodIn_app (goodIn_of _ (by decide +kernel)) ggX1_mixGuards_X1_alertnessOf
set_option maxRecDepth 20000 in
theorem ggX1_mixGuards_X1_mix : GoodIn wsX1_mixGuards wsX1_mix := goodIn_r _ [23, 24] (by decide +kernel) (by decide +kernel)
set_option maxRecDepth 20000 in
theorem gX1_mixGuards_X1_mix : GoodIn wsX1_mixGuards (va_wsS RX1 128 yX1_mix wsX1_mix) := goodIn_app (goodIn_of _ (by decide +kernel)) ggX1_mixGuards_X1_mix
set_option maxRecDepth 20000 in
theorem ggX1_mixGuards_X1_searches : GoodIn wsX1_mixGuards wsX1_searches := goodIn_ca (goodIn_r _ [28, 1, 29, 9, 10, 11, 6, 12, 13, 14, 15, 16, 17, 18, 19, 20, 35, 36, 37, 38, 39, 40, 41, 42, 43, 44, 45, 46, 47, 48, 49, 50, 51] (by decide +kernel) (by decide +kernel)) (goodIn_sub (fun _ h => List.mem_cons_of_mem _ (List.mem_append_right _ h)) (by decide +kernel))
set_option maxRecDepth 20000 in
theorem gX1_mixGuards_X1_searches : GoodIn wsX1_mixGuards (wsV RX1 193 RX1 yX1_searches wsX1_searches) := goodIn_app (goodIn_of _ (by decide +kernel)) ggX1_mixGuards_X1_searches
set_option maxRecDepth 20000 in
theorem ggX1_mixGuards_X1_minutesToGo : GoodIn wsX1_mixGuards wsX1_minutesToGo := goodIn_ca (goodIn_r _ [33, 1, 34, 9, 10, 11, 6, 12, 13, 14, 15, 16, 17, 18, 19, 20, 35, 36, 37, 38, 39, 40, 41, 42, 43, 44, 45, 46, 47, 48, 49, 50, 51] (by decide +kernel) (by decide +kernel)) (goodIn_sub (fun _ h => List.mem_cons_of_mem _ (List.mem_append_right _ h)) (by decide +kernel))
set_option maxRecDepth 20000 in
theorem gX1_mixGuards_X1_minutesToGo : GoodIn wsX1_mixGuards (wsV RX1 196 RX1 yX1_minutesToGo wsX1_minutesToGo) := goodIn_app (goodIn_of _ (by decide +kernel)) ggX1_mixGuards_X1_minutesToGo
theorem dX1_mixGuards_0 : decode cX1_mixGuards 0 = .ok (.lload_n 1, 1) := by decide +kernel
theorem dX1_mixGuards_1 : decode cX1_mixGuards 1 = .ok (.lstore_n 3, 1) := by decide +kernel
theorem dX1_mixGuards_2 : decode cX1_mixGuards 2 = .ok (.iconst 0, 1) := by decide +kernel
theorem dX1_mixGuards_3 : decode cX1_mixGuards 3 = .ok (.istore 5, 2) := by decide +kernel
theorem dX1_mixGuards_5 : decode cX1_mixGuards 5 = .ok (.iload 5, 2) := by decide +kernel
theorem dX1_mixGuards_7 : decode cX1_mixGuards 7 = .ok (.aload_n 0, 1) := by decide +kernel
theorem dX1_mixGuards_8 : decode cX1_mixGuards 8 = .ok (.getfield 10, 3) := by decide +kernel
theorem dX1_mixGuards_11 : decode cX1_mixGuards 11 = .ok (.getfield 19, 3) := by decide +kernel
theorem dX1_mixGuards_14 : decode cX1_mixGuards 14 = .ok (.if_icmp .ge 42, 3) := by decide +kernel
theorem dX1_mixGuards_17 : decode cX1_mixGuards 17 = .ok (.lload_n 3, 1) := by decide +kernel
theorem dX1_mixGuards_18 : decode cX1_mixGuards 18 = .ok (.aload_n 0, 1) := by decide +kernel
theorem dX1_mixGuards_19 : decode cX1_mixGuards 19 = .ok (.iload 5, 2) := by decide +kernel
theorem dX1_mixGuards_21 : decode cX1_mixGuards 21 = .ok (.invokevirtual 190, 3) := by decide +kernel
theorem dX1_mixGuards_24 : decode cX1_mixGuards 24 = .ok (.invokestatic 128, 3) := by decide +kernel
theorem dX1_mixGuards_27 : decode cX1_mixGuards 27 = .ok (.lstore_n 3, 1) := by decide +kernel
theorem dX1_mixGuards_28 : decode cX1_mixGuards 28 = .ok (.lload_n 3, 1) := by decide +kernel
theorem dX1_mixGuards_29 : decode cX1_mixGuards 29 = .ok (.aload_n 0, 1) := by decide +kernel
theorem dX1_mixGuards_30 : decode cX1_mixGuards 30 = .ok (.iload 5, 2) := by decide +kernel
theorem dX1_mixGuards_32 : decode cX1_mixGuards 32 = .ok (.invokevirtual 193, 3) := by decide +kernel
theorem dX1_mixGuards_35 : decode cX1_mixGuards 35 = .ok (.invokestatic 128, 3) := by decide +kernel
theorem dX1_mixGuards_38 : decode cX1_mixGuards 38 = .ok (.lstore_n 3, 1) := by decide +kernel
theorem dX1_mixGuards_39 : decode cX1_mixGuards 39 = .ok (.lload_n 3, 1) := by decide +kernel
theorem dX1_mixGuards_40 : decode cX1_mixGuards 40 = .ok (.aload_n 0, 1) := by decide +kernel
theorem dX1_mixGuards_41 : decode cX1_mixGuards 41 = .ok (.iload 5, 2) := by decide +kernel
theorem dX1_mixGuards_43 : decode cX1_mixGuards 43 = .ok (.invokevirtual 196, 3) := by decide +kernel
theorem dX1_mixGuards_46 : decode cX1_mixGuards 46 = .ok (.invokestatic 128, 3) := by decide +kernel
theorem dX1_mixGuards_49 : decode cX1_mixGuards 49 = .ok (.lstore_n 3, 1) := by decide +kernel
theorem dX1_mixGuards_50 : decode cX1_mixGuards 50 = .ok (.iinc 5 1, 3) := by decide +kernel
theorem dX1_mixGuards_53 : decode cX1_mixGuards 53 = .ok (.goto (-48), 3) := by decide +kernel
theorem dX1_mixGuards_56 : decode cX1_mixGuards 56 = .ok (.lload_n 3, 1) := by decide +kernel
theorem dX1_mixGuards_57 : decode cX1_mixGuards 57 = .ok (.lreturn, 1) := by decide +kernel
theorem dX1_mix_0 : decode cX1_mix 0 = .ok (.lload_n 0, 1) := by decide +kernel
theorem dX1_mix_1 : decode cX1_mix 1 = .ok (.ldc2_w 199, 3) := by decide +kernel
theorem dX1_mix_4 : decode cX1_mix 4 = .ok (.lmul, 1) := by decide +kernel
theorem dX1_mix_5 : decode cX1_mix 5 = .ok (.iload_n 2, 1) := by decide +kernel
theorem dX1_mix_6 : decode cX1_mix 6 = .ok (.i2l, 1) := by decide +kernel
theorem dX1_mix_7 : decode cX1_mix 7 = .ok (.ladd, 1) := by decide +kernel
theorem dX1_mix_8 : decode cX1_mix 8 = .ok (.lreturn, 1) := by decide +kernel
theorem dX1_foreseenSleep_0 : decode cX1_foreseenSleep 0 = .ok (.aload_n 0, 1) := by decide +kernel
theorem dX1_foreseenSleep_1 : decode cX1_foreseenSleep 1 = .ok (.getfield 10, 3) := by decide +kernel
theorem dX1_foreseenSleep_4 : decode cX1_foreseenSleep 4 = .ok (.getfield 91, 3) := by decide +kernel
theorem dX1_foreseenSleep_7 : decode cX1_foreseenSleep 7 = .ok (.iload_n 1, 1) := by decide +kernel
theorem dX1_foreseenSleep_8 : decode cX1_foreseenSleep 8 = .ok (.iaload, 1) := by decide +kernel
theorem dX1_foreseenSleep_9 : decode cX1_foreseenSleep 9 = .ok (.iconst 3, 1) := by decide +kernel
theorem dX1_foreseenSleep_10 : decode cX1_foreseenSleep 10 = .ok (.if_icmp .ne 5, 3) := by decide +kernel
theorem dX1_foreseenSleep_13 : decode cX1_foreseenSleep 13 = .ok (.iconst 0, 1) := by decide +kernel
theorem dX1_foreseenSleep_14 : decode cX1_foreseenSleep 14 = .ok (.ireturn, 1) := by decide +kernel
theorem dX1_foreseenSleep_15 : decode cX1_foreseenSleep 15 = .ok (.aload_n 0, 1) := by decide +kernel
theorem dX1_foreseenSleep_16 : decode cX1_foreseenSleep 16 = .ok (.getfield 16, 3) := by decide +kernel
theorem dX1_foreseenSleep_19 : decode cX1_foreseenSleep 19 = .ok (.getfield 91, 3) := by decide +kernel
theorem dX1_foreseenSleep_22 : decode cX1_foreseenSleep 22 = .ok (.iload_n 1, 1) := by decide +kernel
theorem dX1_foreseenSleep_23 : decode cX1_foreseenSleep 23 = .ok (.iaload, 1) := by decide +kernel
theorem dX1_foreseenSleep_24 : decode cX1_foreseenSleep 24 = .ok (.iconst 3, 1) := by decide +kernel
theorem dX1_foreseenSleep_25 : decode cX1_foreseenSleep 25 = .ok (.if_icmp .eq 5, 3) := by decide +kernel
theorem dX1_foreseenSleep_28 : decode cX1_foreseenSleep 28 = .ok (.iconst (-1), 1) := by decide +kernel
theorem dX1_foreseenSleep_29 : decode cX1_foreseenSleep 29 = .ok (.ireturn, 1) := by decide +kernel
theorem dX1_foreseenSleep_30 : decode cX1_foreseenSleep 30 = .ok (.aload_n 0, 1) := by decide +kernel
theorem dX1_foreseenSleep_31 : decode cX1_foreseenSleep 31 = .ok (.getfield 16, 3) := by decide +kernel
theorem dX1_foreseenSleep_34 : decode cX1_foreseenSleep 34 = .ok (.getfield 201, 3) := by decide +kernel
theorem dX1_foreseenSleep_37 : decode cX1_foreseenSleep 37 = .ok (.iload_n 1, 1) := by decide +kernel
theorem dX1_foreseenSleep_38 : decode cX1_foreseenSleep 38 = .ok (.iaload, 1) := by decide +kernel
theorem dX1_foreseenSleep_39 : decode cX1_foreseenSleep 39 = .ok (.aload_n 0, 1) := by decide +kernel
theorem dX1_foreseenSleep_40 : decode cX1_foreseenSleep 40 = .ok (.getfield 10, 3) := by decide +kernel
theorem dX1_foreseenSleep_43 : decode cX1_foreseenSleep 43 = .ok (.getfield 75, 3) := by decide +kernel
theorem dX1_foreseenSleep_46 : decode cX1_foreseenSleep 46 = .ok (.isub, 1) := by decide +kernel
theorem dX1_foreseenSleep_47 : decode cX1_foreseenSleep 47 = .ok (.ireturn, 1) := by decide +kernel
set_option maxRecDepth 20000 in
theorem ggX1_requireTraveller_X0_isTraveller : GoodIn wsX1_requireTraveller wsX0_isTraveller := goodIn_r _ [8, 9, 12, 13, 14, 15, 16, 17, 18, 19, 20, 21, 22, 23, 24, 25, 26] (by decide +kernel) (by decide +kernel)
set_option maxRecDepth 20000 in
theorem gX1_requireTraveller_X0_isTraveller : GoodIn wsX1_requireTraveller (wsV RX1 204 RX0 yX0_isTraveller wsX0_isTraveller) := goodIn_app (goodIn_of _ (by decide +kernel)) ggX1_requireTraveller_X0_isTraveller
theorem dX1_requireTraveller_0 : decode cX1_requireTraveller 0 = .ok (.aload_n 0, 1) := by decide +kernel
theorem dX1_requireTraveller_1 : decode cX1_requireTraveller 1 = .ok (.getfield 10, 3) := by decide +kernel
theorem dX1_requireTraveller_4 : decode cX1_requireTraveller 4 = .ok (.iload_n 1, 1) := by decide +kernel
theorem dX1_requireTraveller_5 : decode cX1_requireTraveller 5 = .ok (.invokevirtual 204, 3) := by decide +kernel
theorem dX1_requireTraveller_8 : decode cX1_requireTraveller 8 = .ok (.ifCond .ne 13, 3) := by decide +kernel
theorem dX1_requireTraveller_11 : decode cX1_requireTraveller 11 = .ok (.new 208, 3) := by decide +kernel
theorem dX1_requireTraveller_14 : decode cX1_requireTraveller 14 = .ok (.dup, 1) := by decide +kernel
theorem dX1_requireTraveller_15 : decode cX1_requireTraveller 15 = .ok (.ldc 210, 2) := by decide +kernel
theorem dX1_requireTraveller_17 : decode cX1_requireTraveller 17 = .ok (.invokespecial 212, 3) := by decide +kernel
theorem dX1_requireTraveller_20 : decode cX1_requireTraveller 20 = .ok (.athrow, 1) := by decide +kernel
theorem dX1_requireTraveller_21 : decode cX1_requireTraveller 21 = .ok (.return_, 1) := by decide +kernel
set_option maxRecDepth 20000 in
theorem ggX1_requireGuard_X0_isGuard : GoodIn wsX1_requireGuard wsX0_isGuard := goodIn_r _ [8, 9, 12, 13, 14, 15, 16, 17, 18, 19, 20, 21, 22, 23, 24, 25, 26] (by decide +kernel) (by decide +kernel)
set_option maxRecDepth 20000 in
theorem gX1_requireGuard_X0_isGuard : GoodIn wsX1_requireGuard (wsV RX1 213 RX0 yX0_isGuard wsX0_isGuard) := goodIn_app (goodIn_of _ (by decide +kernel)) ggX1_requireGuard_X0_isGuard
theorem dX1_requireGuard_0 : decode cX1_requireGuard 0 = .ok (.aload_n 0, 1) := by decide +kernel
theorem dX1_requireGuard_1 : decode cX1_requireGuard 1 = .ok (.getfield 10, 3) := by decide +kernel
theorem dX1_requireGuard_4 : decode cX1_requireGuard 4 = .ok (.iload_n 1, 1) := by decide +kernel
theorem dX1_requireGuard_5 : decode cX1_requireGuard 5 = .ok (.invokevirtual 213, 3) := by decide +kernel
theorem dX1_requireGuard_8 : decode cX1_requireGuard 8 = .ok (.ifCond .ne 13, 3) := by decide +kernel
theorem dX1_requireGuard_11 : decode cX1_requireGuard 11 = .ok (.new 208, 3) := by decide +kernel
theorem dX1_requireGuard_14 : decode cX1_requireGuard 14 = .ok (.dup, 1) := by decide +kernel
theorem dX1_requireGuard_15 : decode cX1_requireGuard 15 = .ok (.ldc 216, 2) := by decide +kernel
theorem dX1_requireGuard_17 : decode cX1_requireGuard 17 = .ok (.invokespecial 212, 3) := by decide +kernel
theorem dX1_requireGuard_20 : decode cX1_requireGuard 20 = .ok (.athrow, 1) := by decide +kernel
theorem dX1_requireGuard_21 : decode cX1_requireGuard 21 = .ok (.return_, 1) := by decide +kernel
theorem dX1_requireDigit_0 : decode cX1_requireDigit 0 = .ok (.iload_n 0, 1) := by decide +kernel
theorem dX1_requireDigit_1 : decode cX1_requireDigit 1 = .ok (.ifCond .lt 9, 3) := by decide +kernel
theorem dX1_requireDigit_4 : decode cX1_requireDigit 4 = .ok (.iload_n 0, 1) := by decide +kernel
theorem dX1_requireDigit_5 : decode cX1_requireDigit 5 = .ok (.bipush 9, 2) := by decide +kernel
theorem dX1_requireDigit_7 : decode cX1_requireDigit 7 = .ok (.if_icmp .le 13, 3) := by decide +kernel
theorem dX1_requireDigit_10 : decode cX1_requireDigit 10 = .ok (.new 218, 3) := by decide +kernel
theorem dX1_requireDigit_13 : decode cX1_requireDigit 13 = .ok (.dup, 1) := by decide +kernel
theorem dX1_requireDigit_14 : decode cX1_requireDigit 14 = .ok (.ldc 220, 2) := by decide +kernel
theorem dX1_requireDigit_16 : decode cX1_requireDigit 16 = .ok (.invokespecial 222, 3) := by decide +kernel
theorem dX1_requireDigit_19 : decode cX1_requireDigit 19 = .ok (.athrow, 1) := by decide +kernel
theorem dX1_requireDigit_20 : decode cX1_requireDigit 20 = .ok (.return_, 1) := by decide +kernel
theorem dX1_requireMinutes_0 : decode cX1_requireMinutes 0 = .ok (.iload_n 0, 1) := by decide +kernel
theorem dX1_requireMinutes_1 : decode cX1_requireMinutes 1 = .ok (.iconst 1, 1) := by decide +kernel
theorem dX1_requireMinutes_2 : decode cX1_requireMinutes 2 = .ok (.if_icmp .lt 9, 3) := by decide +kernel
theorem dX1_requireMinutes_5 : decode cX1_requireMinutes 5 = .ok (.iload_n 0, 1) := by decide +kernel
theorem dX1_requireMinutes_6 : decode cX1_requireMinutes 6 = .ok (.bipush 60, 2) := by decide +kernel
theorem dX1_requireMinutes_8 : decode cX1_requireMinutes 8 = .ok (.if_icmp .le 13, 3) := by decide +kernel
theorem dX1_requireMinutes_11 : decode cX1_requireMinutes 11 = .ok (.new 218, 3) := by decide +kernel
theorem dX1_requireMinutes_14 : decode cX1_requireMinutes 14 = .ok (.dup, 1) := by decide +kernel
theorem dX1_requireMinutes_15 : decode cX1_requireMinutes 15 = .ok (.ldc 223, 2) := by decide +kernel
theorem dX1_requireMinutes_17 : decode cX1_requireMinutes 17 = .ok (.invokespecial 222, 3) := by decide +kernel
theorem dX1_requireMinutes_20 : decode cX1_requireMinutes 20 = .ok (.athrow, 1) := by decide +kernel
theorem dX1_requireMinutes_21 : decode cX1_requireMinutes 21 = .ok (.return_, 1) := by decide +kernel
theorem dX1_requireWaiting_0 : decode cX1_requireWaiting 0 = .ok (.aload_n 0, 1) := by decide +kernel
theorem dX1_requireWaiting_1 : decode cX1_requireWaiting 1 = .ok (.getfield 10, 3) := by decide +kernel
theorem dX1_requireWaiting_4 : decode cX1_requireWaiting 4 = .ok (.getfield 91, 3) := by decide +kernel
theorem dX1_requireWaiting_7 : decode cX1_requireWaiting 7 = .ok (.iload_n 1, 1) := by decide +kernel
theorem dX1_requireWaiting_8 : decode cX1_requireWaiting 8 = .ok (.iaload, 1) := by decide +kernel
theorem dX1_requireWaiting_9 : decode cX1_requireWaiting 9 = .ok (.ifCond .eq 13, 3) := by decide +kernel
theorem dX1_requireWaiting_12 : decode cX1_requireWaiting 12 = .ok (.new 23, 3) := by decide +kernel
theorem dX1_requireWaiting_15 : decode cX1_requireWaiting 15 = .ok (.dup, 1) := by decide +kernel
theorem dX1_requireWaiting_16 : decode cX1_requireWaiting 16 = .ok (.ldc 225, 2) := by decide +kernel
theorem dX1_requireWaiting_18 : decode cX1_requireWaiting 18 = .ok (.invokespecial 27, 3) := by decide +kernel
theorem dX1_requireWaiting_21 : decode cX1_requireWaiting 21 = .ok (.athrow, 1) := by decide +kernel
theorem dX1_requireWaiting_22 : decode cX1_requireWaiting 22 = .ok (.return_, 1) := by decide +kernel
end
section
theorem dX2_init_0 : decode cX2_init 0 = .ok (.aload_n 0, 1) := by decide +kernel
theorem dX2_init_1 : decode cX2_init 1 = .ok (.invokespecial 1, 3) := by decide +kernel
theorem dX2_init_4 : decode cX2_init 4 = .ok (.aload_n 0, 1) := by decide +kernel
theorem dX2_init_5 : decode cX2_init 5 = .ok (.bipush 24, 2) := by decide +kernel
theorem dX2_init_7 : decode cX2_init 7 = .ok (.newarray .int, 2) := by decide +kernel
theorem dX2_init_9 : decode cX2_init 9 = .ok (.putfield 9, 3) := by decide +kernel
theorem dX2_init_12 : decode cX2_init 12 = .ok (.aload_n 0, 1) := by decide +kernel
theorem dX2_init_13 : decode cX2_init 13 = .ok (.bipush 24, 2) := by decide +kernel
theorem dX2_init_15 : decode cX2_init 15 = .ok (.newarray .int, 2) := by decide +kernel
theorem dX2_init_17 : decode cX2_init 17 = .ok (.putfield 13, 3) := by decide +kernel
theorem dX2_init_20 : decode cX2_init 20 = .ok (.aload_n 0, 1) := by decide +kernel
theorem dX2_init_21 : decode cX2_init 21 = .ok (.bipush 124, 2) := by decide +kernel
theorem dX2_init_23 : decode cX2_init 23 = .ok (.newarray .int, 2) := by decide +kernel
theorem dX2_init_25 : decode cX2_init 25 = .ok (.putfield 16, 3) := by decide +kernel
theorem dX2_init_28 : decode cX2_init 28 = .ok (.aload_n 0, 1) := by decide +kernel
theorem dX2_init_29 : decode cX2_init 29 = .ok (.bipush 124, 2) := by decide +kernel
theorem dX2_init_31 : decode cX2_init 31 = .ok (.newarray .int, 2) := by decide +kernel
theorem dX2_init_33 : decode cX2_init 33 = .ok (.putfield 19, 3) := by decide +kernel
theorem dX2_init_36 : decode cX2_init 36 = .ok (.aload_n 0, 1) := by decide +kernel
theorem dX2_init_37 : decode cX2_init 37 = .ok (.bipush 8, 2) := by decide +kernel
theorem dX2_init_39 : decode cX2_init 39 = .ok (.newarray .boolean, 2) := by decide +kernel
theorem dX2_init_41 : decode cX2_init 41 = .ok (.putfield 22, 3) := by decide +kernel
theorem dX2_init_44 : decode cX2_init 44 = .ok (.return_, 1) := by decide +kernel
theorem dX2_thrown_0 : decode cX2_thrown 0 = .ok (.aload_n 0, 1) := by decide +kernel
theorem dX2_thrown_1 : decode cX2_thrown 1 = .ok (.getfield 26, 3) := by decide +kernel
theorem dX2_thrown_4 : decode cX2_thrown 4 = .ok (.ireturn, 1) := by decide +kernel
theorem dX2_fail_0 : decode cX2_fail 0 = .ok (.aload_n 0, 1) := by decide +kernel
theorem dX2_fail_1 : decode cX2_fail 1 = .ok (.iload_n 1, 1) := by decide +kernel
theorem dX2_fail_2 : decode cX2_fail 2 = .ok (.putfield 26, 3) := by decide +kernel
theorem dX2_fail_5 : decode cX2_fail 5 = .ok (.iconst 0, 1) := by decide +kernel
theorem dX2_fail_6 : decode cX2_fail 6 = .ok (.ireturn, 1) := by decide +kernel
theorem dX2_told_0 : decode cX2_told 0 = .ok (.aload_n 0, 1) := by decide +kernel
theorem dX2_told_1 : decode cX2_told 1 = .ok (.iconst 0, 1) := by decide +kernel
theorem dX2_told_2 : decode cX2_told 2 = .ok (.putfield 26, 3) := by decide +kernel
theorem dX2_told_5 : decode cX2_told 5 = .ok (.iload_n 1, 1) := by decide +kernel
theorem dX2_told_6 : decode cX2_told 6 = .ok (.ireturn, 1) := by decide +kernel
theorem dX2_isIn_0 : decode cX2_isIn 0 = .ok (.iload_n 0, 1) := by decide +kernel
theorem dX2_isIn_1 : decode cX2_isIn 1 = .ok (.iload_n 1, 1) := by decide +kernel
theorem dX2_isIn_2 : decode cX2_isIn 2 = .ok (.if_icmp .lt 12, 3) := by decide +kernel
theorem dX2_isIn_5 : decode cX2_isIn 5 = .ok (.iload_n 0, 1) := by decide +kernel
theorem dX2_isIn_6 : decode cX2_isIn 6 = .ok (.iload_n 2, 1) := by decide +kernel
theorem dX2_isIn_7 : decode cX2_isIn 7 = .ok (.if_icmp .gt 7, 3) := by decide +kernel
theorem dX2_isIn_10 : decode cX2_isIn 10 = .ok (.iconst 1, 1) := by decide +kernel
theorem dX2_isIn_11 : decode cX2_isIn 11 = .ok (.goto 4, 3) := by decide +kernel
theorem dX2_isIn_14 : decode cX2_isIn 14 = .ok (.iconst 0, 1) := by decide +kernel
theorem dX2_isIn_15 : decode cX2_isIn 15 = .ok (.ireturn, 1) := by decide +kernel
set_option maxRecDepth 20000 in
theorem ggX2_isTraveller_X2_isIn : GoodIn wsX2_isTraveller wsX2_isIn := goodIn_r _ [5] (by decide +kernel) (by decide +kernel)
set_option maxRecDepth 20000 in
theorem gX2_isTraveller_X2_isIn : GoodIn wsX2_isTraveller (va_wsS RX2 33 yX2_isIn wsX2_isIn) := goodIn_app (goodIn_of _ (by decide +kernel)) ggX2_isTraveller_X2_isIn
theorem dX2_isTraveller_0 : decode cX2_isTraveller 0 = .ok (.iload_n 1, 1) := by decide +kernel
theorem dX2_isTraveller_1 : decode cX2_isTraveller 1 = .ok (.iconst 0, 1) := by decide +kernel
theorem dX2_isTraveller_2 : decode cX2_isTraveller 2 = .ok (.aload_n 0, 1) := by decide +kernel
theorem dX2_isTraveller_3 : decode cX2_isTraveller 3 = .ok (.getfield 30, 3) := by decide +kernel
theorem dX2_isTraveller_6 : decode cX2_isTraveller 6 = .ok (.iconst 1, 1) := by decide +kernel
theorem dX2_isTraveller_7 : decode cX2_isTraveller 7 = .ok (.isub, 1) := by decide +kernel
theorem dX2_isTraveller_8 : decode cX2_isTraveller 8 = .ok (.invokestatic 33, 3) := by decide +kernel
theorem dX2_isTraveller_11 : decode cX2_isTraveller 11 = .ok (.ireturn, 1) := by decide +kernel
set_option maxRecDepth 20000 in
theorem ggX2_isGuard_X2_isIn : GoodIn wsX2_isGuard wsX2_isIn := goodIn_r _ [5] (by decide +kernel) (by decide +kernel)
set_option maxRecDepth 20000 in
theorem gX2_isGuard_X2_isIn : GoodIn wsX2_isGuard (va_wsS RX2 33 yX2_isIn wsX2_isIn) := goodIn_app (goodIn_of _ (by decide +kernel)) ggX2_isGuard_X2_isIn
theorem dX2_isGuard_0 : decode cX2_isGuard 0 = .ok (.iload_n 1, 1) := by decide +kernel
theorem dX2_isGuard_1 : decode cX2_isGuard 1 = .ok (.iconst 0, 1) := by decide +kernel
theorem dX2_isGuard_2 : decode cX2_isGuard 2 = .ok (.aload_n 0, 1) := by decide +kernel
theorem dX2_isGuard_3 : decode cX2_isGuard 3 = .ok (.getfield 16, 3) := by decide +kernel
theorem dX2_isGuard_6 : decode cX2_isGuard 6 = .ok (.iconst 3, 1) := by decide +kernel
theorem dX2_isGuard_7 : decode cX2_isGuard 7 = .ok (.iaload, 1) := by decide +kernel
theorem dX2_isGuard_8 : decode cX2_isGuard 8 = .ok (.iconst 1, 1) := by decide +kernel
theorem dX2_isGuard_9 : decode cX2_isGuard 9 = .ok (.isub, 1) := by decide +kernel
theorem dX2_isGuard_10 : decode cX2_isGuard 10 = .ok (.invokestatic 33, 3) := by decide +kernel
theorem dX2_isGuard_13 : decode cX2_isGuard 13 = .ok (.ireturn, 1) := by decide +kernel
theorem dX2_tr_0 : decode cX2_tr 0 = .ok (.aload_n 0, 1) := by decide +kernel
theorem dX2_tr_1 : decode cX2_tr 1 = .ok (.getfield 16, 3) := by decide +kernel
theorem dX2_tr_4 : decode cX2_tr 4 = .ok (.bipush 28, 2) := by decide +kernel
theorem dX2_tr_6 : decode cX2_tr 6 = .ok (.iconst 4, 1) := by decide +kernel
theorem dX2_tr_7 : decode cX2_tr 7 = .ok (.iload_n 1, 1) := by decide +kernel
theorem dX2_tr_8 : decode cX2_tr 8 = .ok (.imul, 1) := by decide +kernel
theorem dX2_tr_9 : decode cX2_tr 9 = .ok (.iadd, 1) := by decide +kernel
theorem dX2_tr_10 : decode cX2_tr 10 = .ok (.iload_n 2, 1) := by decide +kernel
theorem dX2_tr_11 : decode cX2_tr 11 = .ok (.iadd, 1) := by decide +kernel
theorem dX2_tr_12 : decode cX2_tr 12 = .ok (.iaload, 1) := by decide +kernel
theorem dX2_tr_13 : decode cX2_tr 13 = .ok (.ireturn, 1) := by decide +kernel
theorem dX2_let_0 : decode cX2_let 0 = .ok (.aload_n 0, 1) := by decide +kernel
theorem dX2_let_1 : decode cX2_let 1 = .ok (.getfield 16, 3) := by decide +kernel
theorem dX2_let_4 : decode cX2_let 4 = .ok (.bipush 28, 2) := by decide +kernel
theorem dX2_let_6 : decode cX2_let 6 = .ok (.iconst 4, 1) := by decide +kernel
theorem dX2_let_7 : decode cX2_let 7 = .ok (.iload_n 1, 1) := by decide +kernel
theorem dX2_let_8 : decode cX2_let 8 = .ok (.imul, 1) := by decide +kernel
theorem dX2_let_9 : decode cX2_let 9 = .ok (.iadd, 1) := by decide +kernel
theorem dX2_let_10 : decode cX2_let 10 = .ok (.iload_n 2, 1) := by decide +kernel
theorem dX2_let_11 : decode cX2_let 11 = .ok (.iadd, 1) := by decide +kernel
theorem dX2_let_12 : decode cX2_let 12 = .ok (.iload_n 3, 1) := by decide +kernel
theorem dX2_let_13 : decode cX2_let 13 = .ok (.iastore, 1) := by decide +kernel
theorem dX2_let_14 : decode cX2_let 14 = .ok (.return_, 1) := by decide +kernel
theorem dX2_gu_0 : decode cX2_gu 0 = .ok (.aload_n 0, 1) := by decide +kernel
theorem dX2_gu_1 : decode cX2_gu 1 = .ok (.getfield 16, 3) := by decide +kernel
theorem dX2_gu_4 : decode cX2_gu 4 = .ok (.iconst 4, 1) := by decide +kernel
theorem dX2_gu_5 : decode cX2_gu 5 = .ok (.iconst 3, 1) := by decide +kernel
theorem dX2_gu_6 : decode cX2_gu 6 = .ok (.iload_n 1, 1) := by decide +kernel
theorem dX2_gu_7 : decode cX2_gu 7 = .ok (.imul, 1) := by decide +kernel
theorem dX2_gu_8 : decode cX2_gu 8 = .ok (.iadd, 1) := by decide +kernel
theorem dX2_gu_9 : decode cX2_gu 9 = .ok (.iload_n 2, 1) := by decide +kernel
theorem dX2_gu_10 : decode cX2_gu 10 = .ok (.iadd, 1) := by decide +kernel
theorem dX2_gu_11 : decode cX2_gu 11 = .ok (.iaload, 1) := by decide +kernel
theorem dX2_gu_12 : decode cX2_gu 12 = .ok (.ireturn, 1) := by decide +kernel
theorem dX2_post_0 : decode cX2_post 0 = .ok (.aload_n 0, 1) := by decide +kernel
theorem dX2_post_1 : decode cX2_post 1 = .ok (.getfield 16, 3) := by decide +kernel
theorem dX2_post_4 : decode cX2_post 4 = .ok (.iconst 4, 1) := by decide +kernel
theorem dX2_post_5 : decode cX2_post 5 = .ok (.iconst 3, 1) := by decide +kernel
theorem dX2_post_6 : decode cX2_post 6 = .ok (.iload_n 1, 1) := by decide +kernel
theorem dX2_post_7 : decode cX2_post 7 = .ok (.imul, 1) := by decide +kernel
theorem dX2_post_8 : decode cX2_post 8 = .ok (.iadd, 1) := by decide +kernel
theorem dX2_post_9 : decode cX2_post 9 = .ok (.iload_n 2, 1) := by decide +kernel
theorem dX2_post_10 : decode cX2_post 10 = .ok (.iadd, 1) := by decide +kernel
theorem dX2_post_11 : decode cX2_post 11 = .ok (.iload_n 3, 1) := by decide +kernel
theorem dX2_post_12 : decode cX2_post 12 = .ok (.iastore, 1) := by decide +kernel
theorem dX2_post_13 : decode cX2_post 13 = .ok (.return_, 1) := by decide +kernel
theorem dX2_keep_0 : decode cX2_keep 0 = .ok (.aload_n 0, 1) := by decide +kernel
theorem dX2_keep_1 : decode cX2_keep 1 = .ok (.getfield 16, 3) := by decide +kernel
theorem dX2_keep_4 : decode cX2_keep 4 = .ok (.iconst 0, 1) := by decide +kernel
theorem dX2_keep_5 : decode cX2_keep 5 = .ok (.aload_n 0, 1) := by decide +kernel
theorem dX2_keep_6 : decode cX2_keep 6 = .ok (.getfield 19, 3) := by decide +kernel
theorem dX2_keep_9 : decode cX2_keep 9 = .ok (.iconst 0, 1) := by decide +kernel
theorem dX2_keep_10 : decode cX2_keep 10 = .ok (.bipush 124, 2) := by decide +kernel
theorem dX2_keep_12 : decode cX2_keep 12 = .ok (.invokestatic 37, 3) := by decide +kernel
theorem dX2_keep_15 : decode cX2_keep 15 = .ok (.return_, 1) := by decide +kernel
theorem dX2_bringBack_0 : decode cX2_bringBack 0 = .ok (.aload_n 0, 1) := by decide +kernel
theorem dX2_bringBack_1 : decode cX2_bringBack 1 = .ok (.getfield 19, 3) := by decide +kernel
theorem dX2_bringBack_4 : decode cX2_bringBack 4 = .ok (.iconst 0, 1) := by decide +kernel
theorem dX2_bringBack_5 : decode cX2_bringBack 5 = .ok (.aload_n 0, 1) := by decide +kernel
theorem dX2_bringBack_6 : decode cX2_bringBack 6 = .ok (.getfield 16, 3) := by decide +kernel
theorem dX2_bringBack_9 : decode cX2_bringBack 9 = .ok (.iconst 0, 1) := by decide +kernel
theorem dX2_bringBack_10 : decode cX2_bringBack 10 = .ok (.bipush 124, 2) := by decide +kernel
theorem dX2_bringBack_12 : decode cX2_bringBack 12 = .ok (.invokestatic 37, 3) := by decide +kernel
theorem dX2_bringBack_15 : decode cX2_bringBack 15 = .ok (.return_, 1) := by decide +kernel
set_option maxRecDepth 20000 in
theorem ggX2_count_X2_tr : GoodIn wsX2_count wsX2_tr := goodIn_r _ [6, 7, 8, 9, 10, 11, 12, 13, 14] (by decide +kernel) (by decide +kernel)
set_option maxRecDepth 20000 in
theorem gX2_count_X2_tr : GoodIn wsX2_count (wsV RX2 43 RX2 yX2_tr wsX2_tr) := goodIn_app (goodIn_of _ (by decide +kernel)) ggX2_count_X2_tr
theorem dX2_count_0 : decode cX2_count 0 = .ok (.iconst 0, 1) := by decide +kernel
theorem dX2_count_1 : decode cX2_count 1 = .ok (.istore_n 2, 1) := by decide +kernel
theorem dX2_count_2 : decode cX2_count 2 = .ok (.iconst 0, 1) := by decide +kernel
theorem dX2_count_3 : decode cX2_count 3 = .ok (.istore_n 3, 1) := by decide +kernel
theorem dX2_count_4 : decode cX2_count 4 = .ok (.iload_n 3, 1) := by decide +kernel
theorem dX2_count_5 : decode cX2_count 5 = .ok (.aload_n 0, 1) := by decide +kernel
theorem dX2_count_6 : decode cX2_count 6 = .ok (.getfield 30, 3) := by decide +kernel
theorem dX2_count_9 : decode cX2_count 9 = .ok (.if_icmp .ge 27, 3) := by decide +kernel
theorem dX2_count_12 : decode cX2_count 12 = .ok (.iload_n 2, 1) := by decide +kernel
theorem dX2_count_13 : decode cX2_count 13 = .ok (.aload_n 0, 1) := by decide +kernel
theorem dX2_count_14 : decode cX2_count 14 = .ok (.iload_n 3, 1) := by decide +kernel
theorem dX2_count_15 : decode cX2_count 15 = .ok (.iconst 0, 1) := by decide +kernel
theorem dX2_count_16 : decode cX2_count 16 = .ok (.invokevirtual 43, 3) := by decide +kernel
theorem dX2_count_19 : decode cX2_count 19 = .ok (.iload_n 1, 1) := by decide +kernel
theorem dX2_count_20 : decode cX2_count 20 = .ok (.if_icmp .ne 7, 3) := by decide +kernel
theorem dX2_count_23 : decode cX2_count 23 = .ok (.iconst 1, 1) := by decide +kernel
theorem dX2_count_24 : decode cX2_count 24 = .ok (.goto 4, 3) := by decide +kernel
theorem dX2_count_27 : decode cX2_count 27 = .ok (.iconst 0, 1) := by decide +kernel
theorem dX2_count_28 : decode cX2_count 28 = .ok (.iadd, 1) := by decide +kernel
theorem dX2_count_29 : decode cX2_count 29 = .ok (.istore_n 2, 1) := by decide +kernel
theorem dX2_count_30 : decode cX2_count 30 = .ok (.iinc 3 1, 3) := by decide +kernel
theorem dX2_count_33 : decode cX2_count 33 = .ok (.goto (-29), 3) := by decide +kernel
theorem dX2_count_36 : decode cX2_count 36 = .ok (.iload_n 2, 1) := by decide +kernel
theorem dX2_count_37 : decode cX2_count 37 = .ok (.ireturn, 1) := by decide +kernel
set_option maxRecDepth 20000 in
theorem ggX2_loud_X2_tr : GoodIn wsX2_loud wsX2_tr := goodIn_r _ [7, 8, 9, 10, 11, 12, 13, 14, 15] (by decide +kernel) (by decide +kernel)
set_option maxRecDepth 20000 in
theorem gX2_loud_X2_tr : GoodIn wsX2_loud (wsV RX2 43 RX2 yX2_tr wsX2_tr) := goodIn_app (goodIn_of _ (by decide +kernel)) ggX2_loud_X2_tr
theorem dX2_loud_0 : decode cX2_loud 0 = .ok (.iconst 0, 1) := by decide +kernel
theorem dX2_loud_1 : decode cX2_loud 1 = .ok (.istore_n 1, 1) := by decide +kernel
theorem dX2_loud_2 : decode cX2_loud 2 = .ok (.iconst 0, 1) := by decide +kernel
theorem dX2_loud_3 : decode cX2_loud 3 = .ok (.istore_n 2, 1) := by decide +kernel
theorem dX2_loud_4 : decode cX2_loud 4 = .ok (.iload_n 2, 1) := by decide +kernel
theorem dX2_loud_5 : decode cX2_loud 5 = .ok (.aload_n 0, 1) := by decide +kernel
theorem dX2_loud_6 : decode cX2_loud 6 = .ok (.getfield 30, 3) := by decide +kernel
theorem dX2_loud_9 : decode cX2_loud 9 = .ok (.if_icmp .ge 32, 3) := by decide +kernel
theorem dX2_loud_12 : decode cX2_loud 12 = .ok (.iload_n 1, 1) := by decide +kernel
theorem dX2_loud_13 : decode cX2_loud 13 = .ok (.aload_n 0, 1) := by decide +kernel
theorem dX2_loud_14 : decode cX2_loud 14 = .ok (.iload_n 2, 1) := by decide +kernel
theorem dX2_loud_15 : decode cX2_loud 15 = .ok (.iconst 0, 1) := by decide +kernel
theorem dX2_loud_16 : decode cX2_loud 16 = .ok (.invokevirtual 43, 3) := by decide +kernel
theorem dX2_loud_19 : decode cX2_loud 19 = .ok (.iconst 2, 1) := by decide +kernel
theorem dX2_loud_20 : decode cX2_loud 20 = .ok (.if_icmp .ne 12, 3) := by decide +kernel
theorem dX2_loud_23 : decode cX2_loud 23 = .ok (.aload_n 0, 1) := by decide +kernel
theorem dX2_loud_24 : decode cX2_loud 24 = .ok (.getfield 13, 3) := by decide +kernel
theorem dX2_loud_27 : decode cX2_loud 27 = .ok (.iload_n 2, 1) := by decide +kernel
theorem dX2_loud_28 : decode cX2_loud 28 = .ok (.iaload, 1) := by decide +kernel
theorem dX2_loud_29 : decode cX2_loud 29 = .ok (.goto 4, 3) := by decide +kernel
theorem dX2_loud_32 : decode cX2_loud 32 = .ok (.iconst 0, 1) := by decide +kernel
theorem dX2_loud_33 : decode cX2_loud 33 = .ok (.iadd, 1) := by decide +kernel
theorem dX2_loud_34 : decode cX2_loud 34 = .ok (.istore_n 1, 1) := by decide +kernel
theorem dX2_loud_35 : decode cX2_loud 35 = .ok (.iinc 2 1, 3) := by decide +kernel
theorem dX2_loud_38 : decode cX2_loud 38 = .ok (.goto (-34), 3) := by decide +kernel
theorem dX2_loud_41 : decode cX2_loud 41 = .ok (.iload_n 1, 1) := by decide +kernel
theorem dX2_loud_42 : decode cX2_loud 42 = .ok (.ireturn, 1) := by decide +kernel
set_option maxRecDepth 20000 in
theorem ggX2_hidden_X2_tr : GoodIn wsX2_hidden wsX2_tr := goodIn_r _ [10, 11, 12, 13, 14, 15, 16, 17, 18] (by decide +kernel) (by decide +kernel)
set_option maxRecDepth 20000 in
theorem gX2_hidden_X2_tr : GoodIn wsX2_hidden (wsV RX2 43 RX2 yX2_tr wsX2_tr) := goodIn_app (goodIn_of _ (by decide +kernel)) ggX2_hidden_X2_tr
theorem dX2_hidden_0 : decode cX2_hidden 0 = .ok (.iconst 0, 1) := by decide +kernel
theorem dX2_hidden_1 : decode cX2_hidden 1 = .ok (.aload_n 0, 1) := by decide +kernel
theorem dX2_hidden_2 : decode cX2_hidden 2 = .ok (.getfield 9, 3) := by decide +kernel
theorem dX2_hidden_5 : decode cX2_hidden 5 = .ok (.iload_n 1, 1) := by decide +kernel
theorem dX2_hidden_6 : decode cX2_hidden 6 = .ok (.iaload, 1) := by decide +kernel
theorem dX2_hidden_7 : decode cX2_hidden 7 = .ok (.aload_n 0, 1) := by decide +kernel
theorem dX2_hidden_8 : decode cX2_hidden 8 = .ok (.iload_n 1, 1) := by decide +kernel
theorem dX2_hidden_9 : decode cX2_hidden 9 = .ok (.iconst 2, 1) := by decide +kernel
theorem dX2_hidden_10 : decode cX2_hidden 10 = .ok (.invokevirtual 43, 3) := by decide +kernel
theorem dX2_hidden_13 : decode cX2_hidden 13 = .ok (.isub, 1) := by decide +kernel
theorem dX2_hidden_14 : decode cX2_hidden 14 = .ok (.invokestatic 47, 3) := by decide +kernel
theorem dX2_hidden_17 : decode cX2_hidden 17 = .ok (.ireturn, 1) := by decide +kernel
set_option maxRecDepth 20000 in
theorem ggX2_finds_X2_hidden : GoodIn wsX2_finds wsX2_hidden := goodIn_r _ [5, 6, 7, 8, 9, 10, 11, 12, 13, 4, 14, 15, 20, 21, 22, 23, 24, 25, 26] (by decide +kernel) (by decide +kernel)
set_option maxRecDepth 20000 in
theorem gX2_finds_X2_hidden : GoodIn wsX2_finds (wsV RX2 52 RX2 yX2_hidden wsX2_hidden) := goodIn_app (goodIn_of _ (by decide +kernel)) ggX2_finds_X2_hidden
set_option maxRecDepth 20000 in
theorem ggX2_finds_X2_gu : GoodIn wsX2_finds wsX2_gu := goodIn_r _ [19, 15, 20, 21, 22, 23, 24, 25, 26] (by decide +kernel) (by decide +kernel)
set_option maxRecDepth 20000 in
theorem gX2_finds_X2_gu : GoodIn wsX2_finds (wsV RX2 56 RX2 yX2_gu wsX2_gu) := goodIn_app (goodIn_of _ (by decide +kernel)) ggX2_finds_X2_gu
theorem dX2_finds_0 : decode cX2_finds 0 = .ok (.aload_n 0, 1) := by decide +kernel
theorem dX2_finds_1 : decode cX2_finds 1 = .ok (.iload_n 2, 1) := by decide +kernel
theorem dX2_finds_2 : decode cX2_finds 2 = .ok (.invokevirtual 52, 3) := by decide +kernel
theorem dX2_finds_5 : decode cX2_finds 5 = .ok (.ifCond .le 24, 3) := by decide +kernel
theorem dX2_finds_8 : decode cX2_finds 8 = .ok (.aload_n 0, 1) := by decide +kernel
theorem dX2_finds_9 : decode cX2_finds 9 = .ok (.iload_n 2, 1) := by decide +kernel
theorem dX2_finds_10 : decode cX2_finds 10 = .ok (.invokevirtual 52, 3) := by decide +kernel
theorem dX2_finds_13 : decode cX2_finds 13 = .ok (.aload_n 0, 1) := by decide +kernel
theorem dX2_finds_14 : decode cX2_finds 14 = .ok (.iload_n 1, 1) := by decide +kernel
theorem dX2_finds_15 : decode cX2_finds 15 = .ok (.iconst 0, 1) := by decide +kernel
theorem dX2_finds_16 : decode cX2_finds 16 = .ok (.invokevirtual 56, 3) := by decide +kernel
theorem dX2_finds_19 : decode cX2_finds 19 = .ok (.iadd, 1) := by decide +kernel
theorem dX2_finds_20 : decode cX2_finds 20 = .ok (.bipush 10, 2) := by decide +kernel
theorem dX2_finds_22 : decode cX2_finds 22 = .ok (.if_icmp .lt 7, 3) := by decide +kernel
theorem dX2_finds_25 : decode cX2_finds 25 = .ok (.iconst 1, 1) := by decide +kernel
theorem dX2_finds_26 : decode cX2_finds 26 = .ok (.goto 4, 3) := by decide +kernel
theorem dX2_finds_29 : decode cX2_finds 29 = .ok (.iconst 0, 1) := by decide +kernel
theorem dX2_finds_30 : decode cX2_finds 30 = .ok (.ireturn, 1) := by decide +kernel
set_option maxRecDepth 20000 in
theorem ggX2_takes_X2_tr : GoodIn wsX2_takes wsX2_tr := goodIn_r _ [5, 6, 13, 14, 15, 16, 17, 18, 19] (by decide +kernel) (by decide +kernel)
set_option maxRecDepth 20000 in
theorem gX2_takes_X2_tr : GoodIn wsX2_takes (wsV RX2 43 RX2 yX2_tr wsX2_tr) := goodIn_app (goodIn_of _ (by decide +kernel)) ggX2_takes_X2_tr
set_option maxRecDepth 20000 in
theorem ggX2_takes_X2_loud : GoodIn wsX2_takes wsX2_loud := goodIn_r _ [10, 11, 12, 1, 2, 3, 4, 5, 6, 13, 14, 15, 16, 17, 18, 19] (by decide +kernel) (by decide +kernel)
set_option maxRecDepth 20000 in
theorem gX2_takes_X2_loud : GoodIn wsX2_takes (wsV RX2 59 RX2 yX2_loud wsX2_loud) := goodIn_app (goodIn_of _ (by decide +kernel)) ggX2_takes_X2_loud
theorem dX2_takes_0 : decode cX2_takes 0 = .ok (.iconst 2, 1) := by decide +kernel
theorem dX2_takes_1 : decode cX2_takes 1 = .ok (.aload_n 0, 1) := by decide +kernel
theorem dX2_takes_2 : decode cX2_takes 2 = .ok (.iload_n 1, 1) := by decide +kernel
theorem dX2_takes_3 : decode cX2_takes 3 = .ok (.iconst 2, 1) := by decide +kernel
theorem dX2_takes_4 : decode cX2_takes 4 = .ok (.invokevirtual 43, 3) := by decide +kernel
theorem dX2_takes_7 : decode cX2_takes 7 = .ok (.iadd, 1) := by decide +kernel
theorem dX2_takes_8 : decode cX2_takes 8 = .ok (.aload_n 0, 1) := by decide +kernel
theorem dX2_takes_9 : decode cX2_takes 9 = .ok (.invokevirtual 59, 3) := by decide +kernel
theorem dX2_takes_12 : decode cX2_takes 12 = .ok (.iconst 4, 1) := by decide +kernel
theorem dX2_takes_13 : decode cX2_takes 13 = .ok (.idiv, 1) := by decide +kernel
theorem dX2_takes_14 : decode cX2_takes 14 = .ok (.iadd, 1) := by decide +kernel
theorem dX2_takes_15 : decode cX2_takes 15 = .ok (.ireturn, 1) := by decide +kernel
set_option maxRecDepth 20000 in
theorem ggX2_first_X2_tr : GoodIn wsX2_first wsX2_tr := goodIn_r _ [6, 7, 8, 9, 10, 11, 12, 13, 14] (by decide +kernel) (by decide +kernel)
set_option maxRecDepth 20000 in
theorem gX2_first_X2_tr : GoodIn wsX2_first (wsV RX2 43 RX2 yX2_tr wsX2_tr) := goodIn_app (goodIn_of _ (by decide +kernel)) ggX2_first_X2_tr
theorem dX2_first_0 : decode cX2_first 0 = .ok (.iconst 0, 1) := by decide +kernel
theorem dX2_first_1 : decode cX2_first 1 = .ok (.istore_n 1, 1) := by decide +kernel
theorem dX2_first_2 : decode cX2_first 2 = .ok (.iload_n 1, 1) := by decide +kernel
theorem dX2_first_3 : decode cX2_first 3 = .ok (.aload_n 0, 1) := by decide +kernel
theorem dX2_first_4 : decode cX2_first 4 = .ok (.getfield 30, 3) := by decide +kernel
theorem dX2_first_7 : decode cX2_first 7 = .ok (.if_icmp .ge 20, 3) := by decide +kernel
theorem dX2_first_10 : decode cX2_first 10 = .ok (.aload_n 0, 1) := by decide +kernel
theorem dX2_first_11 : decode cX2_first 11 = .ok (.iload_n 1, 1) := by decide +kernel
theorem dX2_first_12 : decode cX2_first 12 = .ok (.iconst 0, 1) := by decide +kernel
theorem dX2_first_13 : decode cX2_first 13 = .ok (.invokevirtual 43, 3) := by decide +kernel
theorem dX2_first_16 : decode cX2_first 16 = .ok (.ifCond .ne 5, 3) := by decide +kernel
theorem dX2_first_19 : decode cX2_first 19 = .ok (.iload_n 1, 1) := by decide +kernel
theorem dX2_first_20 : decode cX2_first 20 = .ok (.ireturn, 1) := by decide +kernel
theorem dX2_first_21 : decode cX2_first 21 = .ok (.iinc 1 1, 3) := by decide +kernel
theorem dX2_first_24 : decode cX2_first 24 = .ok (.goto (-22), 3) := by decide +kernel
theorem dX2_first_27 : decode cX2_first 27 = .ok (.iconst (-1), 1) := by decide +kernel
theorem dX2_first_28 : decode cX2_first 28 = .ok (.ireturn, 1) := by decide +kernel
set_option maxRecDepth 20000 in
theorem ggX2_travel_X2_tr : GoodIn wsX2_travel wsX2_tr := goodIn_r _ [5, 6, 11, 12, 13, 14, 15, 16, 17] (by decide +kernel) (by decide +kernel)
set_option maxRecDepth 20000 in
theorem gX2_travel_X2_tr : GoodIn wsX2_travel (wsV RX2 43 RX2 yX2_tr wsX2_tr) := goodIn_app (goodIn_of _ (by decide +kernel)) ggX2_travel_X2_tr
set_option maxRecDepth 20000 in
theorem ggX2_travel_X2_let : GoodIn wsX2_travel wsX2_let := goodIn_r _ [10, 6, 11, 12, 13, 14, 15, 16, 17] (by decide +kernel) (by decide +kernel)
set_option maxRecDepth 20000 in
theorem gX2_travel_X2_let : GoodIn wsX2_travel (wsV RX2 63 RX2 yX2_let wsX2_let) := goodIn_app (goodIn_of _ (by decide +kernel)) ggX2_travel_X2_let
theorem dX2_travel_0 : decode cX2_travel 0 = .ok (.aload_n 0, 1) := by decide +kernel
theorem dX2_travel_1 : decode cX2_travel 1 = .ok (.iload_n 1, 1) := by decide +kernel
theorem dX2_travel_2 : decode cX2_travel 2 = .ok (.iconst 0, 1) := by decide +kernel
theorem dX2_travel_3 : decode cX2_travel 3 = .ok (.invokevirtual 43, 3) := by decide +kernel
theorem dX2_travel_6 : decode cX2_travel 6 = .ok (.iconst 2, 1) := by decide +kernel
theorem dX2_travel_7 : decode cX2_travel 7 = .ok (.if_icmp .ne 33, 3) := by decide +kernel
theorem dX2_travel_10 : decode cX2_travel 10 = .ok (.aload_n 0, 1) := by decide +kernel
theorem dX2_travel_11 : decode cX2_travel 11 = .ok (.iload_n 1, 1) := by decide +kernel
theorem dX2_travel_12 : decode cX2_travel 12 = .ok (.iconst 3, 1) := by decide +kernel
theorem dX2_travel_13 : decode cX2_travel 13 = .ok (.aload_n 0, 1) := by decide +kernel
theorem dX2_travel_14 : decode cX2_travel 14 = .ok (.iload_n 1, 1) := by decide +kernel
theorem dX2_travel_15 : decode cX2_travel 15 = .ok (.iconst 3, 1) := by decide +kernel
theorem dX2_travel_16 : decode cX2_travel 16 = .ok (.invokevirtual 43, 3) := by decide +kernel
theorem dX2_travel_19 : decode cX2_travel 19 = .ok (.iconst 1, 1) := by decide +kernel
theorem dX2_travel_20 : decode cX2_travel 20 = .ok (.isub, 1) := by decide +kernel
theorem dX2_travel_21 : decode cX2_travel 21 = .ok (.invokevirtual 63, 3) := by decide +kernel
theorem dX2_travel_24 : decode cX2_travel 24 = .ok (.aload_n 0, 1) := by decide +kernel
theorem dX2_travel_25 : decode cX2_travel 25 = .ok (.iload_n 1, 1) := by decide +kernel
theorem dX2_travel_26 : decode cX2_travel 26 = .ok (.iconst 3, 1) := by decide +kernel
theorem dX2_travel_27 : decode cX2_travel 27 = .ok (.invokevirtual 43, 3) := by decide +kernel
theorem dX2_travel_30 : decode cX2_travel 30 = .ok (.ifCond .ne 10, 3) := by decide +kernel
theorem dX2_travel_33 : decode cX2_travel 33 = .ok (.aload_n 0, 1) := by decide +kernel
theorem dX2_travel_34 : decode cX2_travel 34 = .ok (.iload_n 1, 1) := by decide +kernel
theorem dX2_travel_35 : decode cX2_travel 35 = .ok (.iconst 0, 1) := by decide +kernel
theorem dX2_travel_36 : decode cX2_travel 36 = .ok (.iconst 3, 1) := by decide +kernel
theorem dX2_travel_37 : decode cX2_travel 37 = .ok (.invokevirtual 63, 3) := by decide +kernel
theorem dX2_travel_40 : decode cX2_travel 40 = .ok (.return_, 1) := by decide +kernel
set_option maxRecDepth 20000 in
theorem ggX2_listen_X2_tr : GoodIn wsX2_listen wsX2_tr := goodIn_r _ [6, 1, 11, 12, 13, 14, 15, 16, 17] (by decide +kernel) (by decide +kernel)
set_option maxRecDepth 20000 in
theorem gX2_listen_X2_tr : GoodIn wsX2_listen (wsV RX2 43 RX2 yX2_tr wsX2_tr) := goodIn_app (goodIn_of _ (by decide +kernel)) ggX2_listen_X2_tr
set_option maxRecDepth 20000 in
theorem ggX2_listen_X2_let : GoodIn wsX2_listen wsX2_let := goodIn_r _ [10, 1, 11, 12, 13, 14, 15, 16, 17] (by decide +kernel) (by decide +kernel)
set_option maxRecDepth 20000 in
theorem gX2_listen_X2_let : GoodIn wsX2_listen (wsV RX2 63 RX2 yX2_let wsX2_let) := goodIn_app (goodIn_of _ (by decide +kernel)) ggX2_listen_X2_let
theorem dX2_listen_0 : decode cX2_listen 0 = .ok (.aload_n 0, 1) := by decide +kernel
theorem dX2_listen_1 : decode cX2_listen 1 = .ok (.iload_n 1, 1) := by decide +kernel
theorem dX2_listen_2 : decode cX2_listen 2 = .ok (.iconst 0, 1) := by decide +kernel
theorem dX2_listen_3 : decode cX2_listen 3 = .ok (.invokevirtual 43, 3) := by decide +kernel
theorem dX2_listen_6 : decode cX2_listen 6 = .ok (.ifCond .eq 4, 3) := by decide +kernel
theorem dX2_listen_9 : decode cX2_listen 9 = .ok (.return_, 1) := by decide +kernel
theorem dX2_listen_10 : decode cX2_listen 10 = .ok (.aload_n 0, 1) := by decide +kernel
theorem dX2_listen_11 : decode cX2_listen 11 = .ok (.iload_n 1, 1) := by decide +kernel
theorem dX2_listen_12 : decode cX2_listen 12 = .ok (.iconst 1, 1) := by decide +kernel
theorem dX2_listen_13 : decode cX2_listen 13 = .ok (.aload_n 0, 1) := by decide +kernel
theorem dX2_listen_14 : decode cX2_listen 14 = .ok (.iload_n 1, 1) := by decide +kernel
theorem dX2_listen_15 : decode cX2_listen 15 = .ok (.iconst 1, 1) := by decide +kernel
theorem dX2_listen_16 : decode cX2_listen 16 = .ok (.invokevirtual 43, 3) := by decide +kernel
theorem dX2_listen_19 : decode cX2_listen 19 = .ok (.iconst 1, 1) := by decide +kernel
theorem dX2_listen_20 : decode cX2_listen 20 = .ok (.isub, 1) := by decide +kernel
theorem dX2_listen_21 : decode cX2_listen 21 = .ok (.invokevirtual 63, 3) := by decide +kernel
theorem dX2_listen_24 : decode cX2_listen 24 = .ok (.aload_n 0, 1) := by decide +kernel
theorem dX2_listen_25 : decode cX2_listen 25 = .ok (.iload_n 1, 1) := by decide +kernel
theorem dX2_listen_26 : decode cX2_listen 26 = .ok (.iconst 1, 1) := by decide +kernel
theorem dX2_listen_27 : decode cX2_listen 27 = .ok (.invokevirtual 43, 3) := by decide +kernel
theorem dX2_listen_30 : decode cX2_listen 30 = .ok (.ifCond .le 4, 3) := by decide +kernel
theorem dX2_listen_33 : decode cX2_listen 33 = .ok (.return_, 1) := by decide +kernel
theorem dX2_listen_34 : decode cX2_listen 34 = .ok (.aload_n 0, 1) := by decide +kernel
theorem dX2_listen_35 : decode cX2_listen 35 = .ok (.iload_n 1, 1) := by decide +kernel
theorem dX2_listen_36 : decode cX2_listen 36 = .ok (.iconst 0, 1) := by decide +kernel
theorem dX2_listen_37 : decode cX2_listen 37 = .ok (.iconst 4, 1) := by decide +kernel
theorem dX2_listen_38 : decode cX2_listen 38 = .ok (.invokevirtual 63, 3) := by decide +kernel
theorem dX2_listen_41 : decode cX2_listen 41 = .ok (.aload_n 0, 1) := by decide +kernel
theorem dX2_listen_42 : decode cX2_listen 42 = .ok (.getfield 16, 3) := by decide +kernel
theorem dX2_listen_45 : decode cX2_listen 45 = .ok (.iconst 1, 1) := by decide +kernel
theorem dX2_listen_46 : decode cX2_listen 46 = .ok (.dup2, 1) := by decide +kernel
theorem dX2_listen_47 : decode cX2_listen 47 = .ok (.iaload, 1) := by decide +kernel
theorem dX2_listen_48 : decode cX2_listen 48 = .ok (.iconst 1, 1) := by decide +kernel
theorem dX2_listen_49 : decode cX2_listen 49 = .ok (.iadd, 1) := by decide +kernel
theorem dX2_listen_50 : decode cX2_listen 50 = .ok (.iastore, 1) := by decide +kernel
theorem dX2_listen_51 : decode cX2_listen 51 = .ok (.return_, 1) := by decide +kernel
set_option maxRecDepth 20000 in
theorem ggX2_searchOn_X2_gu : GoodIn wsX2_searchOn wsX2_gu := goodIn_r _ [10, 1, 32, 33, 34, 35, 36, 37, 38] (by decide +kernel) (by decide +kernel)
set_option maxRecDepth 20000 in
theorem gX2_searchOn_X2_gu : GoodIn wsX2_searchOn (wsV RX2 56 RX2 yX2_gu wsX2_gu) := goodIn_app (goodIn_of _ (by decide +kernel)) ggX2_searchOn_X2_gu
set_option maxRecDepth 20000 in
theorem ggX2_searchOn_X2_post : GoodIn wsX2_searchOn wsX2_post := goodIn_r _ [14, 1, 32, 33, 34, 35, 36, 37, 38] (by decide +kernel) (by decide +kernel)
set_option maxRecDepth 20000 in
theorem gX2_searchOn_X2_post : GoodIn wsX2_searchOn (wsV RX2 67 RX2 yX2_post wsX2_post) := goodIn_app (goodIn_of _ (by decide +kernel)) ggX2_searchOn_X2_post
set_option maxRecDepth 20000 in
theorem ggX2_searchOn_X2_finds : GoodIn wsX2_searchOn wsX2_finds := goodIn_r _ [18, 19, 20, 21, 9, 22, 23, 2, 3, 4, 5, 24, 25, 26, 27, 1, 6, 7, 8, 10, 32, 33, 34, 35, 36, 37, 38] (by decide +kernel) (by decide +kernel)
set_option maxRecDepth 20000 in
theorem gX2_searchOn_X2_finds : GoodIn wsX2_searchOn (wsV RX2 70 RX2 yX2_finds wsX2_finds) := goodIn_app (goodIn_of _ (by decide +kernel)) ggX2_searchOn_X2_finds
set_option maxRecDepth 20000 in
theorem ggX2_searchOn_X2_hidden : GoodIn wsX2_searchOn wsX2_hidden := goodIn_r _ [22, 23, 2, 3, 4, 5, 24, 25, 26, 9, 27, 1, 32, 33, 34, 35, 36, 37, 38] (by decide +kernel) (by decide +kernel)
set_option maxRecDepth 20000 in
theorem gX2_searchOn_X2_hidden : GoodIn wsX2_searchOn (wsV RX2 52 RX2 yX2_hidden wsX2_hidden) := goodIn_app (goodIn_of _ (by decide +kernel)) ggX2_searchOn_X2_hidden
set_option maxRecDepth 20000 in
theorem ggX2_searchOn_X2_let : GoodIn wsX2_searchOn wsX2_let := goodIn_r _ [31, 1, 32, 33, 34, 35, 36, 37, 38] (by decide +kernel) (by decide +kernel)
set_option maxRecDepth 20000 in
theorem gX2_searchOn_X2_let : GoodIn wsX2_searchOn (wsV RX2 63 RX2 yX2_let wsX2_let) := goodIn_app (goodIn_of _ (by decide +kernel)) ggX2_searchOn_X2_let
theorem dX2_searchOn_0 : decode cX2_searchOn 0 = .ok (.aload_n 0, 1) := by decide +kernel
theorem dX2_searchOn_1 : decode cX2_searchOn 1 = .ok (.iload_n 1, 1) := by decide +kernel
theorem dX2_searchOn_2 : decode cX2_searchOn 2 = .ok (.iconst 2, 1) := by decide +kernel
theorem dX2_searchOn_3 : decode cX2_searchOn 3 = .ok (.aload_n 0, 1) := by decide +kernel
theorem dX2_searchOn_4 : decode cX2_searchOn 4 = .ok (.iload_n 1, 1) := by decide +kernel
theorem dX2_searchOn_5 : decode cX2_searchOn 5 = .ok (.iconst 2, 1) := by decide +kernel
theorem dX2_searchOn_6 : decode cX2_searchOn 6 = .ok (.invokevirtual 56, 3) := by decide +kernel
theorem dX2_searchOn_9 : decode cX2_searchOn 9 = .ok (.iconst 1, 1) := by decide +kernel
theorem dX2_searchOn_10 : decode cX2_searchOn 10 = .ok (.isub, 1) := by decide +kernel
theorem dX2_searchOn_11 : decode cX2_searchOn 11 = .ok (.invokevirtual 67, 3) := by decide +kernel
theorem dX2_searchOn_14 : decode cX2_searchOn 14 = .ok (.aload_n 0, 1) := by decide +kernel
theorem dX2_searchOn_15 : decode cX2_searchOn 15 = .ok (.iload_n 1, 1) := by decide +kernel
theorem dX2_searchOn_16 : decode cX2_searchOn 16 = .ok (.iconst 2, 1) := by decide +kernel
theorem dX2_searchOn_17 : decode cX2_searchOn 17 = .ok (.invokevirtual 56, 3) := by decide +kernel
theorem dX2_searchOn_20 : decode cX2_searchOn 20 = .ok (.ifCond .le 4, 3) := by decide +kernel
theorem dX2_searchOn_23 : decode cX2_searchOn 23 = .ok (.return_, 1) := by decide +kernel
theorem dX2_searchOn_24 : decode cX2_searchOn 24 = .ok (.aload_n 0, 1) := by decide +kernel
theorem dX2_searchOn_25 : decode cX2_searchOn 25 = .ok (.iload_n 1, 1) := by decide +kernel
theorem dX2_searchOn_26 : decode cX2_searchOn 26 = .ok (.iconst 1, 1) := by decide +kernel
theorem dX2_searchOn_27 : decode cX2_searchOn 27 = .ok (.invokevirtual 56, 3) := by decide +kernel
theorem dX2_searchOn_30 : decode cX2_searchOn 30 = .ok (.istore_n 2, 1) := by decide +kernel
theorem dX2_searchOn_31 : decode cX2_searchOn 31 = .ok (.aload_n 0, 1) := by decide +kernel
theorem dX2_searchOn_32 : decode cX2_searchOn 32 = .ok (.iload_n 1, 1) := by decide +kernel
theorem dX2_searchOn_33 : decode cX2_searchOn 33 = .ok (.iload_n 2, 1) := by decide +kernel
theorem dX2_searchOn_34 : decode cX2_searchOn 34 = .ok (.invokevirtual 70, 3) := by decide +kernel
theorem dX2_searchOn_37 : decode cX2_searchOn 37 = .ok (.istore_n 3, 1) := by decide +kernel
theorem dX2_searchOn_38 : decode cX2_searchOn 38 = .ok (.iload_n 3, 1) := by decide +kernel
theorem dX2_searchOn_39 : decode cX2_searchOn 39 = .ok (.ifCond .eq 19, 3) := by decide +kernel
theorem dX2_searchOn_42 : decode cX2_searchOn 42 = .ok (.aload_n 0, 1) := by decide +kernel
theorem dX2_searchOn_43 : decode cX2_searchOn 43 = .ok (.getfield 16, 3) := by decide +kernel
theorem dX2_searchOn_46 : decode cX2_searchOn 46 = .ok (.iconst 2, 1) := by decide +kernel
theorem dX2_searchOn_47 : decode cX2_searchOn 47 = .ok (.dup2, 1) := by decide +kernel
theorem dX2_searchOn_48 : decode cX2_searchOn 48 = .ok (.iaload, 1) := by decide +kernel
theorem dX2_searchOn_49 : decode cX2_searchOn 49 = .ok (.iconst 3, 1) := by decide +kernel
theorem dX2_searchOn_50 : decode cX2_searchOn 50 = .ok (.aload_n 0, 1) := by decide +kernel
theorem dX2_searchOn_51 : decode cX2_searchOn 51 = .ok (.iload_n 2, 1) := by decide +kernel
theorem dX2_searchOn_52 : decode cX2_searchOn 52 = .ok (.invokevirtual 52, 3) := by decide +kernel
theorem dX2_searchOn_55 : decode cX2_searchOn 55 = .ok (.imul, 1) := by decide +kernel
theorem dX2_searchOn_56 : decode cX2_searchOn 56 = .ok (.iadd, 1) := by decide +kernel
theorem dX2_searchOn_57 : decode cX2_searchOn 57 = .ok (.iastore, 1) := by decide +kernel
theorem dX2_searchOn_58 : decode cX2_searchOn 58 = .ok (.aload_n 0, 1) := by decide +kernel
theorem dX2_searchOn_59 : decode cX2_searchOn 59 = .ok (.iload_n 2, 1) := by decide +kernel
theorem dX2_searchOn_60 : decode cX2_searchOn 60 = .ok (.iconst 0, 1) := by decide +kernel
theorem dX2_searchOn_61 : decode cX2_searchOn 61 = .ok (.iload_n 3, 1) := by decide +kernel
theorem dX2_searchOn_62 : decode cX2_searchOn 62 = .ok (.ifCond .eq 7, 3) := by decide +kernel
theorem dX2_searchOn_65 : decode cX2_searchOn 65 = .ok (.iconst 4, 1) := by decide +kernel
theorem dX2_searchOn_66 : decode cX2_searchOn 66 = .ok (.goto 4, 3) := by decide +kernel
theorem dX2_searchOn_69 : decode cX2_searchOn 69 = .ok (.iconst 2, 1) := by decide +kernel
theorem dX2_searchOn_70 : decode cX2_searchOn 70 = .ok (.invokevirtual 63, 3) := by decide +kernel
theorem dX2_searchOn_73 : decode cX2_searchOn 73 = .ok (.aload_n 0, 1) := by decide +kernel
theorem dX2_searchOn_74 : decode cX2_searchOn 74 = .ok (.iload_n 2, 1) := by decide +kernel
theorem dX2_searchOn_75 : decode cX2_searchOn 75 = .ok (.iconst 3, 1) := by decide +kernel
theorem dX2_searchOn_76 : decode cX2_searchOn 76 = .ok (.iconst 5, 1) := by decide +kernel
theorem dX2_searchOn_77 : decode cX2_searchOn 77 = .ok (.invokevirtual 63, 3) := by decide +kernel
theorem dX2_searchOn_80 : decode cX2_searchOn 80 = .ok (.aload_n 0, 1) := by decide +kernel
theorem dX2_searchOn_81 : decode cX2_searchOn 81 = .ok (.iload_n 1, 1) := by decide +kernel
theorem dX2_searchOn_82 : decode cX2_searchOn 82 = .ok (.iconst 1, 1) := by decide +kernel
theorem dX2_searchOn_83 : decode cX2_searchOn 83 = .ok (.iconst (-1), 1) := by decide +kernel
theorem dX2_searchOn_84 : decode cX2_searchOn 84 = .ok (.invokevirtual 67, 3) := by decide +kernel
theorem dX2_searchOn_87 : decode cX2_searchOn 87 = .ok (.aload_n 0, 1) := by decide +kernel
theorem dX2_searchOn_88 : decode cX2_searchOn 88 = .ok (.iload_n 1, 1) := by decide +kernel
theorem dX2_searchOn_89 : decode cX2_searchOn 89 = .ok (.iconst 0, 1) := by decide +kernel
theorem dX2_searchOn_90 : decode cX2_searchOn 90 = .ok (.iconst 0, 1) := by decide +kernel
theorem dX2_searchOn_91 : decode cX2_searchOn 91 = .ok (.aload_n 0, 1) := by decide +kernel
theorem dX2_searchOn_92 : decode cX2_searchOn 92 = .ok (.iload_n 1, 1) := by decide +kernel
theorem dX2_searchOn_93 : decode cX2_searchOn 93 = .ok (.iconst 0, 1) := by decide +kernel
theorem dX2_searchOn_94 : decode cX2_searchOn 94 = .ok (.invokevirtual 56, 3) := by decide +kernel
theorem dX2_searchOn_97 : decode cX2_searchOn 97 = .ok (.iconst 1, 1) := by decide +kernel
theorem dX2_searchOn_98 : decode cX2_searchOn 98 = .ok (.isub, 1) := by decide +kernel
theorem dX2_searchOn_99 : decode cX2_searchOn 99 = .ok (.invokestatic 47, 3) := by decide +kernel
theorem dX2_searchOn_102 : decode cX2_searchOn 102 = .ok (.invokevirtual 67, 3) := by decide +kernel
theorem dX2_searchOn_105 : decode cX2_searchOn 105 = .ok (.return_, 1) := by decide +kernel
set_option maxRecDepth 20000 in
theorem ggX2_begin_X2_first : GoodIn wsX2_begin wsX2_first := goodIn_r _ [9, 10, 11, 12, 13, 8, 14, 15, 37, 38, 39, 40, 41, 42, 43] (by decide +kernel) (by decide +kernel)
set_option maxRecDepth 20000 in
theorem gX2_begin_X2_first : GoodIn wsX2_begin (wsV RX2 74 RX2 yX2_first wsX2_first) := goodIn_app (goodIn_of _ (by decide +kernel)) ggX2_begin_X2_first
set_option maxRecDepth 20000 in
theorem ggX2_begin_X2_gu : GoodIn wsX2_begin wsX2_gu := goodIn_r _ [19, 15, 37, 38, 39, 40, 41, 42, 43] (by decide +kernel) (by decide +kernel)
set_option maxRecDepth 20000 in
theorem gX2_begin_X2_gu : GoodIn wsX2_begin (wsV RX2 56 RX2 yX2_gu wsX2_gu) := goodIn_app (goodIn_of _ (by decide +kernel)) ggX2_begin_X2_gu
set_option maxRecDepth 20000 in
theorem ggX2_begin_X2_post : GoodIn wsX2_begin wsX2_post := goodIn_r _ [23, 15, 37, 38, 39, 40, 41, 42, 43] (by decide +kernel) (by decide +kernel)
set_option maxRecDepth 20000 in
theorem gX2_begin_X2_post : GoodIn wsX2_begin (wsV RX2 67 RX2 yX2_post wsX2_post) := goodIn_app (goodIn_of _ (by decide +kernel)) ggX2_begin_X2_post
set_option maxRecDepth 20000 in
theorem ggX2_begin_X2_takes : GoodIn wsX2_begin wsX2_takes := goodIn_r _ [27, 11, 12, 13, 8, 14, 15, 28, 29, 30, 31, 10, 32, 37, 38, 39, 40, 41, 42, 43] (by decide +kernel) (by decide +kernel)
set_option maxRecDepth 20000 in
theorem gX2_begin_X2_takes : GoodIn wsX2_begin (wsV RX2 80 RX2 yX2_takes wsX2_takes) := goodIn_app (goodIn_of _ (by decide +kernel)) ggX2_begin_X2_takes
set_option maxRecDepth 20000 in
theorem ggX2_begin_X2_let : GoodIn wsX2_begin wsX2_let := goodIn_r _ [36, 15, 37, 38, 39, 40, 41, 42, 43] (by decide +kernel) (by decide +kernel)
set_option maxRecDepth 20000 in
theorem gX2_begin_X2_let : GoodIn wsX2_begin (wsV RX2 63 RX2 yX2_let wsX2_let) := goodIn_app (goodIn_of _ (by decide +kernel)) ggX2_begin_X2_let
theorem dX2_begin_0 : decode cX2_begin 0 = .ok (.aload_n 0, 1) := by decide +kernel
theorem dX2_begin_1 : decode cX2_begin 1 = .ok (.invokevirtual 74, 3) := by decide +kernel
theorem dX2_begin_4 : decode cX2_begin 4 = .ok (.istore_n 2, 1) := by decide +kernel
theorem dX2_begin_5 : decode cX2_begin 5 = .ok (.iload_n 2, 1) := by decide +kernel
theorem dX2_begin_6 : decode cX2_begin 6 = .ok (.iconst (-1), 1) := by decide +kernel
theorem dX2_begin_7 : decode cX2_begin 7 = .ok (.if_icmp .ne 23, 3) := by decide +kernel
theorem dX2_begin_10 : decode cX2_begin 10 = .ok (.aload_n 0, 1) := by decide +kernel
theorem dX2_begin_11 : decode cX2_begin 11 = .ok (.iload_n 1, 1) := by decide +kernel
theorem dX2_begin_12 : decode cX2_begin 12 = .ok (.iconst 0, 1) := by decide +kernel
theorem dX2_begin_13 : decode cX2_begin 13 = .ok (.bipush 9, 2) := by decide +kernel
theorem dX2_begin_15 : decode cX2_begin 15 = .ok (.aload_n 0, 1) := by decide +kernel
theorem dX2_begin_16 : decode cX2_begin 16 = .ok (.iload_n 1, 1) := by decide +kernel
theorem dX2_begin_17 : decode cX2_begin 17 = .ok (.iconst 0, 1) := by decide +kernel
theorem dX2_begin_18 : decode cX2_begin 18 = .ok (.invokevirtual 56, 3) := by decide +kernel
theorem dX2_begin_21 : decode cX2_begin 21 = .ok (.iconst 1, 1) := by decide +kernel
theorem dX2_begin_22 : decode cX2_begin 22 = .ok (.iadd, 1) := by decide +kernel
theorem dX2_begin_23 : decode cX2_begin 23 = .ok (.invokestatic 77, 3) := by decide +kernel
theorem dX2_begin_26 : decode cX2_begin 26 = .ok (.invokevirtual 67, 3) := by decide +kernel
theorem dX2_begin_29 : decode cX2_begin 29 = .ok (.return_, 1) := by decide +kernel
theorem dX2_begin_30 : decode cX2_begin 30 = .ok (.aload_n 0, 1) := by decide +kernel
theorem dX2_begin_31 : decode cX2_begin 31 = .ok (.iload_n 1, 1) := by decide +kernel
theorem dX2_begin_32 : decode cX2_begin 32 = .ok (.iconst 1, 1) := by decide +kernel
theorem dX2_begin_33 : decode cX2_begin 33 = .ok (.iload_n 2, 1) := by decide +kernel
theorem dX2_begin_34 : decode cX2_begin 34 = .ok (.invokevirtual 67, 3) := by decide +kernel
theorem dX2_begin_37 : decode cX2_begin 37 = .ok (.aload_n 0, 1) := by decide +kernel
theorem dX2_begin_38 : decode cX2_begin 38 = .ok (.iload_n 1, 1) := by decide +kernel
theorem dX2_begin_39 : decode cX2_begin 39 = .ok (.iconst 2, 1) := by decide +kernel
theorem dX2_begin_40 : decode cX2_begin 40 = .ok (.aload_n 0, 1) := by decide +kernel
theorem dX2_begin_41 : decode cX2_begin 41 = .ok (.iload_n 2, 1) := by decide +kernel
theorem dX2_begin_42 : decode cX2_begin 42 = .ok (.invokevirtual 80, 3) := by decide +kernel
theorem dX2_begin_45 : decode cX2_begin 45 = .ok (.invokevirtual 67, 3) := by decide +kernel
theorem dX2_begin_48 : decode cX2_begin 48 = .ok (.aload_n 0, 1) := by decide +kernel
theorem dX2_begin_49 : decode cX2_begin 49 = .ok (.iload_n 2, 1) := by decide +kernel
theorem dX2_begin_50 : decode cX2_begin 50 = .ok (.iconst 0, 1) := by decide +kernel
theorem dX2_begin_51 : decode cX2_begin 51 = .ok (.iconst 1, 1) := by decide +kernel
theorem dX2_begin_52 : decode cX2_begin 52 = .ok (.invokevirtual 63, 3) := by decide +kernel
theorem dX2_begin_55 : decode cX2_begin 55 = .ok (.return_, 1) := by decide +kernel
set_option maxRecDepth 20000 in
theorem ggX2_minuteOn_X2_gu : GoodIn wsX2_minuteOn wsX2_gu := goodIn_r _ [8, 1, 66, 67, 68, 69, 70, 71, 72] (by decide +kernel) (by decide +kernel)
set_option maxRecDepth 20000 in
theorem gX2_minuteOn_X2_gu : GoodIn wsX2_minuteOn (wsV RX2 56 RX2 yX2_gu wsX2_gu) := goodIn_app (goodIn_of _ (by decide +kernel)) ggX2_minuteOn_X2_gu
set_option maxRecDepth 20000 in
theorem ggX2_minuteOn_X2_travel : GoodIn wsX2_minuteOn wsX2_travel := goodIn_r _ [12, 13, 14, 15, 7, 16, 1, 17, 18, 19, 20, 66, 67, 68, 69, 70, 71, 72] (by decide +kernel) (by decide +kernel)
set_option maxRecDepth 20000 in
theorem gX2_minuteOn_X2_travel : GoodIn wsX2_minuteOn (wsV RX2 83 RX2 yX2_travel wsX2_travel) := goodIn_app (goodIn_of _ (by decide +kernel)) ggX2_minuteOn_X2_travel
set_option maxRecDepth 20000 in
theorem ggX2_minuteOn_X2_listen : GoodIn wsX2_minuteOn wsX2_listen := goodIn_r _ [24, 1, 13, 14, 15, 7, 16, 17, 18, 19, 20, 66, 67, 68, 69, 70, 71, 72] (by decide +kernel) (by decide +kernel)
set_option maxRecDepth 20000 in
theorem gX2_minuteOn_X2_listen : GoodIn wsX2_minuteOn (wsV RX2 87 RX2 yX2_listen wsX2_listen) := goodIn_app (goodIn_of _ (by decide +kernel)) ggX2_minuteOn_X2_listen
set_option maxRecDepth 20000 in
theorem ggX2_minuteOn_X2_begin : GoodIn wsX2_minuteOn wsX2_begin := goodIn_r _ [28, 29, 30, 31, 32, 33, 34, 35, 7, 36, 3, 13, 14, 15, 16, 1, 4, 5, 6, 8, 37, 38, 39, 40, 41, 42, 43, 44, 45, 46, 47, 48, 49, 17, 18, 19, 20, 66, 67, 68, 69, 70, 71, 72] (by decide +kernel) (by decide +kernel)
set_option maxRecDepth 20000 in
theorem gX2_minuteOn_X2_begin : GoodIn wsX2_minuteOn (wsV RX2 90 RX2 yX2_begin wsX2_begin) := goodIn_app (goodIn_of _ (by decide +kernel)) ggX2_minuteOn_X2_begin
set_option maxRecDepth 20000 in
theorem ggX2_minuteOn_X2_searchOn : GoodIn wsX2_minuteOn wsX2_searchOn := goodIn_r _ [53, 1, 54, 55, 31, 56, 4, 5, 6, 7, 8, 37, 38, 39, 40, 57, 58, 59, 60, 61, 62, 63, 64, 65, 13, 14, 15, 16, 17, 18, 19, 20, 66, 67, 68, 69, 70, 71, 72] (by decide +kernel) (by decide +kernel)
set_option maxRecDepth 20000 in
theorem gX2_minuteOn_X2_searchOn : GoodIn wsX2_minuteOn (wsV RX2 93 RX2 yX2_searchOn wsX2_searchOn) := goodIn_app (goodIn_of _ (by decide +kernel)) ggX2_minuteOn_X2_searchOn
theorem dX2_minuteOn_0 : decode cX2_minuteOn 0 = .ok (.iconst 0, 1) := by decide +kernel
theorem dX2_minuteOn_1 : decode cX2_minuteOn 1 = .ok (.istore_n 1, 1) := by decide +kernel
theorem dX2_minuteOn_2 : decode cX2_minuteOn 2 = .ok (.iload_n 1, 1) := by decide +kernel
theorem dX2_minuteOn_3 : decode cX2_minuteOn 3 = .ok (.aload_n 0, 1) := by decide +kernel
theorem dX2_minuteOn_4 : decode cX2_minuteOn 4 = .ok (.getfield 16, 3) := by decide +kernel
theorem dX2_minuteOn_7 : decode cX2_minuteOn 7 = .ok (.iconst 3, 1) := by decide +kernel
theorem dX2_minuteOn_8 : decode cX2_minuteOn 8 = .ok (.iaload, 1) := by decide +kernel
theorem dX2_minuteOn_9 : decode cX2_minuteOn 9 = .ok (.if_icmp .ge 30, 3) := by decide +kernel
theorem dX2_minuteOn_12 : decode cX2_minuteOn 12 = .ok (.aload_n 0, 1) := by decide +kernel
theorem dX2_minuteOn_13 : decode cX2_minuteOn 13 = .ok (.getfield 22, 3) := by decide +kernel
theorem dX2_minuteOn_16 : decode cX2_minuteOn 16 = .ok (.iload_n 1, 1) := by decide +kernel
theorem dX2_minuteOn_17 : decode cX2_minuteOn 17 = .ok (.aload_n 0, 1) := by decide +kernel
theorem dX2_minuteOn_18 : decode cX2_minuteOn 18 = .ok (.iload_n 1, 1) := by decide +kernel
theorem dX2_minuteOn_19 : decode cX2_minuteOn 19 = .ok (.iconst 1, 1) := by decide +kernel
theorem dX2_minuteOn_20 : decode cX2_minuteOn 20 = .ok (.invokevirtual 56, 3) := by decide +kernel
theorem dX2_minuteOn_23 : decode cX2_minuteOn 23 = .ok (.iconst (-1), 1) := by decide +kernel
theorem dX2_minuteOn_24 : decode cX2_minuteOn 24 = .ok (.if_icmp .ne 7, 3) := by decide +kernel
theorem dX2_minuteOn_27 : decode cX2_minuteOn 27 = .ok (.iconst 1, 1) := by decide +kernel
theorem dX2_minuteOn_28 : decode cX2_minuteOn 28 = .ok (.goto 4, 3) := by decide +kernel
theorem dX2_minuteOn_31 : decode cX2_minuteOn 31 = .ok (.iconst 0, 1) := by decide +kernel
theorem dX2_minuteOn_32 : decode cX2_minuteOn 32 = .ok (.bastore, 1) := by decide +kernel
theorem dX2_minuteOn_33 : decode cX2_minuteOn 33 = .ok (.iinc 1 1, 3) := by decide +kernel
theorem dX2_minuteOn_36 : decode cX2_minuteOn 36 = .ok (.goto (-34), 3) := by decide +kernel
theorem dX2_minuteOn_39 : decode cX2_minuteOn 39 = .ok (.iconst 0, 1) := by decide +kernel
theorem dX2_minuteOn_40 : decode cX2_minuteOn 40 = .ok (.istore_n 1, 1) := by decide +kernel
theorem dX2_minuteOn_41 : decode cX2_minuteOn 41 = .ok (.iload_n 1, 1) := by decide +kernel
theorem dX2_minuteOn_42 : decode cX2_minuteOn 42 = .ok (.aload_n 0, 1) := by decide +kernel
theorem dX2_minuteOn_43 : decode cX2_minuteOn 43 = .ok (.getfield 30, 3) := by decide +kernel
theorem dX2_minuteOn_46 : decode cX2_minuteOn 46 = .ok (.if_icmp .ge 14, 3) := by decide +kernel
theorem dX2_minuteOn_49 : decode cX2_minuteOn 49 = .ok (.aload_n 0, 1) := by decide +kernel
theorem dX2_minuteOn_50 : decode cX2_minuteOn 50 = .ok (.iload_n 1, 1) := by decide +kernel
theorem dX2_minuteOn_51 : decode cX2_minuteOn 51 = .ok (.invokevirtual 83, 3) := by decide +kernel
theorem dX2_minuteOn_54 : decode cX2_minuteOn 54 = .ok (.iinc 1 1, 3) := by decide +kernel
theorem dX2_minuteOn_57 : decode cX2_minuteOn 57 = .ok (.goto (-16), 3) := by decide +kernel
theorem dX2_minuteOn_60 : decode cX2_minuteOn 60 = .ok (.iconst 0, 1) := by decide +kernel
theorem dX2_minuteOn_61 : decode cX2_minuteOn 61 = .ok (.istore_n 1, 1) := by decide +kernel
theorem dX2_minuteOn_62 : decode cX2_minuteOn 62 = .ok (.iload_n 1, 1) := by decide +kernel
theorem dX2_minuteOn_63 : decode cX2_minuteOn 63 = .ok (.aload_n 0, 1) := by decide +kernel
theorem dX2_minuteOn_64 : decode cX2_minuteOn 64 = .ok (.getfield 30, 3) := by decide +kernel
theorem dX2_minuteOn_67 : decode cX2_minuteOn 67 = .ok (.if_icmp .ge 14, 3) := by decide +kernel
theorem dX2_minuteOn_70 : decode cX2_minuteOn 70 = .ok (.aload_n 0, 1) := by decide +kernel
theorem dX2_minuteOn_71 : decode cX2_minuteOn 71 = .ok (.iload_n 1, 1) := by decide +kernel
theorem dX2_minuteOn_72 : decode cX2_minuteOn 72 = .ok (.invokevirtual 87, 3) := by decide +kernel
theorem dX2_minuteOn_75 : decode cX2_minuteOn 75 = .ok (.iinc 1 1, 3) := by decide +kernel
theorem dX2_minuteOn_78 : decode cX2_minuteOn 78 = .ok (.goto (-16), 3) := by decide +kernel
theorem dX2_minuteOn_81 : decode cX2_minuteOn 81 = .ok (.iconst 0, 1) := by decide +kernel
theorem dX2_minuteOn_82 : decode cX2_minuteOn 82 = .ok (.istore_n 1, 1) := by decide +kernel
theorem dX2_minuteOn_83 : decode cX2_minuteOn 83 = .ok (.iload_n 1, 1) := by decide +kernel
theorem dX2_minuteOn_84 : decode cX2_minuteOn 84 = .ok (.aload_n 0, 1) := by decide +kernel
theorem dX2_minuteOn_85 : decode cX2_minuteOn 85 = .ok (.getfield 16, 3) := by decide +kernel
theorem dX2_minuteOn_88 : decode cX2_minuteOn 88 = .ok (.iconst 3, 1) := by decide +kernel
theorem dX2_minuteOn_89 : decode cX2_minuteOn 89 = .ok (.iaload, 1) := by decide +kernel
theorem dX2_minuteOn_90 : decode cX2_minuteOn 90 = .ok (.if_icmp .ge 31, 3) := by decide +kernel
theorem dX2_minuteOn_93 : decode cX2_minuteOn 93 = .ok (.aload_n 0, 1) := by decide +kernel
theorem dX2_minuteOn_94 : decode cX2_minuteOn 94 = .ok (.getfield 22, 3) := by decide +kernel
theorem dX2_minuteOn_97 : decode cX2_minuteOn 97 = .ok (.iload_n 1, 1) := by decide +kernel
theorem dX2_minuteOn_98 : decode cX2_minuteOn 98 = .ok (.baload, 1) := by decide +kernel
theorem dX2_minuteOn_99 : decode cX2_minuteOn 99 = .ok (.ifCond .eq 11, 3) := by decide +kernel
theorem dX2_minuteOn_102 : decode cX2_minuteOn 102 = .ok (.aload_n 0, 1) := by decide +kernel
theorem dX2_minuteOn_103 : decode cX2_minuteOn 103 = .ok (.iload_n 1, 1) := by decide +kernel
theorem dX2_minuteOn_104 : decode cX2_minuteOn 104 = .ok (.invokevirtual 90, 3) := by decide +kernel
theorem dX2_minuteOn_107 : decode cX2_minuteOn 107 = .ok (.goto 8, 3) := by decide +kernel
theorem dX2_minuteOn_110 : decode cX2_minuteOn 110 = .ok (.aload_n 0, 1) := by decide +kernel
theorem dX2_minuteOn_111 : decode cX2_minuteOn 111 = .ok (.iload_n 1, 1) := by decide +kernel
theorem dX2_minuteOn_112 : decode cX2_minuteOn 112 = .ok (.invokevirtual 93, 3) := by decide +kernel
theorem dX2_minuteOn_115 : decode cX2_minuteOn 115 = .ok (.iinc 1 1, 3) := by decide +kernel
theorem dX2_minuteOn_118 : decode cX2_minuteOn 118 = .ok (.goto (-35), 3) := by decide +kernel
theorem dX2_minuteOn_121 : decode cX2_minuteOn 121 = .ok (.aload_n 0, 1) := by decide +kernel
theorem dX2_minuteOn_122 : decode cX2_minuteOn 122 = .ok (.getfield 16, 3) := by decide +kernel
theorem dX2_minuteOn_125 : decode cX2_minuteOn 125 = .ok (.iconst 0, 1) := by decide +kernel
theorem dX2_minuteOn_126 : decode cX2_minuteOn 126 = .ok (.dup2, 1) := by decide +kernel
theorem dX2_minuteOn_127 : decode cX2_minuteOn 127 = .ok (.iaload, 1) := by decide +kernel
theorem dX2_minuteOn_128 : decode cX2_minuteOn 128 = .ok (.iconst 1, 1) := by decide +kernel
theorem dX2_minuteOn_129 : decode cX2_minuteOn 129 = .ok (.iadd, 1) := by decide +kernel
theorem dX2_minuteOn_130 : decode cX2_minuteOn 130 = .ok (.iastore, 1) := by decide +kernel
theorem dX2_minuteOn_131 : decode cX2_minuteOn 131 = .ok (.return_, 1) := by decide +kernel
set_option maxRecDepth 20000 in
theorem ggX2_minutesOn_X2_minuteOn : GoodIn wsX2_minutesOn wsX2_minuteOn := goodIn_r _ [5, 6, 7, 8, 9, 10, 11, 4, 12, 13, 14, 15, 16, 17, 18, 19, 20, 21, 22, 23, 24, 25, 26, 27, 28, 29, 30, 31, 32, 33, 34, 35, 36, 37, 38, 39, 40, 41, 42, 43, 44, 45, 46, 47, 48, 49, 50, 51, 52, 53, 54, 55, 56, 57, 58, 59, 60, 61, 62, 63, 64, 65, 66, 67, 68, 69, 70, 71, 72, 73, 74, 75, 76] (by decide +kernel) (by decide +kernel)
set_option maxRecDepth 20000 in
theorem gX2_minutesOn_X2_minuteOn : GoodIn wsX2_minutesOn (wsV RX2 96 RX2 yX2_minuteOn wsX2_minuteOn) := goodIn_app (goodIn_of _ (by decide +kernel)) ggX2_minutesOn_X2_minuteOn
theorem dX2_minutesOn_0 : decode cX2_minutesOn 0 = .ok (.iconst 0, 1) := by decide +kernel
theorem dX2_minutesOn_1 : decode cX2_minutesOn 1 = .ok (.istore_n 2, 1) := by decide +kernel
theorem dX2_minutesOn_2 : decode cX2_minutesOn 2 = .ok (.iload_n 2, 1) := by decide +kernel
theorem dX2_minutesOn_3 : decode cX2_minutesOn 3 = .ok (.iload_n 1, 1) := by decide +kernel
theorem dX2_minutesOn_4 : decode cX2_minutesOn 4 = .ok (.if_icmp .ge 13, 3) := by decide +kernel
theorem dX2_minutesOn_7 : decode cX2_minutesOn 7 = .ok (.aload_n 0, 1) := by decide +kernel
theorem dX2_minutesOn_8 : decode cX2_minutesOn 8 = .ok (.invokevirtual 96, 3) := by decide +kernel
theorem dX2_minutesOn_11 : decode cX2_minutesOn 11 = .ok (.iinc 2 1, 3) := by decide +kernel
theorem dX2_minutesOn_14 : decode cX2_minutesOn 14 = .ok (.goto (-12), 3) := by decide +kernel
theorem dX2_minutesOn_17 : decode cX2_minutesOn 17 = .ok (.return_, 1) := by decide +kernel
set_option maxRecDepth 20000 in
theorem ggX2_hire_X2_post : GoodIn wsX2_hire wsX2_post := goodIn_r _ [6, 1, 7, 8, 9, 10, 11, 12, 13] (by decide +kernel) (by decide +kernel)
set_option maxRecDepth 20000 in
theorem gX2_hire_X2_post : GoodIn wsX2_hire (wsV RX2 67 RX2 yX2_post wsX2_post) := goodIn_app (goodIn_of _ (by decide +kernel)) ggX2_hire_X2_post
theorem dX2_hire_0 : decode cX2_hire 0 = .ok (.aload_n 0, 1) := by decide +kernel
theorem dX2_hire_1 : decode cX2_hire 1 = .ok (.getfield 16, 3) := by decide +kernel
theorem dX2_hire_4 : decode cX2_hire 4 = .ok (.iconst 3, 1) := by decide +kernel
theorem dX2_hire_5 : decode cX2_hire 5 = .ok (.iaload, 1) := by decide +kernel
theorem dX2_hire_6 : decode cX2_hire 6 = .ok (.istore_n 1, 1) := by decide +kernel
theorem dX2_hire_7 : decode cX2_hire 7 = .ok (.aload_n 0, 1) := by decide +kernel
theorem dX2_hire_8 : decode cX2_hire 8 = .ok (.iload_n 1, 1) := by decide +kernel
theorem dX2_hire_9 : decode cX2_hire 9 = .ok (.iconst 0, 1) := by decide +kernel
theorem dX2_hire_10 : decode cX2_hire 10 = .ok (.bipush 9, 2) := by decide +kernel
theorem dX2_hire_12 : decode cX2_hire 12 = .ok (.invokevirtual 67, 3) := by decide +kernel
theorem dX2_hire_15 : decode cX2_hire 15 = .ok (.aload_n 0, 1) := by decide +kernel
theorem dX2_hire_16 : decode cX2_hire 16 = .ok (.iload_n 1, 1) := by decide +kernel
theorem dX2_hire_17 : decode cX2_hire 17 = .ok (.iconst 1, 1) := by decide +kernel
theorem dX2_hire_18 : decode cX2_hire 18 = .ok (.iconst (-1), 1) := by decide +kernel
theorem dX2_hire_19 : decode cX2_hire 19 = .ok (.invokevirtual 67, 3) := by decide +kernel
theorem dX2_hire_22 : decode cX2_hire 22 = .ok (.aload_n 0, 1) := by decide +kernel
theorem dX2_hire_23 : decode cX2_hire 23 = .ok (.iload_n 1, 1) := by decide +kernel
theorem dX2_hire_24 : decode cX2_hire 24 = .ok (.iconst 2, 1) := by decide +kernel
theorem dX2_hire_25 : decode cX2_hire 25 = .ok (.iconst 0, 1) := by decide +kernel
theorem dX2_hire_26 : decode cX2_hire 26 = .ok (.invokevirtual 67, 3) := by decide +kernel
theorem dX2_hire_29 : decode cX2_hire 29 = .ok (.aload_n 0, 1) := by decide +kernel
theorem dX2_hire_30 : decode cX2_hire 30 = .ok (.getfield 16, 3) := by decide +kernel
theorem dX2_hire_33 : decode cX2_hire 33 = .ok (.iconst 3, 1) := by decide +kernel
theorem dX2_hire_34 : decode cX2_hire 34 = .ok (.dup2, 1) := by decide +kernel
theorem dX2_hire_35 : decode cX2_hire 35 = .ok (.iaload, 1) := by decide +kernel
theorem dX2_hire_36 : decode cX2_hire 36 = .ok (.iconst 1, 1) := by decide +kernel
theorem dX2_hire_37 : decode cX2_hire 37 = .ok (.iadd, 1) := by decide +kernel
theorem dX2_hire_38 : decode cX2_hire 38 = .ok (.iastore, 1) := by decide +kernel
theorem dX2_hire_39 : decode cX2_hire 39 = .ok (.return_, 1) := by decide +kernel
set_option maxRecDepth 20000 in
theorem ggX2_addGuard_X2_fail : GoodIn wsX2_addGuard wsX2_fail := goodIn_r _ [7, 1, 16, 17, 18, 19, 20, 21, 22] (by decide +kernel) (by decide +kernel)
set_option maxRecDepth 20000 in
theorem gX2_addGuard_X2_fail : GoodIn wsX2_addGuard (wsV RX2 99 RX2 yX2_fail wsX2_fail) := goodIn_app (goodIn_of _ (by decide +kernel)) ggX2_addGuard_X2_fail
set_option maxRecDepth 20000 in
theorem ggX2_addGuard_X2_hire : GoodIn wsX2_addGuard wsX2_hire := goodIn_r _ [11, 2, 12, 13, 14, 6, 15, 16, 17, 18, 19, 20, 21, 22] (by decide +kernel) (by decide +kernel)
set_option maxRecDepth 20000 in
theorem gX2_addGuard_X2_hire : GoodIn wsX2_addGuard (wsV RX2 102 RX2 yX2_hire wsX2_hire) := goodIn_app (goodIn_of _ (by decide +kernel)) ggX2_addGuard_X2_hire
theorem dX2_addGuard_0 : decode cX2_addGuard 0 = .ok (.aload_n 0, 1) := by decide +kernel
theorem dX2_addGuard_1 : decode cX2_addGuard 1 = .ok (.iconst 0, 1) := by decide +kernel
theorem dX2_addGuard_2 : decode cX2_addGuard 2 = .ok (.putfield 26, 3) := by decide +kernel
theorem dX2_addGuard_5 : decode cX2_addGuard 5 = .ok (.aload_n 0, 1) := by decide +kernel
theorem dX2_addGuard_6 : decode cX2_addGuard 6 = .ok (.getfield 16, 3) := by decide +kernel
theorem dX2_addGuard_9 : decode cX2_addGuard 9 = .ok (.iconst 3, 1) := by decide +kernel
theorem dX2_addGuard_10 : decode cX2_addGuard 10 = .ok (.iaload, 1) := by decide +kernel
theorem dX2_addGuard_11 : decode cX2_addGuard 11 = .ok (.iconst 4, 1) := by decide +kernel
theorem dX2_addGuard_12 : decode cX2_addGuard 12 = .ok (.if_icmp .ne 9, 3) := by decide +kernel
theorem dX2_addGuard_15 : decode cX2_addGuard 15 = .ok (.aload_n 0, 1) := by decide +kernel
theorem dX2_addGuard_16 : decode cX2_addGuard 16 = .ok (.iconst 1, 1) := by decide +kernel
theorem dX2_addGuard_17 : decode cX2_addGuard 17 = .ok (.invokevirtual 99, 3) := by decide +kernel
theorem dX2_addGuard_20 : decode cX2_addGuard 20 = .ok (.ireturn, 1) := by decide +kernel
theorem dX2_addGuard_21 : decode cX2_addGuard 21 = .ok (.aload_n 0, 1) := by decide +kernel
theorem dX2_addGuard_22 : decode cX2_addGuard 22 = .ok (.invokevirtual 102, 3) := by decide +kernel
theorem dX2_addGuard_25 : decode cX2_addGuard 25 = .ok (.aload_n 0, 1) := by decide +kernel
theorem dX2_addGuard_26 : decode cX2_addGuard 26 = .ok (.getfield 16, 3) := by decide +kernel
theorem dX2_addGuard_29 : decode cX2_addGuard 29 = .ok (.iconst 3, 1) := by decide +kernel
theorem dX2_addGuard_30 : decode cX2_addGuard 30 = .ok (.iaload, 1) := by decide +kernel
theorem dX2_addGuard_31 : decode cX2_addGuard 31 = .ok (.iconst 1, 1) := by decide +kernel
theorem dX2_addGuard_32 : decode cX2_addGuard 32 = .ok (.isub, 1) := by decide +kernel
theorem dX2_addGuard_33 : decode cX2_addGuard 33 = .ok (.ireturn, 1) := by decide +kernel
set_option maxRecDepth 20000 in
theorem ggX2_arrive_X2_isIn : GoodIn wsX2_arrive wsX2_isIn := goodIn_r _ [8] (by decide +kernel) (by decide +kernel)
set_option maxRecDepth 20000 in
theorem gX2_arrive_X2_isIn : GoodIn wsX2_arrive (va_wsS RX2 33 yX2_isIn wsX2_isIn) := goodIn_app (goodIn_of _ (by decide +kernel)) ggX2_arrive_X2_isIn
set_option maxRecDepth 20000 in
theorem ggX2_arrive_X2_fail : GoodIn wsX2_arrive wsX2_fail := goodIn_r _ [12, 1, 18, 19, 20, 21, 22, 23, 24] (by decide +kernel) (by decide +kernel)
set_option maxRecDepth 20000 in
theorem gX2_arrive_X2_fail : GoodIn wsX2_arrive (wsV RX2 99 RX2 yX2_fail wsX2_fail) := goodIn_app (goodIn_of _ (by decide +kernel)) ggX2_arrive_X2_fail
set_option maxRecDepth 20000 in
theorem ggX2_arrive_X2_let : GoodIn wsX2_arrive wsX2_let := goodIn_r _ [16, 17, 18, 19, 20, 21, 22, 23, 24] (by decide +kernel) (by decide +kernel)
set_option maxRecDepth 20000 in
theorem gX2_arrive_X2_let : GoodIn wsX2_arrive (wsV RX2 63 RX2 yX2_let wsX2_let) := goodIn_app (goodIn_of _ (by decide +kernel)) ggX2_arrive_X2_let
theorem dX2_arrive_0 : decode cX2_arrive 0 = .ok (.aload_n 0, 1) := by decide +kernel
theorem dX2_arrive_1 : decode cX2_arrive 1 = .ok (.iconst 0, 1) := by decide +kernel
theorem dX2_arrive_2 : decode cX2_arrive 2 = .ok (.putfield 26, 3) := by decide +kernel
theorem dX2_arrive_5 : decode cX2_arrive 5 = .ok (.iload_n 1, 1) := by decide +kernel
theorem dX2_arrive_6 : decode cX2_arrive 6 = .ok (.iconst 0, 1) := by decide +kernel
theorem dX2_arrive_7 : decode cX2_arrive 7 = .ok (.bipush 9, 2) := by decide +kernel
theorem dX2_arrive_9 : decode cX2_arrive 9 = .ok (.invokestatic 33, 3) := by decide +kernel
theorem dX2_arrive_12 : decode cX2_arrive 12 = .ok (.ifCond .eq 34, 3) := by decide +kernel
theorem dX2_arrive_15 : decode cX2_arrive 15 = .ok (.iload_n 2, 1) := by decide +kernel
theorem dX2_arrive_16 : decode cX2_arrive 16 = .ok (.iconst 0, 1) := by decide +kernel
theorem dX2_arrive_17 : decode cX2_arrive 17 = .ok (.bipush 9, 2) := by decide +kernel
theorem dX2_arrive_19 : decode cX2_arrive 19 = .ok (.invokestatic 33, 3) := by decide +kernel
theorem dX2_arrive_22 : decode cX2_arrive 22 = .ok (.ifCond .eq 24, 3) := by decide +kernel
theorem dX2_arrive_25 : decode cX2_arrive 25 = .ok (.iload_n 3, 1) := by decide +kernel
theorem dX2_arrive_26 : decode cX2_arrive 26 = .ok (.iconst 0, 1) := by decide +kernel
theorem dX2_arrive_27 : decode cX2_arrive 27 = .ok (.bipush 9, 2) := by decide +kernel
theorem dX2_arrive_29 : decode cX2_arrive 29 = .ok (.invokestatic 33, 3) := by decide +kernel
theorem dX2_arrive_32 : decode cX2_arrive 32 = .ok (.ifCond .eq 14, 3) := by decide +kernel
theorem dX2_arrive_35 : decode cX2_arrive 35 = .ok (.iload 4, 2) := by decide +kernel
theorem dX2_arrive_37 : decode cX2_arrive 37 = .ok (.iconst 1, 1) := by decide +kernel
theorem dX2_arrive_38 : decode cX2_arrive 38 = .ok (.bipush 60, 2) := by decide +kernel
theorem dX2_arrive_40 : decode cX2_arrive 40 = .ok (.invokestatic 33, 3) := by decide +kernel
theorem dX2_arrive_43 : decode cX2_arrive 43 = .ok (.ifCond .ne 9, 3) := by decide +kernel
theorem dX2_arrive_46 : decode cX2_arrive 46 = .ok (.aload_n 0, 1) := by decide +kernel
theorem dX2_arrive_47 : decode cX2_arrive 47 = .ok (.iconst 1, 1) := by decide +kernel
theorem dX2_arrive_48 : decode cX2_arrive 48 = .ok (.invokevirtual 99, 3) := by decide +kernel
theorem dX2_arrive_51 : decode cX2_arrive 51 = .ok (.ireturn, 1) := by decide +kernel
theorem dX2_arrive_52 : decode cX2_arrive 52 = .ok (.aload_n 0, 1) := by decide +kernel
theorem dX2_arrive_53 : decode cX2_arrive 53 = .ok (.getfield 30, 3) := by decide +kernel
theorem dX2_arrive_56 : decode cX2_arrive 56 = .ok (.bipush 24, 2) := by decide +kernel
theorem dX2_arrive_58 : decode cX2_arrive 58 = .ok (.if_icmp .ne 9, 3) := by decide +kernel
theorem dX2_arrive_61 : decode cX2_arrive 61 = .ok (.aload_n 0, 1) := by decide +kernel
theorem dX2_arrive_62 : decode cX2_arrive 62 = .ok (.iconst 2, 1) := by decide +kernel
theorem dX2_arrive_63 : decode cX2_arrive 63 = .ok (.invokevirtual 99, 3) := by decide +kernel
theorem dX2_arrive_66 : decode cX2_arrive 66 = .ok (.ireturn, 1) := by decide +kernel
theorem dX2_arrive_67 : decode cX2_arrive 67 = .ok (.aload_n 0, 1) := by decide +kernel
theorem dX2_arrive_68 : decode cX2_arrive 68 = .ok (.getfield 9, 3) := by decide +kernel
theorem dX2_arrive_71 : decode cX2_arrive 71 = .ok (.aload_n 0, 1) := by decide +kernel
theorem dX2_arrive_72 : decode cX2_arrive 72 = .ok (.getfield 30, 3) := by decide +kernel
theorem dX2_arrive_75 : decode cX2_arrive 75 = .ok (.iload_n 1, 1) := by decide +kernel
theorem dX2_arrive_76 : decode cX2_arrive 76 = .ok (.iastore, 1) := by decide +kernel
theorem dX2_arrive_77 : decode cX2_arrive 77 = .ok (.aload_n 0, 1) := by decide +kernel
theorem dX2_arrive_78 : decode cX2_arrive 78 = .ok (.getfield 13, 3) := by decide +kernel
theorem dX2_arrive_81 : decode cX2_arrive 81 = .ok (.aload_n 0, 1) := by decide +kernel
theorem dX2_arrive_82 : decode cX2_arrive 82 = .ok (.getfield 30, 3) := by decide +kernel
theorem dX2_arrive_85 : decode cX2_arrive 85 = .ok (.iload_n 3, 1) := by decide +kernel
theorem dX2_arrive_86 : decode cX2_arrive 86 = .ok (.iastore, 1) := by decide +kernel
theorem dX2_arrive_87 : decode cX2_arrive 87 = .ok (.aload_n 0, 1) := by decide +kernel
theorem dX2_arrive_88 : decode cX2_arrive 88 = .ok (.aload_n 0, 1) := by decide +kernel
theorem dX2_arrive_89 : decode cX2_arrive 89 = .ok (.getfield 30, 3) := by decide +kernel
theorem dX2_arrive_92 : decode cX2_arrive 92 = .ok (.iconst 1, 1) := by decide +kernel
theorem dX2_arrive_93 : decode cX2_arrive 93 = .ok (.iload 4, 2) := by decide +kernel
theorem dX2_arrive_95 : decode cX2_arrive 95 = .ok (.invokevirtual 63, 3) := by decide +kernel
theorem dX2_arrive_98 : decode cX2_arrive 98 = .ok (.aload_n 0, 1) := by decide +kernel
theorem dX2_arrive_99 : decode cX2_arrive 99 = .ok (.aload_n 0, 1) := by decide +kernel
theorem dX2_arrive_100 : decode cX2_arrive 100 = .ok (.getfield 30, 3) := by decide +kernel
theorem dX2_arrive_103 : decode cX2_arrive 103 = .ok (.iconst 2, 1) := by decide +kernel
theorem dX2_arrive_104 : decode cX2_arrive 104 = .ok (.iload_n 2, 1) := by decide +kernel
theorem dX2_arrive_105 : decode cX2_arrive 105 = .ok (.invokevirtual 63, 3) := by decide +kernel
theorem dX2_arrive_108 : decode cX2_arrive 108 = .ok (.aload_n 0, 1) := by decide +kernel
theorem dX2_arrive_109 : decode cX2_arrive 109 = .ok (.dup, 1) := by decide +kernel
theorem dX2_arrive_110 : decode cX2_arrive 110 = .ok (.getfield 30, 3) := by decide +kernel
theorem dX2_arrive_113 : decode cX2_arrive 113 = .ok (.iconst 1, 1) := by decide +kernel
theorem dX2_arrive_114 : decode cX2_arrive 114 = .ok (.iadd, 1) := by decide +kernel
theorem dX2_arrive_115 : decode cX2_arrive 115 = .ok (.putfield 30, 3) := by decide +kernel
theorem dX2_arrive_118 : decode cX2_arrive 118 = .ok (.aload_n 0, 1) := by decide +kernel
theorem dX2_arrive_119 : decode cX2_arrive 119 = .ok (.getfield 30, 3) := by decide +kernel
theorem dX2_arrive_122 : decode cX2_arrive 122 = .ok (.iconst 1, 1) := by decide +kernel
theorem dX2_arrive_123 : decode cX2_arrive 123 = .ok (.isub, 1) := by decide +kernel
theorem dX2_arrive_124 : decode cX2_arrive 124 = .ok (.ireturn, 1) := by decide +kernel
set_option maxRecDepth 20000 in
theorem ggX2_write_X2_isTraveller : GoodIn wsX2_write wsX2_isTraveller := goodIn_r _ [6, 7, 8, 9, 5, 10, 24, 25, 26, 27, 28, 29, 30] (by decide +kernel) (by decide +kernel)
set_option maxRecDepth 20000 in
theorem gX2_write_X2_isTraveller : GoodIn wsX2_write (wsV RX2 105 RX2 yX2_isTraveller wsX2_isTraveller) := goodIn_app (goodIn_of _ (by decide +kernel)) ggX2_write_X2_isTraveller
set_option maxRecDepth 20000 in
theorem ggX2_write_X2_fail : GoodIn wsX2_write wsX2_fail := goodIn_r _ [14, 1, 24, 25, 26, 27, 28, 29, 30] (by decide +kernel) (by decide +kernel)
set_option maxRecDepth 20000 in
theorem gX2_write_X2_fail : GoodIn wsX2_write (wsV RX2 99 RX2 yX2_fail wsX2_fail) := goodIn_app (goodIn_of _ (by decide +kernel)) ggX2_write_X2_fail
set_option maxRecDepth 20000 in
theorem ggX2_write_X2_isIn : GoodIn wsX2_write wsX2_isIn := goodIn_r _ [10] (by decide +kernel) (by decide +kernel)
set_option maxRecDepth 20000 in
theorem gX2_write_X2_isIn : GoodIn wsX2_write (va_wsS RX2 33 yX2_isIn wsX2_isIn) := goodIn_app (goodIn_of _ (by decide +kernel)) ggX2_write_X2_isIn
set_option maxRecDepth 20000 in
theorem ggX2_write_X2_tr : GoodIn wsX2_write wsX2_tr := goodIn_r _ [18, 19, 24, 25, 26, 27, 28, 29, 30] (by decide +kernel) (by decide +kernel)
set_option maxRecDepth 20000 in
theorem gX2_write_X2_tr : GoodIn wsX2_write (wsV RX2 43 RX2 yX2_tr wsX2_tr) := goodIn_app (goodIn_of _ (by decide +kernel)) ggX2_write_X2_tr
set_option maxRecDepth 20000 in
theorem ggX2_write_X2_let : GoodIn wsX2_write wsX2_let := goodIn_r _ [23, 19, 24, 25, 26, 27, 28, 29, 30] (by decide +kernel) (by decide +kernel)
set_option maxRecDepth 20000 in
theorem gX2_write_X2_let : GoodIn wsX2_write (wsV RX2 63 RX2 yX2_let wsX2_let) := goodIn_app (goodIn_of _ (by decide +kernel)) ggX2_write_X2_let
theorem dX2_write_0 : decode cX2_write 0 = .ok (.aload_n 0, 1) := by decide +kernel
theorem dX2_write_1 : decode cX2_write 1 = .ok (.iconst 0, 1) := by decide +kernel
theorem dX2_write_2 : decode cX2_write 2 = .ok (.putfield 26, 3) := by decide +kernel
theorem dX2_write_5 : decode cX2_write 5 = .ok (.aload_n 0, 1) := by decide +kernel
theorem dX2_write_6 : decode cX2_write 6 = .ok (.iload_n 1, 1) := by decide +kernel
theorem dX2_write_7 : decode cX2_write 7 = .ok (.invokevirtual 105, 3) := by decide +kernel
theorem dX2_write_10 : decode cX2_write 10 = .ok (.ifCond .ne 9, 3) := by decide +kernel
theorem dX2_write_13 : decode cX2_write 13 = .ok (.aload_n 0, 1) := by decide +kernel
theorem dX2_write_14 : decode cX2_write 14 = .ok (.iconst 1, 1) := by decide +kernel
theorem dX2_write_15 : decode cX2_write 15 = .ok (.invokevirtual 99, 3) := by decide +kernel
theorem dX2_write_18 : decode cX2_write 18 = .ok (.ireturn, 1) := by decide +kernel
theorem dX2_write_19 : decode cX2_write 19 = .ok (.iload_n 3, 1) := by decide +kernel
theorem dX2_write_20 : decode cX2_write 20 = .ok (.iload 4, 2) := by decide +kernel
theorem dX2_write_22 : decode cX2_write 22 = .ok (.iload 5, 2) := by decide +kernel
theorem dX2_write_24 : decode cX2_write 24 = .ok (.invokestatic 33, 3) := by decide +kernel
theorem dX2_write_27 : decode cX2_write 27 = .ok (.ifCond .ne 9, 3) := by decide +kernel
theorem dX2_write_30 : decode cX2_write 30 = .ok (.aload_n 0, 1) := by decide +kernel
theorem dX2_write_31 : decode cX2_write 31 = .ok (.iconst 2, 1) := by decide +kernel
theorem dX2_write_32 : decode cX2_write 32 = .ok (.invokevirtual 99, 3) := by decide +kernel
theorem dX2_write_35 : decode cX2_write 35 = .ok (.ireturn, 1) := by decide +kernel
theorem dX2_write_36 : decode cX2_write 36 = .ok (.aload_n 0, 1) := by decide +kernel
theorem dX2_write_37 : decode cX2_write 37 = .ok (.iload_n 1, 1) := by decide +kernel
theorem dX2_write_38 : decode cX2_write 38 = .ok (.iconst 0, 1) := by decide +kernel
theorem dX2_write_39 : decode cX2_write 39 = .ok (.invokevirtual 43, 3) := by decide +kernel
theorem dX2_write_42 : decode cX2_write 42 = .ok (.ifCond .eq 9, 3) := by decide +kernel
theorem dX2_write_45 : decode cX2_write 45 = .ok (.aload_n 0, 1) := by decide +kernel
theorem dX2_write_46 : decode cX2_write 46 = .ok (.iconst 3, 1) := by decide +kernel
theorem dX2_write_47 : decode cX2_write 47 = .ok (.invokevirtual 99, 3) := by decide +kernel
theorem dX2_write_50 : decode cX2_write 50 = .ok (.ireturn, 1) := by decide +kernel
theorem dX2_write_51 : decode cX2_write 51 = .ok (.aload_n 0, 1) := by decide +kernel
theorem dX2_write_52 : decode cX2_write 52 = .ok (.iload_n 1, 1) := by decide +kernel
theorem dX2_write_53 : decode cX2_write 53 = .ok (.iload_n 2, 1) := by decide +kernel
theorem dX2_write_54 : decode cX2_write 54 = .ok (.invokevirtual 43, 3) := by decide +kernel
theorem dX2_write_57 : decode cX2_write 57 = .ok (.istore 6, 2) := by decide +kernel
theorem dX2_write_59 : decode cX2_write 59 = .ok (.aload_n 0, 1) := by decide +kernel
theorem dX2_write_60 : decode cX2_write 60 = .ok (.iload_n 1, 1) := by decide +kernel
theorem dX2_write_61 : decode cX2_write 61 = .ok (.iload_n 2, 1) := by decide +kernel
theorem dX2_write_62 : decode cX2_write 62 = .ok (.iload_n 3, 1) := by decide +kernel
theorem dX2_write_63 : decode cX2_write 63 = .ok (.invokevirtual 63, 3) := by decide +kernel
theorem dX2_write_66 : decode cX2_write 66 = .ok (.iload 6, 2) := by decide +kernel
theorem dX2_write_68 : decode cX2_write 68 = .ok (.ireturn, 1) := by decide +kernel
set_option maxRecDepth 20000 in
theorem ggX2_declare_X2_write : GoodIn wsX2_declare wsX2_write := goodIn_r _ [5, 6, 7, 8, 9, 4, 10, 11, 12, 13, 14, 15, 16, 17, 18, 19, 20, 21, 22, 23, 24, 25, 26, 27, 28, 29, 30, 31, 32, 33, 34] (by decide +kernel) (by decide +kernel)
set_option maxRecDepth 20000 in
theorem gX2_declare_X2_write : GoodIn wsX2_declare (wsV RX2 109 RX2 yX2_write wsX2_write) := goodIn_app (goodIn_of _ (by decide +kernel)) ggX2_declare_X2_write
theorem dX2_declare_0 : decode cX2_declare 0 = .ok (.aload_n 0, 1) := by decide +kernel
theorem dX2_declare_1 : decode cX2_declare 1 = .ok (.iload_n 1, 1) := by decide +kernel
theorem dX2_declare_2 : decode cX2_declare 2 = .ok (.iconst 2, 1) := by decide +kernel
theorem dX2_declare_3 : decode cX2_declare 3 = .ok (.iload_n 2, 1) := by decide +kernel
theorem dX2_declare_4 : decode cX2_declare 4 = .ok (.iconst 0, 1) := by decide +kernel
theorem dX2_declare_5 : decode cX2_declare 5 = .ok (.bipush 9, 2) := by decide +kernel
theorem dX2_declare_7 : decode cX2_declare 7 = .ok (.invokevirtual 109, 3) := by decide +kernel
theorem dX2_declare_10 : decode cX2_declare 10 = .ok (.ireturn, 1) := by decide +kernel
set_option maxRecDepth 20000 in
theorem ggX2_sing_X2_write : GoodIn wsX2_sing wsX2_write := goodIn_r _ [5, 6, 7, 8, 9, 4, 10, 11, 12, 13, 14, 15, 16, 17, 18, 19, 20, 21, 22, 23, 24, 25, 26, 27, 28, 29, 30, 31, 32, 33, 34] (by decide +kernel) (by decide +kernel)
set_option maxRecDepth 20000 in
theorem gX2_sing_X2_write : GoodIn wsX2_sing (wsV RX2 109 RX2 yX2_write wsX2_write) := goodIn_app (goodIn_of _ (by decide +kernel)) ggX2_sing_X2_write
theorem dX2_sing_0 : decode cX2_sing 0 = .ok (.aload_n 0, 1) := by decide +kernel
theorem dX2_sing_1 : decode cX2_sing 1 = .ok (.iload_n 1, 1) := by decide +kernel
theorem dX2_sing_2 : decode cX2_sing 2 = .ok (.iconst 1, 1) := by decide +kernel
theorem dX2_sing_3 : decode cX2_sing 3 = .ok (.iload_n 2, 1) := by decide +kernel
theorem dX2_sing_4 : decode cX2_sing 4 = .ok (.iconst 1, 1) := by decide +kernel
theorem dX2_sing_5 : decode cX2_sing 5 = .ok (.bipush 60, 2) := by decide +kernel
theorem dX2_sing_7 : decode cX2_sing 7 = .ok (.invokevirtual 109, 3) := by decide +kernel
theorem dX2_sing_10 : decode cX2_sing 10 = .ok (.ireturn, 1) := by decide +kernel
set_option maxRecDepth 20000 in
theorem ggX2_wake_X2_isGuard : GoodIn wsX2_wake wsX2_isGuard := goodIn_r _ [6, 7, 8, 9, 5, 10, 23, 24, 25, 26, 27, 28, 29] (by decide +kernel) (by decide +kernel)
set_option maxRecDepth 20000 in
theorem gX2_wake_X2_isGuard : GoodIn wsX2_wake (wsV RX2 113 RX2 yX2_isGuard wsX2_isGuard) := goodIn_app (goodIn_of _ (by decide +kernel)) ggX2_wake_X2_isGuard
set_option maxRecDepth 20000 in
theorem ggX2_wake_X2_fail : GoodIn wsX2_wake wsX2_fail := goodIn_r _ [14, 1, 23, 24, 25, 26, 27, 28, 29] (by decide +kernel) (by decide +kernel)
set_option maxRecDepth 20000 in
theorem gX2_wake_X2_fail : GoodIn wsX2_wake (wsV RX2 99 RX2 yX2_fail wsX2_fail) := goodIn_app (goodIn_of _ (by decide +kernel)) ggX2_wake_X2_fail
set_option maxRecDepth 20000 in
theorem ggX2_wake_X2_gu : GoodIn wsX2_wake wsX2_gu := goodIn_r _ [18, 7, 23, 24, 25, 26, 27, 28, 29] (by decide +kernel) (by decide +kernel)
set_option maxRecDepth 20000 in
theorem gX2_wake_X2_gu : GoodIn wsX2_wake (wsV RX2 56 RX2 yX2_gu wsX2_gu) := goodIn_app (goodIn_of _ (by decide +kernel)) ggX2_wake_X2_gu
set_option maxRecDepth 20000 in
theorem ggX2_wake_X2_post : GoodIn wsX2_wake wsX2_post := goodIn_r _ [22, 7, 23, 24, 25, 26, 27, 28, 29] (by decide +kernel) (by decide +kernel)
set_option maxRecDepth 20000 in
theorem gX2_wake_X2_post : GoodIn wsX2_wake (wsV RX2 67 RX2 yX2_post wsX2_post) := goodIn_app (goodIn_of _ (by decide +kernel)) ggX2_wake_X2_post
theorem dX2_wake_0 : decode cX2_wake 0 = .ok (.aload_n 0, 1) := by decide +kernel
theorem dX2_wake_1 : decode cX2_wake 1 = .ok (.iconst 0, 1) := by decide +kernel
theorem dX2_wake_2 : decode cX2_wake 2 = .ok (.putfield 26, 3) := by decide +kernel
theorem dX2_wake_5 : decode cX2_wake 5 = .ok (.aload_n 0, 1) := by decide +kernel
theorem dX2_wake_6 : decode cX2_wake 6 = .ok (.iload_n 1, 1) := by decide +kernel
theorem dX2_wake_7 : decode cX2_wake 7 = .ok (.invokevirtual 113, 3) := by decide +kernel
theorem dX2_wake_10 : decode cX2_wake 10 = .ok (.ifCond .ne 9, 3) := by decide +kernel
theorem dX2_wake_13 : decode cX2_wake 13 = .ok (.aload_n 0, 1) := by decide +kernel
theorem dX2_wake_14 : decode cX2_wake 14 = .ok (.iconst 1, 1) := by decide +kernel
theorem dX2_wake_15 : decode cX2_wake 15 = .ok (.invokevirtual 99, 3) := by decide +kernel
theorem dX2_wake_18 : decode cX2_wake 18 = .ok (.ireturn, 1) := by decide +kernel
theorem dX2_wake_19 : decode cX2_wake 19 = .ok (.aload_n 0, 1) := by decide +kernel
theorem dX2_wake_20 : decode cX2_wake 20 = .ok (.iload_n 1, 1) := by decide +kernel
theorem dX2_wake_21 : decode cX2_wake 21 = .ok (.iconst 0, 1) := by decide +kernel
theorem dX2_wake_22 : decode cX2_wake 22 = .ok (.invokevirtual 56, 3) := by decide +kernel
theorem dX2_wake_25 : decode cX2_wake 25 = .ok (.istore_n 2, 1) := by decide +kernel
theorem dX2_wake_26 : decode cX2_wake 26 = .ok (.aload_n 0, 1) := by decide +kernel
theorem dX2_wake_27 : decode cX2_wake 27 = .ok (.iload_n 1, 1) := by decide +kernel
theorem dX2_wake_28 : decode cX2_wake 28 = .ok (.iconst 0, 1) := by decide +kernel
theorem dX2_wake_29 : decode cX2_wake 29 = .ok (.bipush 9, 2) := by decide +kernel
theorem dX2_wake_31 : decode cX2_wake 31 = .ok (.invokevirtual 67, 3) := by decide +kernel
theorem dX2_wake_34 : decode cX2_wake 34 = .ok (.iload_n 2, 1) := by decide +kernel
theorem dX2_wake_35 : decode cX2_wake 35 = .ok (.ireturn, 1) := by decide +kernel
set_option maxRecDepth 20000 in
theorem ggX2_pass_X2_isIn : GoodIn wsX2_pass wsX2_isIn := goodIn_r _ [5] (by decide +kernel) (by decide +kernel)
set_option maxRecDepth 20000 in
theorem gX2_pass_X2_isIn : GoodIn wsX2_pass (va_wsS RX2 33 yX2_isIn wsX2_isIn) := goodIn_app (goodIn_of _ (by decide +kernel)) ggX2_pass_X2_isIn
set_option maxRecDepth 20000 in
theorem ggX2_pass_X2_fail : GoodIn wsX2_pass wsX2_fail := goodIn_r _ [9, 1, 86, 87, 88, 89, 90, 91, 92] (by decide +kernel) (by decide +kernel)
set_option maxRecDepth 20000 in
theorem gX2_pass_X2_fail : GoodIn wsX2_pass (wsV RX2 99 RX2 yX2_fail wsX2_fail) := goodIn_app (goodIn_of _ (by decide +kernel)) ggX2_pass_X2_fail
set_option maxRecDepth 20000 in
theorem ggX2_pass_X2_count : GoodIn wsX2_pass wsX2_count := goodIn_r _ [13, 14, 15, 16, 17, 4, 18, 19, 86, 87, 88, 89, 90, 91, 92] (by decide +kernel) (by decide +kernel)
set_option maxRecDepth 20000 in
theorem gX2_pass_X2_count : GoodIn wsX2_pass (wsV RX2 116 RX2 yX2_count wsX2_count) := goodIn_app (goodIn_of _ (by decide +kernel)) ggX2_pass_X2_count
set_option maxRecDepth 20000 in
theorem ggX2_pass_X2_minutesOn : GoodIn wsX2_pass wsX2_minutesOn := goodIn_r _ [23, 24, 25, 26, 4, 27, 19, 28, 14, 29, 30, 31, 32, 33, 34, 35, 36, 15, 16, 17, 18, 37, 38, 39, 40, 41, 42, 43, 44, 45, 46, 47, 48, 49, 50, 51, 52, 53, 54, 55, 56, 57, 58, 59, 60, 61, 62, 63, 64, 65, 66, 67, 68, 69, 70, 71, 72, 73, 74, 75, 76, 77, 78, 79, 80, 81, 82, 83, 84, 85, 86, 87, 88, 89, 90, 91, 92] (by decide +kernel) (by decide +kernel)
set_option maxRecDepth 20000 in
theorem gX2_pass_X2_minutesOn : GoodIn wsX2_pass (wsV RX2 119 RX2 yX2_minutesOn wsX2_minutesOn) := goodIn_app (goodIn_of _ (by decide +kernel)) ggX2_pass_X2_minutesOn
theorem dX2_pass_0 : decode cX2_pass 0 = .ok (.aload_n 0, 1) := by decide +kernel
theorem dX2_pass_1 : decode cX2_pass 1 = .ok (.iconst 0, 1) := by decide +kernel
theorem dX2_pass_2 : decode cX2_pass 2 = .ok (.putfield 26, 3) := by decide +kernel
theorem dX2_pass_5 : decode cX2_pass 5 = .ok (.iload_n 1, 1) := by decide +kernel
theorem dX2_pass_6 : decode cX2_pass 6 = .ok (.iconst 1, 1) := by decide +kernel
theorem dX2_pass_7 : decode cX2_pass 7 = .ok (.bipush 60, 2) := by decide +kernel
theorem dX2_pass_9 : decode cX2_pass 9 = .ok (.invokestatic 33, 3) := by decide +kernel
theorem dX2_pass_12 : decode cX2_pass 12 = .ok (.ifCond .ne 9, 3) := by decide +kernel
theorem dX2_pass_15 : decode cX2_pass 15 = .ok (.aload_n 0, 1) := by decide +kernel
theorem dX2_pass_16 : decode cX2_pass 16 = .ok (.iconst 1, 1) := by decide +kernel
theorem dX2_pass_17 : decode cX2_pass 17 = .ok (.invokevirtual 99, 3) := by decide +kernel
theorem dX2_pass_20 : decode cX2_pass 20 = .ok (.ireturn, 1) := by decide +kernel
theorem dX2_pass_21 : decode cX2_pass 21 = .ok (.aload_n 0, 1) := by decide +kernel
theorem dX2_pass_22 : decode cX2_pass 22 = .ok (.iconst 3, 1) := by decide +kernel
theorem dX2_pass_23 : decode cX2_pass 23 = .ok (.invokevirtual 116, 3) := by decide +kernel
theorem dX2_pass_26 : decode cX2_pass 26 = .ok (.istore_n 2, 1) := by decide +kernel
theorem dX2_pass_27 : decode cX2_pass 27 = .ok (.aload_n 0, 1) := by decide +kernel
theorem dX2_pass_28 : decode cX2_pass 28 = .ok (.iload_n 1, 1) := by decide +kernel
theorem dX2_pass_29 : decode cX2_pass 29 = .ok (.invokevirtual 119, 3) := by decide +kernel
theorem dX2_pass_32 : decode cX2_pass 32 = .ok (.aload_n 0, 1) := by decide +kernel
theorem dX2_pass_33 : decode cX2_pass 33 = .ok (.iconst 3, 1) := by decide +kernel
theorem dX2_pass_34 : decode cX2_pass 34 = .ok (.invokevirtual 116, 3) := by decide +kernel
theorem dX2_pass_37 : decode cX2_pass 37 = .ok (.iload_n 2, 1) := by decide +kernel
theorem dX2_pass_38 : decode cX2_pass 38 = .ok (.isub, 1) := by decide +kernel
theorem dX2_pass_39 : decode cX2_pass 39 = .ok (.ireturn, 1) := by decide +kernel
set_option maxRecDepth 20000 in
theorem ggX2_minute_X2_told : GoodIn wsX2_minute wsX2_told := goodIn_r _ [6, 7, 8, 9, 10, 11, 12, 13, 14] (by decide +kernel) (by decide +kernel)
set_option maxRecDepth 20000 in
theorem gX2_minute_X2_told : GoodIn wsX2_minute (wsV RX2 122 RX2 yX2_told wsX2_told) := goodIn_app (goodIn_of _ (by decide +kernel)) ggX2_minute_X2_told
theorem dX2_minute_0 : decode cX2_minute 0 = .ok (.aload_n 0, 1) := by decide +kernel
theorem dX2_minute_1 : decode cX2_minute 1 = .ok (.aload_n 0, 1) := by decide +kernel
theorem dX2_minute_2 : decode cX2_minute 2 = .ok (.getfield 16, 3) := by decide +kernel
theorem dX2_minute_5 : decode cX2_minute 5 = .ok (.iconst 0, 1) := by decide +kernel
theorem dX2_minute_6 : decode cX2_minute 6 = .ok (.iaload, 1) := by decide +kernel
theorem dX2_minute_7 : decode cX2_minute 7 = .ok (.invokevirtual 122, 3) := by decide +kernel
theorem dX2_minute_10 : decode cX2_minute 10 = .ok (.ireturn, 1) := by decide +kernel
set_option maxRecDepth 20000 in
theorem ggX2_travellers_X2_told : GoodIn wsX2_travellers wsX2_told := goodIn_r _ [6, 7, 8, 9, 10, 11, 12, 13, 14] (by decide +kernel) (by decide +kernel)
set_option maxRecDepth 20000 in
theorem gX2_travellers_X2_told : GoodIn wsX2_travellers (wsV RX2 122 RX2 yX2_told wsX2_told) := goodIn_app (goodIn_of _ (by decide +kernel)) ggX2_travellers_X2_told
theorem dX2_travellers_0 : decode cX2_travellers 0 = .ok (.aload_n 0, 1) := by decide +kernel
theorem dX2_travellers_1 : decode cX2_travellers 1 = .ok (.aload_n 0, 1) := by decide +kernel
theorem dX2_travellers_2 : decode cX2_travellers 2 = .ok (.getfield 30, 3) := by decide +kernel
theorem dX2_travellers_5 : decode cX2_travellers 5 = .ok (.invokevirtual 122, 3) := by decide +kernel
theorem dX2_travellers_8 : decode cX2_travellers 8 = .ok (.ireturn, 1) := by decide +kernel
set_option maxRecDepth 20000 in
theorem ggX2_waiting_X2_count : GoodIn wsX2_waiting wsX2_count := goodIn_r _ [5, 6, 7, 8, 9, 4, 10, 11, 17, 18, 19, 20, 21, 22, 23] (by decide +kernel) (by decide +kernel)
set_option maxRecDepth 20000 in
theorem gX2_waiting_X2_count : GoodIn wsX2_waiting (wsV RX2 116 RX2 yX2_count wsX2_count) := goodIn_app (goodIn_of _ (by decide +kernel)) ggX2_waiting_X2_count
set_option maxRecDepth 20000 in
theorem ggX2_waiting_X2_told : GoodIn wsX2_waiting wsX2_told := goodIn_r _ [15, 16, 17, 18, 19, 20, 21, 22, 23] (by decide +kernel) (by decide +kernel)
set_option maxRecDepth 20000 in
theorem gX2_waiting_X2_told : GoodIn wsX2_waiting (wsV RX2 122 RX2 yX2_told wsX2_told) := goodIn_app (goodIn_of _ (by decide +kernel)) ggX2_waiting_X2_told
theorem dX2_waiting_0 : decode cX2_waiting 0 = .ok (.aload_n 0, 1) := by decide +kernel
theorem dX2_waiting_1 : decode cX2_waiting 1 = .ok (.aload_n 0, 1) := by decide +kernel
theorem dX2_waiting_2 : decode cX2_waiting 2 = .ok (.iconst 0, 1) := by decide +kernel
theorem dX2_waiting_3 : decode cX2_waiting 3 = .ok (.invokevirtual 116, 3) := by decide +kernel
theorem dX2_waiting_6 : decode cX2_waiting 6 = .ok (.invokevirtual 122, 3) := by decide +kernel
theorem dX2_waiting_9 : decode cX2_waiting 9 = .ok (.ireturn, 1) := by decide +kernel
set_option maxRecDepth 20000 in
theorem ggX2_asleep_X2_count : GoodIn wsX2_asleep wsX2_count := goodIn_r _ [5, 6, 7, 8, 9, 4, 10, 11, 17, 18, 19, 20, 21, 22, 23] (by decide +kernel) (by decide +kernel)
set_option maxRecDepth 20000 in
theorem gX2_asleep_X2_count : GoodIn wsX2_asleep (wsV RX2 116 RX2 yX2_count wsX2_count) := goodIn_app (goodIn_of _ (by decide +kernel)) ggX2_asleep_X2_count
set_option maxRecDepth 20000 in
theorem ggX2_asleep_X2_told : GoodIn wsX2_asleep wsX2_told := goodIn_r _ [15, 16, 17, 18, 19, 20, 21, 22, 23] (by decide +kernel) (by decide +kernel)
set_option maxRecDepth 20000 in
theorem gX2_asleep_X2_told : GoodIn wsX2_asleep (wsV RX2 122 RX2 yX2_told wsX2_told) := goodIn_app (goodIn_of _ (by decide +kernel)) ggX2_asleep_X2_told
theorem dX2_asleep_0 : decode cX2_asleep 0 = .ok (.aload_n 0, 1) := by decide +kernel
theorem dX2_asleep_1 : decode cX2_asleep 1 = .ok (.aload_n 0, 1) := by decide +kernel
theorem dX2_asleep_2 : decode cX2_asleep 2 = .ok (.iconst 3, 1) := by decide +kernel
theorem dX2_asleep_3 : decode cX2_asleep 3 = .ok (.invokevirtual 116, 3) := by decide +kernel
theorem dX2_asleep_6 : decode cX2_asleep 6 = .ok (.invokevirtual 122, 3) := by decide +kernel
theorem dX2_asleep_9 : decode cX2_asleep 9 = .ok (.ireturn, 1) := by decide +kernel
set_option maxRecDepth 20000 in
theorem ggX2_sentBack_X2_count : GoodIn wsX2_sentBack wsX2_count := goodIn_r _ [5, 6, 7, 8, 9, 4, 10, 11, 17, 18, 19, 20, 21, 22, 23] (by decide +kernel) (by decide +kernel)
set_option maxRecDepth 20000 in
theorem gX2_sentBack_X2_count : GoodIn wsX2_sentBack (wsV RX2 116 RX2 yX2_count wsX2_count) := goodIn_app (goodIn_of _ (by decide +kernel)) ggX2_sentBack_X2_count
set_option maxRecDepth 20000 in
theorem ggX2_sentBack_X2_told : GoodIn wsX2_sentBack wsX2_told := goodIn_r _ [15, 16, 17, 18, 19, 20, 21, 22, 23] (by decide +kernel) (by decide +kernel)
set_option maxRecDepth 20000 in
theorem gX2_sentBack_X2_told : GoodIn wsX2_sentBack (wsV RX2 122 RX2 yX2_told wsX2_told) := goodIn_app (goodIn_of _ (by decide +kernel)) ggX2_sentBack_X2_told
theorem dX2_sentBack_0 : decode cX2_sentBack 0 = .ok (.aload_n 0, 1) := by decide +kernel
theorem dX2_sentBack_1 : decode cX2_sentBack 1 = .ok (.aload_n 0, 1) := by decide +kernel
theorem dX2_sentBack_2 : decode cX2_sentBack 2 = .ok (.iconst 4, 1) := by decide +kernel
theorem dX2_sentBack_3 : decode cX2_sentBack 3 = .ok (.invokevirtual 116, 3) := by decide +kernel
theorem dX2_sentBack_6 : decode cX2_sentBack 6 = .ok (.invokevirtual 122, 3) := by decide +kernel
theorem dX2_sentBack_9 : decode cX2_sentBack 9 = .ok (.ireturn, 1) := by decide +kernel
set_option maxRecDepth 20000 in
theorem ggX2_expired_X2_told : GoodIn wsX2_expired wsX2_told := goodIn_r _ [6, 7, 8, 9, 10, 11, 12, 13, 14] (by decide +kernel) (by decide +kernel)
set_option maxRecDepth 20000 in
theorem gX2_expired_X2_told : GoodIn wsX2_expired (wsV RX2 122 RX2 yX2_told wsX2_told) := goodIn_app (goodIn_of _ (by decide +kernel)) ggX2_expired_X2_told
theorem dX2_expired_0 : decode cX2_expired 0 = .ok (.aload_n 0, 1) := by decide +kernel
theorem dX2_expired_1 : decode cX2_expired 1 = .ok (.aload_n 0, 1) := by decide +kernel
theorem dX2_expired_2 : decode cX2_expired 2 = .ok (.getfield 16, 3) := by decide +kernel
theorem dX2_expired_5 : decode cX2_expired 5 = .ok (.iconst 1, 1) := by decide +kernel
theorem dX2_expired_6 : decode cX2_expired 6 = .ok (.iaload, 1) := by decide +kernel
theorem dX2_expired_7 : decode cX2_expired 7 = .ok (.invokevirtual 122, 3) := by decide +kernel
theorem dX2_expired_10 : decode cX2_expired 10 = .ok (.ireturn, 1) := by decide +kernel
set_option maxRecDepth 20000 in
theorem ggX2_paid_X2_told : GoodIn wsX2_paid wsX2_told := goodIn_r _ [6, 7, 8, 9, 10, 11, 12, 13, 14] (by decide +kernel) (by decide +kernel)
set_option maxRecDepth 20000 in
theorem gX2_paid_X2_told : GoodIn wsX2_paid (wsV RX2 122 RX2 yX2_told wsX2_told) := goodIn_app (goodIn_of _ (by decide +kernel)) ggX2_paid_X2_told
theorem dX2_paid_0 : decode cX2_paid 0 = .ok (.aload_n 0, 1) := by decide +kernel
theorem dX2_paid_1 : decode cX2_paid 1 = .ok (.aload_n 0, 1) := by decide +kernel
theorem dX2_paid_2 : decode cX2_paid 2 = .ok (.getfield 16, 3) := by decide +kernel
theorem dX2_paid_5 : decode cX2_paid 5 = .ok (.iconst 2, 1) := by decide +kernel
theorem dX2_paid_6 : decode cX2_paid 6 = .ok (.iaload, 1) := by decide +kernel
theorem dX2_paid_7 : decode cX2_paid 7 = .ok (.invokevirtual 122, 3) := by decide +kernel
theorem dX2_paid_10 : decode cX2_paid 10 = .ok (.ireturn, 1) := by decide +kernel
set_option maxRecDepth 20000 in
theorem ggX2_noise_X2_loud : GoodIn wsX2_noise wsX2_loud := goodIn_r _ [5, 6, 7, 8, 9, 10, 4, 11, 12, 18, 19, 20, 21, 22, 23, 24] (by decide +kernel) (by decide +kernel)
set_option maxRecDepth 20000 in
theorem gX2_noise_X2_loud : GoodIn wsX2_noise (wsV RX2 59 RX2 yX2_loud wsX2_loud) := goodIn_app (goodIn_of _ (by decide +kernel)) ggX2_noise_X2_loud
set_option maxRecDepth 20000 in
theorem ggX2_noise_X2_told : GoodIn wsX2_noise wsX2_told := goodIn_r _ [16, 17, 18, 19, 20, 21, 22, 23, 24] (by decide +kernel) (by decide +kernel)
set_option maxRecDepth 20000 in
theorem gX2_noise_X2_told : GoodIn wsX2_noise (wsV RX2 122 RX2 yX2_told wsX2_told) := goodIn_app (goodIn_of _ (by decide +kernel)) ggX2_noise_X2_told
theorem dX2_noise_0 : decode cX2_noise 0 = .ok (.aload_n 0, 1) := by decide +kernel
theorem dX2_noise_1 : decode cX2_noise 1 = .ok (.aload_n 0, 1) := by decide +kernel
theorem dX2_noise_2 : decode cX2_noise 2 = .ok (.invokevirtual 59, 3) := by decide +kernel
theorem dX2_noise_5 : decode cX2_noise 5 = .ok (.invokevirtual 122, 3) := by decide +kernel
theorem dX2_noise_8 : decode cX2_noise 8 = .ok (.ireturn, 1) := by decide +kernel
set_option maxRecDepth 20000 in
theorem ggX2_nextInLine_X2_first : GoodIn wsX2_nextInLine wsX2_first := goodIn_r _ [5, 6, 7, 8, 9, 4, 10, 11, 17, 18, 19, 20, 21, 22, 23] (by decide +kernel) (by decide +kernel)
set_option maxRecDepth 20000 in
theorem gX2_nextInLine_X2_first : GoodIn wsX2_nextInLine (wsV RX2 74 RX2 yX2_first wsX2_first) := goodIn_app (goodIn_of _ (by decide +kernel)) ggX2_nextInLine_X2_first
set_option maxRecDepth 20000 in
theorem ggX2_nextInLine_X2_told : GoodIn wsX2_nextInLine wsX2_told := goodIn_r _ [15, 16, 17, 18, 19, 20, 21, 22, 23] (by decide +kernel) (by decide +kernel)
set_option maxRecDepth 20000 in
theorem gX2_nextInLine_X2_told : GoodIn wsX2_nextInLine (wsV RX2 122 RX2 yX2_told wsX2_told) := goodIn_app (goodIn_of _ (by decide +kernel)) ggX2_nextInLine_X2_told
theorem dX2_nextInLine_0 : decode cX2_nextInLine 0 = .ok (.aload_n 0, 1) := by decide +kernel
theorem dX2_nextInLine_1 : decode cX2_nextInLine 1 = .ok (.aload_n 0, 1) := by decide +kernel
theorem dX2_nextInLine_2 : decode cX2_nextInLine 2 = .ok (.invokevirtual 74, 3) := by decide +kernel
theorem dX2_nextInLine_5 : decode cX2_nextInLine 5 = .ok (.invokevirtual 122, 3) := by decide +kernel
theorem dX2_nextInLine_8 : decode cX2_nextInLine 8 = .ok (.ireturn, 1) := by decide +kernel
set_option maxRecDepth 20000 in
theorem ggX2_stateOf_X2_isTraveller : GoodIn wsX2_stateOf wsX2_isTraveller := goodIn_r _ [6, 7, 8, 9, 5, 10, 20, 21, 22, 23, 24, 25, 26] (by decide +kernel) (by decide +kernel)
set_option maxRecDepth 20000 in
theorem gX2_stateOf_X2_isTraveller : GoodIn wsX2_stateOf (wsV RX2 105 RX2 yX2_isTraveller wsX2_isTraveller) := goodIn_app (goodIn_of _ (by decide +kernel)) ggX2_stateOf_X2_isTraveller
set_option maxRecDepth 20000 in
theorem ggX2_stateOf_X2_tr : GoodIn wsX2_stateOf wsX2_tr := goodIn_r _ [14, 15, 20, 21, 22, 23, 24, 25, 26] (by decide +kernel) (by decide +kernel)
set_option maxRecDepth 20000 in
theorem gX2_stateOf_X2_tr : GoodIn wsX2_stateOf (wsV RX2 43 RX2 yX2_tr wsX2_tr) := goodIn_app (goodIn_of _ (by decide +kernel)) ggX2_stateOf_X2_tr
set_option maxRecDepth 20000 in
theorem ggX2_stateOf_X2_fail : GoodIn wsX2_stateOf wsX2_fail := goodIn_r _ [19, 1, 20, 21, 22, 23, 24, 25, 26] (by decide +kernel) (by decide +kernel)
set_option maxRecDepth 20000 in
theorem gX2_stateOf_X2_fail : GoodIn wsX2_stateOf (wsV RX2 99 RX2 yX2_fail wsX2_fail) := goodIn_app (goodIn_of _ (by decide +kernel)) ggX2_stateOf_X2_fail
theorem dX2_stateOf_0 : decode cX2_stateOf 0 = .ok (.aload_n 0, 1) := by decide +kernel
theorem dX2_stateOf_1 : decode cX2_stateOf 1 = .ok (.iconst 0, 1) := by decide +kernel
theorem dX2_stateOf_2 : decode cX2_stateOf 2 = .ok (.putfield 26, 3) := by decide +kernel
theorem dX2_stateOf_5 : decode cX2_stateOf 5 = .ok (.aload_n 0, 1) := by decide +kernel
theorem dX2_stateOf_6 : decode cX2_stateOf 6 = .ok (.iload_n 1, 1) := by decide +kernel
theorem dX2_stateOf_7 : decode cX2_stateOf 7 = .ok (.invokevirtual 105, 3) := by decide +kernel
theorem dX2_stateOf_10 : decode cX2_stateOf 10 = .ok (.ifCond .eq 12, 3) := by decide +kernel
theorem dX2_stateOf_13 : decode cX2_stateOf 13 = .ok (.aload_n 0, 1) := by decide +kernel
theorem dX2_stateOf_14 : decode cX2_stateOf 14 = .ok (.iload_n 1, 1) := by decide +kernel
theorem dX2_stateOf_15 : decode cX2_stateOf 15 = .ok (.iconst 0, 1) := by decide +kernel
theorem dX2_stateOf_16 : decode cX2_stateOf 16 = .ok (.invokevirtual 43, 3) := by decide +kernel
theorem dX2_stateOf_19 : decode cX2_stateOf 19 = .ok (.goto 8, 3) := by decide +kernel
theorem dX2_stateOf_22 : decode cX2_stateOf 22 = .ok (.aload_n 0, 1) := by decide +kernel
theorem dX2_stateOf_23 : decode cX2_stateOf 23 = .ok (.iconst 1, 1) := by decide +kernel
theorem dX2_stateOf_24 : decode cX2_stateOf 24 = .ok (.invokevirtual 99, 3) := by decide +kernel
theorem dX2_stateOf_27 : decode cX2_stateOf 27 = .ok (.ireturn, 1) := by decide +kernel
set_option maxRecDepth 20000 in
theorem ggX2_hiddenOf_X2_isTraveller : GoodIn wsX2_hiddenOf wsX2_isTraveller := goodIn_r _ [6, 7, 8, 9, 5, 10, 29, 30, 31, 32, 33, 34, 35] (by decide +kernel) (by decide +kernel)
set_option maxRecDepth 20000 in
theorem gX2_hiddenOf_X2_isTraveller : GoodIn wsX2_hiddenOf (wsV RX2 105 RX2 yX2_isTraveller wsX2_isTraveller) := goodIn_app (goodIn_of _ (by decide +kernel)) ggX2_hiddenOf_X2_isTraveller
set_option maxRecDepth 20000 in
theorem ggX2_hiddenOf_X2_hidden : GoodIn wsX2_hiddenOf wsX2_hidden := goodIn_r _ [14, 15, 16, 17, 18, 19, 20, 21, 22, 5, 23, 24, 29, 30, 31, 32, 33, 34, 35] (by decide +kernel) (by decide +kernel)
set_option maxRecDepth 20000 in
theorem gX2_hiddenOf_X2_hidden : GoodIn wsX2_hiddenOf (wsV RX2 52 RX2 yX2_hidden wsX2_hidden) := goodIn_app (goodIn_of _ (by decide +kernel)) ggX2_hiddenOf_X2_hidden
set_option maxRecDepth 20000 in
theorem ggX2_hiddenOf_X2_fail : GoodIn wsX2_hiddenOf wsX2_fail := goodIn_r _ [28, 1, 29, 30, 31, 32, 33, 34, 35] (by decide +kernel) (by decide +kernel)
set_option maxRecDepth 20000 in
theorem gX2_hiddenOf_X2_fail : GoodIn wsX2_hiddenOf (wsV RX2 99 RX2 yX2_fail wsX2_fail) := goodIn_app (goodIn_of _ (by decide +kernel)) ggX2_hiddenOf_X2_fail
theorem dX2_hiddenOf_0 : decode cX2_hiddenOf 0 = .ok (.aload_n 0, 1) := by decide +kernel
theorem dX2_hiddenOf_1 : decode cX2_hiddenOf 1 = .ok (.iconst 0, 1) := by decide +kernel
theorem dX2_hiddenOf_2 : decode cX2_hiddenOf 2 = .ok (.putfield 26, 3) := by decide +kernel
theorem dX2_hiddenOf_5 : decode cX2_hiddenOf 5 = .ok (.aload_n 0, 1) := by decide +kernel
theorem dX2_hiddenOf_6 : decode cX2_hiddenOf 6 = .ok (.iload_n 1, 1) := by decide +kernel
theorem dX2_hiddenOf_7 : decode cX2_hiddenOf 7 = .ok (.invokevirtual 105, 3) := by decide +kernel
theorem dX2_hiddenOf_10 : decode cX2_hiddenOf 10 = .ok (.ifCond .eq 11, 3) := by decide +kernel
theorem dX2_hiddenOf_13 : decode cX2_hiddenOf 13 = .ok (.aload_n 0, 1) := by decide +kernel
theorem dX2_hiddenOf_14 : decode cX2_hiddenOf 14 = .ok (.iload_n 1, 1) := by decide +kernel
theorem dX2_hiddenOf_15 : decode cX2_hiddenOf 15 = .ok (.invokevirtual 52, 3) := by decide +kernel
theorem dX2_hiddenOf_18 : decode cX2_hiddenOf 18 = .ok (.goto 8, 3) := by decide +kernel
theorem dX2_hiddenOf_21 : decode cX2_hiddenOf 21 = .ok (.aload_n 0, 1) := by decide +kernel
theorem dX2_hiddenOf_22 : decode cX2_hiddenOf 22 = .ok (.iconst 1, 1) := by decide +kernel
theorem dX2_hiddenOf_23 : decode cX2_hiddenOf 23 = .ok (.invokevirtual 99, 3) := by decide +kernel
theorem dX2_hiddenOf_26 : decode cX2_hiddenOf 26 = .ok (.ireturn, 1) := by decide +kernel
set_option maxRecDepth 20000 in
theorem ggX2_lullabyOf_X2_isTraveller : GoodIn wsX2_lullabyOf wsX2_isTraveller := goodIn_r _ [6, 7, 8, 9, 5, 10, 20, 21, 22, 23, 24, 25, 26] (by decide +kernel) (by decide +kernel)
set_option maxRecDepth 20000 in
theorem gX2_lullabyOf_X2_isTraveller : GoodIn wsX2_lullabyOf (wsV RX2 105 RX2 yX2_isTraveller wsX2_isTraveller) := goodIn_app (goodIn_of _ (by decide +kernel)) ggX2_lullabyOf_X2_isTraveller
set_option maxRecDepth 20000 in
theorem ggX2_lullabyOf_X2_tr : GoodIn wsX2_lullabyOf wsX2_tr := goodIn_r _ [14, 15, 20, 21, 22, 23, 24, 25, 26] (by decide +kernel) (by decide +kernel)
set_option maxRecDepth 20000 in
theorem gX2_lullabyOf_X2_tr : GoodIn wsX2_lullabyOf (wsV RX2 43 RX2 yX2_tr wsX2_tr) := goodIn_app (goodIn_of _ (by decide +kernel)) ggX2_lullabyOf_X2_tr
set_option maxRecDepth 20000 in
theorem ggX2_lullabyOf_X2_fail : GoodIn wsX2_lullabyOf wsX2_fail := goodIn_r _ [19, 1, 20, 21, 22, 23, 24, 25, 26] (by decide +kernel) (by decide +kernel)
set_option maxRecDepth 20000 in
theorem gX2_lullabyOf_X2_fail : GoodIn wsX2_lullabyOf (wsV RX2 99 RX2 yX2_fail wsX2_fail) := goodIn_app (goodIn_of _ (by decide +kernel)) ggX2_lullabyOf_X2_fail
theorem dX2_lullabyOf_0 : decode cX2_lullabyOf 0 = .ok (.aload_n 0, 1) := by decide +kernel
theorem dX2_lullabyOf_1 : decode cX2_lullabyOf 1 = .ok (.iconst 0, 1) := by decide +kernel
theorem dX2_lullabyOf_2 : decode cX2_lullabyOf 2 = .ok (.putfield 26, 3) := by decide +kernel
theorem dX2_lullabyOf_5 : decode cX2_lullabyOf 5 = .ok (.aload_n 0, 1) := by decide +kernel
theorem dX2_lullabyOf_6 : decode cX2_lullabyOf 6 = .ok (.iload_n 1, 1) := by decide +kernel
theorem dX2_lullabyOf_7 : decode cX2_lullabyOf 7 = .ok (.invokevirtual 105, 3) := by decide +kernel
theorem dX2_lullabyOf_10 : decode cX2_lullabyOf 10 = .ok (.ifCond .eq 12, 3) := by decide +kernel
theorem dX2_lullabyOf_13 : decode cX2_lullabyOf 13 = .ok (.aload_n 0, 1) := by decide +kernel
theorem dX2_lullabyOf_14 : decode cX2_lullabyOf 14 = .ok (.iload_n 1, 1) := by decide +kernel
theorem dX2_lullabyOf_15 : decode cX2_lullabyOf 15 = .ok (.iconst 1, 1) := by decide +kernel
theorem dX2_lullabyOf_16 : decode cX2_lullabyOf 16 = .ok (.invokevirtual 43, 3) := by decide +kernel
theorem dX2_lullabyOf_19 : decode cX2_lullabyOf 19 = .ok (.goto 8, 3) := by decide +kernel
theorem dX2_lullabyOf_22 : decode cX2_lullabyOf 22 = .ok (.aload_n 0, 1) := by decide +kernel
theorem dX2_lullabyOf_23 : decode cX2_lullabyOf 23 = .ok (.iconst 1, 1) := by decide +kernel
theorem dX2_lullabyOf_24 : decode cX2_lullabyOf 24 = .ok (.invokevirtual 99, 3) := by decide +kernel
theorem dX2_lullabyOf_27 : decode cX2_lullabyOf 27 = .ok (.ireturn, 1) := by decide +kernel
set_option maxRecDepth 20000 in
theorem ggX2_place_X2_tr : GoodIn wsX2_place wsX2_tr := goodIn_r _ [5, 6, 7, 8, 9, 10, 11, 12, 13] (by decide +kernel) (by decide +kernel)
set_option maxRecDepth 20000 in
theorem gX2_place_X2_tr : GoodIn wsX2_place (wsV RX2 43 RX2 yX2_tr wsX2_tr) := goodIn_app (goodIn_of _ (by decide +kernel)) ggX2_place_X2_tr
theorem dX2_place_0 : decode cX2_place 0 = .ok (.aload_n 0, 1) := by decide +kernel
theorem dX2_place_1 : decode cX2_place 1 = .ok (.iload_n 1, 1) := by decide +kernel
theorem dX2_place_2 : decode cX2_place 2 = .ok (.iconst 0, 1) := by decide +kernel
theorem dX2_place_3 : decode cX2_place 3 = .ok (.invokevirtual 43, 3) := by decide +kernel
theorem dX2_place_6 : decode cX2_place 6 = .ok (.ifCond .eq 5, 3) := by decide +kernel
theorem dX2_place_9 : decode cX2_place 9 = .ok (.iconst (-1), 1) := by decide +kernel
theorem dX2_place_10 : decode cX2_place 10 = .ok (.ireturn, 1) := by decide +kernel
theorem dX2_place_11 : decode cX2_place 11 = .ok (.iconst 0, 1) := by decide +kernel
theorem dX2_place_12 : decode cX2_place 12 = .ok (.istore_n 2, 1) := by decide +kernel
theorem dX2_place_13 : decode cX2_place 13 = .ok (.iconst 0, 1) := by decide +kernel
theorem dX2_place_14 : decode cX2_place 14 = .ok (.istore_n 3, 1) := by decide +kernel
theorem dX2_place_15 : decode cX2_place 15 = .ok (.iload_n 3, 1) := by decide +kernel
theorem dX2_place_16 : decode cX2_place 16 = .ok (.iload_n 1, 1) := by decide +kernel
theorem dX2_place_17 : decode cX2_place 17 = .ok (.if_icmp .ge 26, 3) := by decide +kernel
theorem dX2_place_20 : decode cX2_place 20 = .ok (.iload_n 2, 1) := by decide +kernel
theorem dX2_place_21 : decode cX2_place 21 = .ok (.aload_n 0, 1) := by decide +kernel
theorem dX2_place_22 : decode cX2_place 22 = .ok (.iload_n 3, 1) := by decide +kernel
theorem dX2_place_23 : decode cX2_place 23 = .ok (.iconst 0, 1) := by decide +kernel
theorem dX2_place_24 : decode cX2_place 24 = .ok (.invokevirtual 43, 3) := by decide +kernel
theorem dX2_place_27 : decode cX2_place 27 = .ok (.ifCond .ne 7, 3) := by decide +kernel
theorem dX2_place_30 : decode cX2_place 30 = .ok (.iconst 1, 1) := by decide +kernel
theorem dX2_place_31 : decode cX2_place 31 = .ok (.goto 4, 3) := by decide +kernel
theorem dX2_place_34 : decode cX2_place 34 = .ok (.iconst 0, 1) := by decide +kernel
theorem dX2_place_35 : decode cX2_place 35 = .ok (.iadd, 1) := by decide +kernel
theorem dX2_place_36 : decode cX2_place 36 = .ok (.istore_n 2, 1) := by decide +kernel
theorem dX2_place_37 : decode cX2_place 37 = .ok (.iinc 3 1, 3) := by decide +kernel
theorem dX2_place_40 : decode cX2_place 40 = .ok (.goto (-25), 3) := by decide +kernel
theorem dX2_place_43 : decode cX2_place 43 = .ok (.iload_n 2, 1) := by decide +kernel
theorem dX2_place_44 : decode cX2_place 44 = .ok (.ireturn, 1) := by decide +kernel
set_option maxRecDepth 20000 in
theorem ggX2_placeInLine_X2_isTraveller : GoodIn wsX2_placeInLine wsX2_isTraveller := goodIn_r _ [6, 7, 8, 9, 5, 10, 24, 25, 26, 27, 28, 29, 30] (by decide +kernel) (by decide +kernel)
set_option maxRecDepth 20000 in
theorem gX2_placeInLine_X2_isTraveller : GoodIn wsX2_placeInLine (wsV RX2 105 RX2 yX2_isTraveller wsX2_isTraveller) := goodIn_app (goodIn_of _ (by decide +kernel)) ggX2_placeInLine_X2_isTraveller
set_option maxRecDepth 20000 in
theorem ggX2_placeInLine_X2_place : GoodIn wsX2_placeInLine wsX2_place := goodIn_r _ [14, 15, 16, 17, 5, 18, 19, 24, 25, 26, 27, 28, 29, 30] (by decide +kernel) (by decide +kernel)
set_option maxRecDepth 20000 in
theorem gX2_placeInLine_X2_place : GoodIn wsX2_placeInLine (wsV RX2 125 RX2 yX2_place wsX2_place) := goodIn_app (goodIn_of _ (by decide +kernel)) ggX2_placeInLine_X2_place
set_option maxRecDepth 20000 in
theorem ggX2_placeInLine_X2_fail : GoodIn wsX2_placeInLine wsX2_fail := goodIn_r _ [23, 1, 24, 25, 26, 27, 28, 29, 30] (by decide +kernel) (by decide +kernel)
set_option maxRecDepth 20000 in
theorem gX2_placeInLine_X2_fail : GoodIn wsX2_placeInLine (wsV RX2 99 RX2 yX2_fail wsX2_fail) := goodIn_app (goodIn_of _ (by decide +kernel)) ggX2_placeInLine_X2_fail
theorem dX2_placeInLine_0 : decode cX2_placeInLine 0 = .ok (.aload_n 0, 1) := by decide +kernel
theorem dX2_placeInLine_1 : decode cX2_placeInLine 1 = .ok (.iconst 0, 1) := by decide +kernel
theorem dX2_placeInLine_2 : decode cX2_placeInLine 2 = .ok (.putfield 26, 3) := by decide +kernel
theorem dX2_placeInLine_5 : decode cX2_placeInLine 5 = .ok (.aload_n 0, 1) := by decide +kernel
theorem dX2_placeInLine_6 : decode cX2_placeInLine 6 = .ok (.iload_n 1, 1) := by decide +kernel
theorem dX2_placeInLine_7 : decode cX2_placeInLine 7 = .ok (.invokevirtual 105, 3) := by decide +kernel
theorem dX2_placeInLine_10 : decode cX2_placeInLine 10 = .ok (.ifCond .eq 11, 3) := by decide +kernel
theorem dX2_placeInLine_13 : decode cX2_placeInLine 13 = .ok (.aload_n 0, 1) := by decide +kernel
theorem dX2_placeInLine_14 : decode cX2_placeInLine 14 = .ok (.iload_n 1, 1) := by decide +kernel
theorem dX2_placeInLine_15 : decode cX2_placeInLine 15 = .ok (.invokevirtual 125, 3) := by decide +kernel
theorem dX2_placeInLine_18 : decode cX2_placeInLine 18 = .ok (.goto 8, 3) := by decide +kernel
theorem dX2_placeInLine_21 : decode cX2_placeInLine 21 = .ok (.aload_n 0, 1) := by decide +kernel
theorem dX2_placeInLine_22 : decode cX2_placeInLine 22 = .ok (.iconst 1, 1) := by decide +kernel
theorem dX2_placeInLine_23 : decode cX2_placeInLine 23 = .ok (.invokevirtual 99, 3) := by decide +kernel
theorem dX2_placeInLine_26 : decode cX2_placeInLine 26 = .ok (.ireturn, 1) := by decide +kernel
set_option maxRecDepth 20000 in
theorem ggX2_searchTime_X2_isTraveller : GoodIn wsX2_searchTime wsX2_isTraveller := goodIn_r _ [6, 7, 8, 9, 5, 10, 29, 30, 31, 32, 33, 34, 35] (by decide +kernel) (by decide +kernel)
set_option maxRecDepth 20000 in
theorem gX2_searchTime_X2_isTraveller : GoodIn wsX2_searchTime (wsV RX2 105 RX2 yX2_isTraveller wsX2_isTraveller) := goodIn_app (goodIn_of _ (by decide +kernel)) ggX2_searchTime_X2_isTraveller
set_option maxRecDepth 20000 in
theorem ggX2_searchTime_X2_takes : GoodIn wsX2_searchTime wsX2_takes := goodIn_r _ [14, 15, 16, 17, 5, 18, 19, 20, 21, 22, 23, 7, 24, 29, 30, 31, 32, 33, 34, 35] (by decide +kernel) (by decide +kernel)
set_option maxRecDepth 20000 in
theorem gX2_searchTime_X2_takes : GoodIn wsX2_searchTime (wsV RX2 80 RX2 yX2_takes wsX2_takes) := goodIn_app (goodIn_of _ (by decide +kernel)) ggX2_searchTime_X2_takes
set_option maxRecDepth 20000 in
theorem ggX2_searchTime_X2_fail : GoodIn wsX2_searchTime wsX2_fail := goodIn_r _ [28, 1, 29, 30, 31, 32, 33, 34, 35] (by decide +kernel) (by decide +kernel)
set_option maxRecDepth 20000 in
theorem gX2_searchTime_X2_fail : GoodIn wsX2_searchTime (wsV RX2 99 RX2 yX2_fail wsX2_fail) := goodIn_app (goodIn_of _ (by decide +kernel)) ggX2_searchTime_X2_fail
theorem dX2_searchTime_0 : decode cX2_searchTime 0 = .ok (.aload_n 0, 1) := by decide +kernel
theorem dX2_searchTime_1 : decode cX2_searchTime 1 = .ok (.iconst 0, 1) := by decide +kernel
theorem dX2_searchTime_2 : decode cX2_searchTime 2 = .ok (.putfield 26, 3) := by decide +kernel
theorem dX2_searchTime_5 : decode cX2_searchTime 5 = .ok (.aload_n 0, 1) := by decide +kernel
theorem dX2_searchTime_6 : decode cX2_searchTime 6 = .ok (.iload_n 1, 1) := by decide +kernel
theorem dX2_searchTime_7 : decode cX2_searchTime 7 = .ok (.invokevirtual 105, 3) := by decide +kernel
theorem dX2_searchTime_10 : decode cX2_searchTime 10 = .ok (.ifCond .eq 11, 3) := by decide +kernel
theorem dX2_searchTime_13 : decode cX2_searchTime 13 = .ok (.aload_n 0, 1) := by decide +kernel
theorem dX2_searchTime_14 : decode cX2_searchTime 14 = .ok (.iload_n 1, 1) := by decide +kernel
theorem dX2_searchTime_15 : decode cX2_searchTime 15 = .ok (.invokevirtual 80, 3) := by decide +kernel
theorem dX2_searchTime_18 : decode cX2_searchTime 18 = .ok (.goto 8, 3) := by decide +kernel
theorem dX2_searchTime_21 : decode cX2_searchTime 21 = .ok (.aload_n 0, 1) := by decide +kernel
theorem dX2_searchTime_22 : decode cX2_searchTime 22 = .ok (.iconst 1, 1) := by decide +kernel
theorem dX2_searchTime_23 : decode cX2_searchTime 23 = .ok (.invokevirtual 99, 3) := by decide +kernel
theorem dX2_searchTime_26 : decode cX2_searchTime 26 = .ok (.ireturn, 1) := by decide +kernel
set_option maxRecDepth 20000 in
theorem ggX2_guards_X2_told : GoodIn wsX2_guards wsX2_told := goodIn_r _ [6, 7, 8, 9, 10, 11, 12, 13, 14] (by decide +kernel) (by decide +kernel)
set_option maxRecDepth 20000 in
theorem gX2_guards_X2_told : GoodIn wsX2_guards (wsV RX2 122 RX2 yX2_told wsX2_told) := goodIn_app (goodIn_of _ (by decide +kernel)) ggX2_guards_X2_told
theorem dX2_guards_0 : decode cX2_guards 0 = .ok (.aload_n 0, 1) := by decide +kernel
theorem dX2_guards_1 : decode cX2_guards 1 = .ok (.aload_n 0, 1) := by decide +kernel
theorem dX2_guards_2 : decode cX2_guards 2 = .ok (.getfield 16, 3) := by decide +kernel
theorem dX2_guards_5 : decode cX2_guards 5 = .ok (.iconst 3, 1) := by decide +kernel
theorem dX2_guards_6 : decode cX2_guards 6 = .ok (.iaload, 1) := by decide +kernel
theorem dX2_guards_7 : decode cX2_guards 7 = .ok (.invokevirtual 122, 3) := by decide +kernel
theorem dX2_guards_10 : decode cX2_guards 10 = .ok (.ireturn, 1) := by decide +kernel
set_option maxRecDepth 20000 in
theorem ggX2_guard_X2_isGuard : GoodIn wsX2_guard wsX2_isGuard := goodIn_r _ [6, 7, 8, 9, 5, 10, 19, 20, 21, 22, 23, 24, 25] (by decide +kernel) (by decide +kernel)
set_option maxRecDepth 20000 in
theorem gX2_guard_X2_isGuard : GoodIn wsX2_guard (wsV RX2 113 RX2 yX2_isGuard wsX2_isGuard) := goodIn_app (goodIn_of _ (by decide +kernel)) ggX2_guard_X2_isGuard
set_option maxRecDepth 20000 in
theorem ggX2_guard_X2_gu : GoodIn wsX2_guard wsX2_gu := goodIn_r _ [14, 7, 19, 20, 21, 22, 23, 24, 25] (by decide +kernel) (by decide +kernel)
set_option maxRecDepth 20000 in
theorem gX2_guard_X2_gu : GoodIn wsX2_guard (wsV RX2 56 RX2 yX2_gu wsX2_gu) := goodIn_app (goodIn_of _ (by decide +kernel)) ggX2_guard_X2_gu
set_option maxRecDepth 20000 in
theorem ggX2_guard_X2_fail : GoodIn wsX2_guard wsX2_fail := goodIn_r _ [18, 1, 19, 20, 21, 22, 23, 24, 25] (by decide +kernel) (by decide +kernel)
set_option maxRecDepth 20000 in
theorem gX2_guard_X2_fail : GoodIn wsX2_guard (wsV RX2 99 RX2 yX2_fail wsX2_fail) := goodIn_app (goodIn_of _ (by decide +kernel)) ggX2_guard_X2_fail
theorem dX2_guard_0 : decode cX2_guard 0 = .ok (.aload_n 0, 1) := by decide +kernel
theorem dX2_guard_1 : decode cX2_guard 1 = .ok (.iconst 0, 1) := by decide +kernel
theorem dX2_guard_2 : decode cX2_guard 2 = .ok (.putfield 26, 3) := by decide +kernel
theorem dX2_guard_5 : decode cX2_guard 5 = .ok (.aload_n 0, 1) := by decide +kernel
theorem dX2_guard_6 : decode cX2_guard 6 = .ok (.iload_n 1, 1) := by decide +kernel
theorem dX2_guard_7 : decode cX2_guard 7 = .ok (.invokevirtual 113, 3) := by decide +kernel
theorem dX2_guard_10 : decode cX2_guard 10 = .ok (.ifCond .eq 12, 3) := by decide +kernel
theorem dX2_guard_13 : decode cX2_guard 13 = .ok (.aload_n 0, 1) := by decide +kernel
theorem dX2_guard_14 : decode cX2_guard 14 = .ok (.iload_n 1, 1) := by decide +kernel
theorem dX2_guard_15 : decode cX2_guard 15 = .ok (.iload_n 2, 1) := by decide +kernel
theorem dX2_guard_16 : decode cX2_guard 16 = .ok (.invokevirtual 56, 3) := by decide +kernel
theorem dX2_guard_19 : decode cX2_guard 19 = .ok (.goto 8, 3) := by decide +kernel
theorem dX2_guard_22 : decode cX2_guard 22 = .ok (.aload_n 0, 1) := by decide +kernel
theorem dX2_guard_23 : decode cX2_guard 23 = .ok (.iconst 1, 1) := by decide +kernel
theorem dX2_guard_24 : decode cX2_guard 24 = .ok (.invokevirtual 99, 3) := by decide +kernel
theorem dX2_guard_27 : decode cX2_guard 27 = .ok (.ireturn, 1) := by decide +kernel
set_option maxRecDepth 20000 in
theorem ggX2_alertnessOf_X2_guard : GoodIn wsX2_alertnessOf wsX2_guard := goodIn_r _ [5, 6, 7, 8, 9, 4, 10, 11, 12, 13, 14, 15, 16, 17, 18, 19, 20, 21, 22, 23, 24, 25, 26, 27, 28, 29] (by decide +kernel) (by decide +kernel)
set_option maxRecDepth 20000 in
theorem gX2_alertnessOf_X2_guard : GoodIn wsX2_alertnessOf (wsV RX2 128 RX2 yX2_guard wsX2_guard) := goodIn_app (goodIn_of _ (by decide +kernel)) ggX2_alertnessOf_X2_guard
theorem dX2_alertnessOf_0 : decode cX2_alertnessOf 0 = .ok (.aload_n 0, 1) := by decide +kernel
theorem dX2_alertnessOf_1 : decode cX2_alertnessOf 1 = .ok (.iload_n 1, 1) := by decide +kernel
theorem dX2_alertnessOf_2 : decode cX2_alertnessOf 2 = .ok (.iconst 0, 1) := by decide +kernel
theorem dX2_alertnessOf_3 : decode cX2_alertnessOf 3 = .ok (.invokevirtual 128, 3) := by decide +kernel
theorem dX2_alertnessOf_6 : decode cX2_alertnessOf 6 = .ok (.ireturn, 1) := by decide +kernel
set_option maxRecDepth 20000 in
theorem ggX2_searches_X2_guard : GoodIn wsX2_searches wsX2_guard := goodIn_r _ [5, 6, 7, 8, 9, 4, 10, 11, 12, 13, 14, 15, 16, 17, 18, 19, 20, 21, 22, 23, 24, 25, 26, 27, 28, 29] (by decide +kernel) (by decide +kernel)
set_option maxRecDepth 20000 in
theorem gX2_searches_X2_guard : GoodIn wsX2_searches (wsV RX2 128 RX2 yX2_guard wsX2_guard) := goodIn_app (goodIn_of _ (by decide +kernel)) ggX2_searches_X2_guard
theorem dX2_searches_0 : decode cX2_searches 0 = .ok (.aload_n 0, 1) := by decide +kernel
theorem dX2_searches_1 : decode cX2_searches 1 = .ok (.iload_n 1, 1) := by decide +kernel
theorem dX2_searches_2 : decode cX2_searches 2 = .ok (.iconst 1, 1) := by decide +kernel
theorem dX2_searches_3 : decode cX2_searches 3 = .ok (.invokevirtual 128, 3) := by decide +kernel
theorem dX2_searches_6 : decode cX2_searches 6 = .ok (.ireturn, 1) := by decide +kernel
set_option maxRecDepth 20000 in
theorem ggX2_minutesToGo_X2_guard : GoodIn wsX2_minutesToGo wsX2_guard := goodIn_r _ [5, 6, 7, 8, 9, 4, 10, 11, 12, 13, 14, 15, 16, 17, 18, 19, 20, 21, 22, 23, 24, 25, 26, 27, 28, 29] (by decide +kernel) (by decide +kernel)
set_option maxRecDepth 20000 in
theorem gX2_minutesToGo_X2_guard : GoodIn wsX2_minutesToGo (wsV RX2 128 RX2 yX2_guard wsX2_guard) := goodIn_app (goodIn_of _ (by decide +kernel)) ggX2_minutesToGo_X2_guard
theorem dX2_minutesToGo_0 : decode cX2_minutesToGo 0 = .ok (.aload_n 0, 1) := by decide +kernel
theorem dX2_minutesToGo_1 : decode cX2_minutesToGo 1 = .ok (.iload_n 1, 1) := by decide +kernel
theorem dX2_minutesToGo_2 : decode cX2_minutesToGo 2 = .ok (.iconst 2, 1) := by decide +kernel
theorem dX2_minutesToGo_3 : decode cX2_minutesToGo 3 = .ok (.invokevirtual 128, 3) := by decide +kernel
theorem dX2_minutesToGo_6 : decode cX2_minutesToGo 6 = .ok (.ireturn, 1) := by decide +kernel
set_option maxRecDepth 20000 in
theorem ggX2_wouldFind_X2_isGuard : GoodIn wsX2_wouldFind wsX2_isGuard := goodIn_r _ [6, 7, 8, 9, 5, 10, 37, 38, 39, 40, 41, 42, 43] (by decide +kernel) (by decide +kernel)
set_option maxRecDepth 20000 in
theorem gX2_wouldFind_X2_isGuard : GoodIn wsX2_wouldFind (wsV RX2 113 RX2 yX2_isGuard wsX2_isGuard) := goodIn_app (goodIn_of _ (by decide +kernel)) ggX2_wouldFind_X2_isGuard
set_option maxRecDepth 20000 in
theorem ggX2_wouldFind_X2_isTraveller : GoodIn wsX2_wouldFind wsX2_isTraveller := goodIn_r _ [14, 15, 8, 9, 5, 10, 37, 38, 39, 40, 41, 42, 43] (by decide +kernel) (by decide +kernel)
set_option maxRecDepth 20000 in
theorem gX2_wouldFind_X2_isTraveller : GoodIn wsX2_wouldFind (wsV RX2 105 RX2 yX2_isTraveller wsX2_isTraveller) := goodIn_app (goodIn_of _ (by decide +kernel)) ggX2_wouldFind_X2_isTraveller
set_option maxRecDepth 20000 in
theorem ggX2_wouldFind_X2_finds : GoodIn wsX2_wouldFind wsX2_finds := goodIn_r _ [19, 20, 21, 22, 5, 23, 24, 25, 26, 27, 28, 29, 30, 31, 32, 7, 33, 34, 35, 36, 37, 38, 39, 40, 41, 42, 43] (by decide +kernel) (by decide +kernel)
set_option maxRecDepth 20000 in
theorem gX2_wouldFind_X2_finds : GoodIn wsX2_wouldFind (wsV RX2 70 RX2 yX2_finds wsX2_finds) := goodIn_app (goodIn_of _ (by decide +kernel)) ggX2_wouldFind_X2_finds
theorem dX2_wouldFind_0 : decode cX2_wouldFind 0 = .ok (.aload_n 0, 1) := by decide +kernel
theorem dX2_wouldFind_1 : decode cX2_wouldFind 1 = .ok (.aload_n 0, 1) := by decide +kernel
theorem dX2_wouldFind_2 : decode cX2_wouldFind 2 = .ok (.iload_n 1, 1) := by decide +kernel
theorem dX2_wouldFind_3 : decode cX2_wouldFind 3 = .ok (.invokevirtual 113, 3) := by decide +kernel
theorem dX2_wouldFind_6 : decode cX2_wouldFind 6 = .ok (.ifCond .eq 15, 3) := by decide +kernel
theorem dX2_wouldFind_9 : decode cX2_wouldFind 9 = .ok (.aload_n 0, 1) := by decide +kernel
theorem dX2_wouldFind_10 : decode cX2_wouldFind 10 = .ok (.iload_n 2, 1) := by decide +kernel
theorem dX2_wouldFind_11 : decode cX2_wouldFind 11 = .ok (.invokevirtual 105, 3) := by decide +kernel
theorem dX2_wouldFind_14 : decode cX2_wouldFind 14 = .ok (.ifCond .eq 7, 3) := by decide +kernel
theorem dX2_wouldFind_17 : decode cX2_wouldFind 17 = .ok (.iconst 0, 1) := by decide +kernel
theorem dX2_wouldFind_18 : decode cX2_wouldFind 18 = .ok (.goto 4, 3) := by decide +kernel
theorem dX2_wouldFind_21 : decode cX2_wouldFind 21 = .ok (.iconst 1, 1) := by decide +kernel
theorem dX2_wouldFind_22 : decode cX2_wouldFind 22 = .ok (.putfield 26, 3) := by decide +kernel
theorem dX2_wouldFind_25 : decode cX2_wouldFind 25 = .ok (.aload_n 0, 1) := by decide +kernel
theorem dX2_wouldFind_26 : decode cX2_wouldFind 26 = .ok (.getfield 26, 3) := by decide +kernel
theorem dX2_wouldFind_29 : decode cX2_wouldFind 29 = .ok (.ifCond .ne 16, 3) := by decide +kernel
theorem dX2_wouldFind_32 : decode cX2_wouldFind 32 = .ok (.aload_n 0, 1) := by decide +kernel
theorem dX2_wouldFind_33 : decode cX2_wouldFind 33 = .ok (.iload_n 1, 1) := by decide +kernel
theorem dX2_wouldFind_34 : decode cX2_wouldFind 34 = .ok (.iload_n 2, 1) := by decide +kernel
theorem dX2_wouldFind_35 : decode cX2_wouldFind 35 = .ok (.invokevirtual 70, 3) := by decide +kernel
theorem dX2_wouldFind_38 : decode cX2_wouldFind 38 = .ok (.ifCond .eq 7, 3) := by decide +kernel
theorem dX2_wouldFind_41 : decode cX2_wouldFind 41 = .ok (.iconst 1, 1) := by decide +kernel
theorem dX2_wouldFind_42 : decode cX2_wouldFind 42 = .ok (.goto 4, 3) := by decide +kernel
theorem dX2_wouldFind_45 : decode cX2_wouldFind 45 = .ok (.iconst 0, 1) := by decide +kernel
theorem dX2_wouldFind_46 : decode cX2_wouldFind 46 = .ok (.ireturn, 1) := by decide +kernel
set_option maxRecDepth 20000 in
theorem ggX2_alertest_X2_gu : GoodIn wsX2_alertest wsX2_gu := goodIn_r _ [6, 1, 7, 8, 9, 10, 11, 12, 13] (by decide +kernel) (by decide +kernel)
set_option maxRecDepth 20000 in
theorem gX2_alertest_X2_gu : GoodIn wsX2_alertest (wsV RX2 56 RX2 yX2_gu wsX2_gu) := goodIn_app (goodIn_of _ (by decide +kernel)) ggX2_alertest_X2_gu
theorem dX2_alertest_0 : decode cX2_alertest 0 = .ok (.iconst (-1), 1) := by decide +kernel
theorem dX2_alertest_1 : decode cX2_alertest 1 = .ok (.istore_n 1, 1) := by decide +kernel
theorem dX2_alertest_2 : decode cX2_alertest 2 = .ok (.iconst 0, 1) := by decide +kernel
theorem dX2_alertest_3 : decode cX2_alertest 3 = .ok (.istore_n 2, 1) := by decide +kernel
theorem dX2_alertest_4 : decode cX2_alertest 4 = .ok (.iload_n 2, 1) := by decide +kernel
theorem dX2_alertest_5 : decode cX2_alertest 5 = .ok (.aload_n 0, 1) := by decide +kernel
theorem dX2_alertest_6 : decode cX2_alertest 6 = .ok (.getfield 16, 3) := by decide +kernel
theorem dX2_alertest_9 : decode cX2_alertest 9 = .ok (.iconst 3, 1) := by decide +kernel
theorem dX2_alertest_10 : decode cX2_alertest 10 = .ok (.iaload, 1) := by decide +kernel
theorem dX2_alertest_11 : decode cX2_alertest 11 = .ok (.if_icmp .ge 31, 3) := by decide +kernel
theorem dX2_alertest_14 : decode cX2_alertest 14 = .ok (.iload_n 1, 1) := by decide +kernel
theorem dX2_alertest_15 : decode cX2_alertest 15 = .ok (.iconst (-1), 1) := by decide +kernel
theorem dX2_alertest_16 : decode cX2_alertest 16 = .ok (.if_icmp .eq 18, 3) := by decide +kernel
theorem dX2_alertest_19 : decode cX2_alertest 19 = .ok (.aload_n 0, 1) := by decide +kernel
theorem dX2_alertest_20 : decode cX2_alertest 20 = .ok (.iload_n 2, 1) := by decide +kernel
theorem dX2_alertest_21 : decode cX2_alertest 21 = .ok (.iconst 0, 1) := by decide +kernel
theorem dX2_alertest_22 : decode cX2_alertest 22 = .ok (.invokevirtual 56, 3) := by decide +kernel
theorem dX2_alertest_25 : decode cX2_alertest 25 = .ok (.aload_n 0, 1) := by decide +kernel
theorem dX2_alertest_26 : decode cX2_alertest 26 = .ok (.iload_n 1, 1) := by decide +kernel
theorem dX2_alertest_27 : decode cX2_alertest 27 = .ok (.iconst 0, 1) := by decide +kernel
theorem dX2_alertest_28 : decode cX2_alertest 28 = .ok (.invokevirtual 56, 3) := by decide +kernel
theorem dX2_alertest_31 : decode cX2_alertest 31 = .ok (.if_icmp .le 5, 3) := by decide +kernel
theorem dX2_alertest_34 : decode cX2_alertest 34 = .ok (.iload_n 2, 1) := by decide +kernel
theorem dX2_alertest_35 : decode cX2_alertest 35 = .ok (.istore_n 1, 1) := by decide +kernel
theorem dX2_alertest_36 : decode cX2_alertest 36 = .ok (.iinc 2 1, 3) := by decide +kernel
theorem dX2_alertest_39 : decode cX2_alertest 39 = .ok (.goto (-35), 3) := by decide +kernel
theorem dX2_alertest_42 : decode cX2_alertest 42 = .ok (.iload_n 1, 1) := by decide +kernel
theorem dX2_alertest_43 : decode cX2_alertest 43 = .ok (.ireturn, 1) := by decide +kernel
set_option maxRecDepth 20000 in
theorem ggX2_mostAlert_X2_alertest : GoodIn wsX2_mostAlert wsX2_alertest := goodIn_r _ [5, 6, 7, 8, 9, 4, 10, 16, 17, 18, 19, 20, 21, 22] (by decide +kernel) (by decide +kernel)
set_option maxRecDepth 20000 in
theorem gX2_mostAlert_X2_alertest : GoodIn wsX2_mostAlert (wsV RX2 131 RX2 yX2_alertest wsX2_alertest) := goodIn_app (goodIn_of _ (by decide +kernel)) ggX2_mostAlert_X2_alertest
set_option maxRecDepth 20000 in
theorem ggX2_mostAlert_X2_told : GoodIn wsX2_mostAlert wsX2_told := goodIn_r _ [14, 15, 16, 17, 18, 19, 20, 21, 22] (by decide +kernel) (by decide +kernel)
set_option maxRecDepth 20000 in
theorem gX2_mostAlert_X2_told : GoodIn wsX2_mostAlert (wsV RX2 122 RX2 yX2_told wsX2_told) := goodIn_app (goodIn_of _ (by decide +kernel)) ggX2_mostAlert_X2_told
theorem dX2_mostAlert_0 : decode cX2_mostAlert 0 = .ok (.aload_n 0, 1) := by decide +kernel
theorem dX2_mostAlert_1 : decode cX2_mostAlert 1 = .ok (.aload_n 0, 1) := by decide +kernel
theorem dX2_mostAlert_2 : decode cX2_mostAlert 2 = .ok (.invokevirtual 131, 3) := by decide +kernel
theorem dX2_mostAlert_5 : decode cX2_mostAlert 5 = .ok (.invokevirtual 122, 3) := by decide +kernel
theorem dX2_mostAlert_8 : decode cX2_mostAlert 8 = .ok (.ireturn, 1) := by decide +kernel
set_option maxRecDepth 20000 in
theorem ggX2_run_X2_tr : GoodIn wsX2_run wsX2_tr := goodIn_r _ [5, 6, 70, 71, 72, 73, 74, 75, 76] (by decide +kernel) (by decide +kernel)
set_option maxRecDepth 20000 in
theorem gX2_run_X2_tr : GoodIn wsX2_run (wsV RX2 43 RX2 yX2_tr wsX2_tr) := goodIn_app (goodIn_of _ (by decide +kernel)) ggX2_run_X2_tr
set_option maxRecDepth 20000 in
theorem ggX2_run_X2_minuteOn : GoodIn wsX2_run wsX2_minuteOn := goodIn_r _ [10, 6, 11, 12, 13, 14, 15, 4, 16, 17, 18, 19, 20, 1, 2, 3, 5, 21, 22, 23, 24, 25, 26, 27, 28, 29, 30, 31, 32, 33, 34, 35, 36, 37, 38, 39, 40, 41, 42, 43, 44, 45, 46, 47, 48, 49, 50, 51, 52, 53, 54, 55, 56, 57, 58, 59, 60, 61, 62, 63, 64, 65, 66, 67, 68, 69, 70, 71, 72, 73, 74, 75, 76] (by decide +kernel) (by decide +kernel)
set_option maxRecDepth 20000 in
theorem gX2_run_X2_minuteOn : GoodIn wsX2_run (wsV RX2 96 RX2 yX2_minuteOn wsX2_minuteOn) := goodIn_app (goodIn_of _ (by decide +kernel)) ggX2_run_X2_minuteOn
theorem dX2_run_0 : decode cX2_run 0 = .ok (.iconst 0, 1) := by decide +kernel
theorem dX2_run_1 : decode cX2_run 1 = .ok (.istore_n 2, 1) := by decide +kernel
theorem dX2_run_2 : decode cX2_run 2 = .ok (.iload_n 2, 1) := by decide +kernel
theorem dX2_run_3 : decode cX2_run 3 = .ok (.bipush 100, 2) := by decide +kernel
theorem dX2_run_5 : decode cX2_run 5 = .ok (.if_icmp .gt 23, 3) := by decide +kernel
theorem dX2_run_8 : decode cX2_run 8 = .ok (.aload_n 0, 1) := by decide +kernel
theorem dX2_run_9 : decode cX2_run 9 = .ok (.iload_n 1, 1) := by decide +kernel
theorem dX2_run_10 : decode cX2_run 10 = .ok (.iconst 0, 1) := by decide +kernel
theorem dX2_run_11 : decode cX2_run 11 = .ok (.invokevirtual 43, 3) := by decide +kernel
theorem dX2_run_14 : decode cX2_run 14 = .ok (.iconst 3, 1) := by decide +kernel
theorem dX2_run_15 : decode cX2_run 15 = .ok (.if_icmp .eq 13, 3) := by decide +kernel
theorem dX2_run_18 : decode cX2_run 18 = .ok (.aload_n 0, 1) := by decide +kernel
theorem dX2_run_19 : decode cX2_run 19 = .ok (.invokevirtual 96, 3) := by decide +kernel
theorem dX2_run_22 : decode cX2_run 22 = .ok (.iinc 2 1, 3) := by decide +kernel
theorem dX2_run_25 : decode cX2_run 25 = .ok (.goto (-23), 3) := by decide +kernel
theorem dX2_run_28 : decode cX2_run 28 = .ok (.iload_n 2, 1) := by decide +kernel
theorem dX2_run_29 : decode cX2_run 29 = .ok (.bipush 100, 2) := by decide +kernel
theorem dX2_run_31 : decode cX2_run 31 = .ok (.if_icmp .le 7, 3) := by decide +kernel
theorem dX2_run_34 : decode cX2_run 34 = .ok (.iconst (-1), 1) := by decide +kernel
theorem dX2_run_35 : decode cX2_run 35 = .ok (.goto 4, 3) := by decide +kernel
theorem dX2_run_38 : decode cX2_run 38 = .ok (.iload_n 2, 1) := by decide +kernel
theorem dX2_run_39 : decode cX2_run 39 = .ok (.ireturn, 1) := by decide +kernel
set_option maxRecDepth 20000 in
theorem ggX2_until_X2_keep : GoodIn wsX2_until wsX2_keep := goodIn_r _ [5, 6, 7, 8, 9, 10, 11, 87, 88, 89, 90, 91, 92, 93] (by decide +kernel) (by decide +kernel)
set_option maxRecDepth 20000 in
theorem gX2_until_X2_keep : GoodIn wsX2_until (wsV RX2 134 RX2 yX2_keep wsX2_keep) := goodIn_app (goodIn_of _ (by decide +kernel)) ggX2_until_X2_keep
set_option maxRecDepth 20000 in
theorem ggX2_until_X2_run : GoodIn wsX2_until wsX2_run := goodIn_r _ [15, 16, 17, 18, 4, 19, 6, 20, 21, 22, 23, 24, 25, 26, 27, 28, 29, 30, 31, 32, 33, 34, 35, 36, 37, 38, 39, 40, 41, 42, 43, 44, 45, 46, 47, 48, 49, 50, 51, 52, 53, 54, 55, 56, 57, 58, 59, 60, 61, 62, 63, 64, 65, 66, 67, 68, 69, 70, 71, 72, 73, 74, 75, 76, 77, 78, 79, 80, 81, 82, 87, 88, 89, 90, 91, 92, 93] (by decide +kernel) (by decide +kernel)
set_option maxRecDepth 20000 in
theorem gX2_until_X2_run : GoodIn wsX2_until (wsV RX2 137 RX2 yX2_run wsX2_run) := goodIn_app (goodIn_of _ (by decide +kernel)) ggX2_until_X2_run
set_option maxRecDepth 20000 in
theorem ggX2_until_X2_bringBack : GoodIn wsX2_until wsX2_bringBack := goodIn_r _ [86, 7, 6, 8, 9, 10, 11, 87, 88, 89, 90, 91, 92, 93] (by decide +kernel) (by decide +kernel)
set_option maxRecDepth 20000 in
theorem gX2_until_X2_bringBack : GoodIn wsX2_until (wsV RX2 140 RX2 yX2_bringBack wsX2_bringBack) := goodIn_app (goodIn_of _ (by decide +kernel)) ggX2_until_X2_bringBack
theorem dX2_until_0 : decode cX2_until 0 = .ok (.aload_n 0, 1) := by decide +kernel
theorem dX2_until_1 : decode cX2_until 1 = .ok (.invokevirtual 134, 3) := by decide +kernel
theorem dX2_until_4 : decode cX2_until 4 = .ok (.aload_n 0, 1) := by decide +kernel
theorem dX2_until_5 : decode cX2_until 5 = .ok (.iload_n 1, 1) := by decide +kernel
theorem dX2_until_6 : decode cX2_until 6 = .ok (.invokevirtual 137, 3) := by decide +kernel
theorem dX2_until_9 : decode cX2_until 9 = .ok (.istore_n 2, 1) := by decide +kernel
theorem dX2_until_10 : decode cX2_until 10 = .ok (.aload_n 0, 1) := by decide +kernel
theorem dX2_until_11 : decode cX2_until 11 = .ok (.invokevirtual 140, 3) := by decide +kernel
theorem dX2_until_14 : decode cX2_until 14 = .ok (.iload_n 2, 1) := by decide +kernel
theorem dX2_until_15 : decode cX2_until 15 = .ok (.ireturn, 1) := by decide +kernel
set_option maxRecDepth 20000 in
theorem ggX2_minutesUntilAsleep_X2_isTraveller : GoodIn wsX2_minutesUntilAsleep wsX2_isTraveller := goodIn_r _ [6, 7, 8, 9, 5, 10, 103, 104, 105, 106, 107, 108, 109] (by decide +kernel) (by decide +kernel)
set_option maxRecDepth 20000 in
theorem gX2_minutesUntilAsleep_X2_isTraveller : GoodIn wsX2_minutesUntilAsleep (wsV RX2 105 RX2 yX2_isTraveller wsX2_isTraveller) := goodIn_app (goodIn_of _ (by decide +kernel)) ggX2_minutesUntilAsleep_X2_isTraveller
set_option maxRecDepth 20000 in
theorem ggX2_minutesUntilAsleep_X2_until : GoodIn wsX2_minutesUntilAsleep wsX2_until := goodIn_r _ [14, 15, 16, 17, 5, 18, 19, 20, 21, 22, 23, 24, 25, 26, 27, 28, 29, 30, 31, 32, 33, 34, 35, 36, 37, 7, 38, 39, 40, 41, 42, 43, 44, 45, 46, 47, 48, 49, 50, 51, 52, 53, 54, 55, 56, 57, 58, 59, 60, 61, 62, 63, 64, 65, 66, 67, 68, 69, 70, 71, 72, 73, 74, 75, 76, 77, 78, 79, 80, 81, 82, 83, 84, 85, 86, 87, 88, 89, 90, 91, 92, 93, 94, 95, 96, 97, 98, 103, 104, 105, 106, 107, 108, 109] (by decide +kernel) (by decide +kernel)
set_option maxRecDepth 20000 in
theorem gX2_minutesUntilAsleep_X2_until : GoodIn wsX2_minutesUntilAsleep (wsV RX2 143 RX2 yX2_until wsX2_until) := goodIn_app (goodIn_of _ (by decide +kernel)) ggX2_minutesUntilAsleep_X2_until
set_option maxRecDepth 20000 in
theorem ggX2_minutesUntilAsleep_X2_fail : GoodIn wsX2_minutesUntilAsleep wsX2_fail := goodIn_r _ [102, 1, 103, 104, 105, 106, 107, 108, 109] (by decide +kernel) (by decide +kernel)
set_option maxRecDepth 20000 in
theorem gX2_minutesUntilAsleep_X2_fail : GoodIn wsX2_minutesUntilAsleep (wsV RX2 99 RX2 yX2_fail wsX2_fail) := goodIn_app (goodIn_of _ (by decide +kernel)) ggX2_minutesUntilAsleep_X2_fail
theorem dX2_minutesUntilAsleep_0 : decode cX2_minutesUntilAsleep 0 = .ok (.aload_n 0, 1) := by decide +kernel
theorem dX2_minutesUntilAsleep_1 : decode cX2_minutesUntilAsleep 1 = .ok (.iconst 0, 1) := by decide +kernel
theorem dX2_minutesUntilAsleep_2 : decode cX2_minutesUntilAsleep 2 = .ok (.putfield 26, 3) := by decide +kernel
theorem dX2_minutesUntilAsleep_5 : decode cX2_minutesUntilAsleep 5 = .ok (.aload_n 0, 1) := by decide +kernel
theorem dX2_minutesUntilAsleep_6 : decode cX2_minutesUntilAsleep 6 = .ok (.iload_n 1, 1) := by decide +kernel
theorem dX2_minutesUntilAsleep_7 : decode cX2_minutesUntilAsleep 7 = .ok (.invokevirtual 105, 3) := by decide +kernel
theorem dX2_minutesUntilAsleep_10 : decode cX2_minutesUntilAsleep 10 = .ok (.ifCond .eq 11, 3) := by decide +kernel
theorem dX2_minutesUntilAsleep_13 : decode cX2_minutesUntilAsleep 13 = .ok (.aload_n 0, 1) := by decide +kernel
theorem dX2_minutesUntilAsleep_14 : decode cX2_minutesUntilAsleep 14 = .ok (.iload_n 1, 1) := by decide +kernel
theorem dX2_minutesUntilAsleep_15 : decode cX2_minutesUntilAsleep 15 = .ok (.invokevirtual 143, 3) := by decide +kernel
theorem dX2_minutesUntilAsleep_18 : decode cX2_minutesUntilAsleep 18 = .ok (.goto 8, 3) := by decide +kernel
theorem dX2_minutesUntilAsleep_21 : decode cX2_minutesUntilAsleep 21 = .ok (.aload_n 0, 1) := by decide +kernel
theorem dX2_minutesUntilAsleep_22 : decode cX2_minutesUntilAsleep 22 = .ok (.iconst 1, 1) := by decide +kernel
theorem dX2_minutesUntilAsleep_23 : decode cX2_minutesUntilAsleep 23 = .ok (.invokevirtual 99, 3) := by decide +kernel
theorem dX2_minutesUntilAsleep_26 : decode cX2_minutesUntilAsleep 26 = .ok (.ireturn, 1) := by decide +kernel
set_option maxRecDepth 20000 in
theorem ggX2_sleepers_X2_keep : GoodIn wsX2_sleepers wsX2_keep := goodIn_r _ [5, 6, 7, 8, 9, 10, 11, 91, 92, 93, 94, 95, 96, 97] (by decide +kernel) (by decide +kernel)
set_option maxRecDepth 20000 in
theorem gX2_sleepers_X2_keep : GoodIn wsX2_sleepers (wsV RX2 134 RX2 yX2_keep wsX2_keep) := goodIn_app (goodIn_of _ (by decide +kernel)) ggX2_sleepers_X2_keep
set_option maxRecDepth 20000 in
theorem ggX2_sleepers_X2_minutesOn : GoodIn wsX2_sleepers wsX2_minutesOn := goodIn_r _ [15, 16, 17, 18, 4, 19, 6, 20, 21, 22, 23, 24, 25, 26, 27, 28, 29, 30, 31, 32, 33, 34, 35, 36, 37, 38, 39, 40, 41, 42, 43, 44, 45, 46, 47, 48, 49, 50, 51, 52, 53, 54, 55, 56, 57, 58, 59, 60, 61, 62, 63, 64, 65, 66, 67, 68, 69, 70, 71, 72, 73, 74, 75, 76, 77, 78, 79, 80, 81, 82, 91, 92, 93, 94, 95, 96, 97] (by decide +kernel) (by decide +kernel)
set_option maxRecDepth 20000 in
theorem gX2_sleepers_X2_minutesOn : GoodIn wsX2_sleepers (wsV RX2 119 RX2 yX2_minutesOn wsX2_minutesOn) := goodIn_app (goodIn_of _ (by decide +kernel)) ggX2_sleepers_X2_minutesOn
set_option maxRecDepth 20000 in
theorem ggX2_sleepers_X2_count : GoodIn wsX2_sleepers wsX2_count := goodIn_r _ [86, 21, 30, 31, 32, 4, 33, 6, 91, 92, 93, 94, 95, 96, 97] (by decide +kernel) (by decide +kernel)
set_option maxRecDepth 20000 in
theorem gX2_sleepers_X2_count : GoodIn wsX2_sleepers (wsV RX2 116 RX2 yX2_count wsX2_count) := goodIn_app (goodIn_of _ (by decide +kernel)) ggX2_sleepers_X2_count
set_option maxRecDepth 20000 in
theorem ggX2_sleepers_X2_bringBack : GoodIn wsX2_sleepers wsX2_bringBack := goodIn_r _ [90, 7, 6, 8, 9, 10, 11, 91, 92, 93, 94, 95, 96, 97] (by decide +kernel) (by decide +kernel)
set_option maxRecDepth 20000 in
theorem gX2_sleepers_X2_bringBack : GoodIn wsX2_sleepers (wsV RX2 140 RX2 yX2_bringBack wsX2_bringBack) := goodIn_app (goodIn_of _ (by decide +kernel)) ggX2_sleepers_X2_bringBack
theorem dX2_sleepers_0 : decode cX2_sleepers 0 = .ok (.aload_n 0, 1) := by decide +kernel
theorem dX2_sleepers_1 : decode cX2_sleepers 1 = .ok (.invokevirtual 134, 3) := by decide +kernel
theorem dX2_sleepers_4 : decode cX2_sleepers 4 = .ok (.aload_n 0, 1) := by decide +kernel
theorem dX2_sleepers_5 : decode cX2_sleepers 5 = .ok (.iload_n 1, 1) := by decide +kernel
theorem dX2_sleepers_6 : decode cX2_sleepers 6 = .ok (.invokevirtual 119, 3) := by decide +kernel
theorem dX2_sleepers_9 : decode cX2_sleepers 9 = .ok (.aload_n 0, 1) := by decide +kernel
theorem dX2_sleepers_10 : decode cX2_sleepers 10 = .ok (.iconst 3, 1) := by decide +kernel
theorem dX2_sleepers_11 : decode cX2_sleepers 11 = .ok (.invokevirtual 116, 3) := by decide +kernel
theorem dX2_sleepers_14 : decode cX2_sleepers 14 = .ok (.istore_n 2, 1) := by decide +kernel
theorem dX2_sleepers_15 : decode cX2_sleepers 15 = .ok (.aload_n 0, 1) := by decide +kernel
theorem dX2_sleepers_16 : decode cX2_sleepers 16 = .ok (.invokevirtual 140, 3) := by decide +kernel
theorem dX2_sleepers_19 : decode cX2_sleepers 19 = .ok (.iload_n 2, 1) := by decide +kernel
theorem dX2_sleepers_20 : decode cX2_sleepers 20 = .ok (.ireturn, 1) := by decide +kernel
set_option maxRecDepth 20000 in
theorem ggX2_asleepIn_X2_isIn : GoodIn wsX2_asleepIn wsX2_isIn := goodIn_r _ [5] (by decide +kernel) (by decide +kernel)
set_option maxRecDepth 20000 in
theorem gX2_asleepIn_X2_isIn : GoodIn wsX2_asleepIn (va_wsS RX2 33 yX2_isIn wsX2_isIn) := goodIn_app (goodIn_of _ (by decide +kernel)) ggX2_asleepIn_X2_isIn
set_option maxRecDepth 20000 in
theorem ggX2_asleepIn_X2_sleepers : GoodIn wsX2_asleepIn wsX2_sleepers := goodIn_r _ [9, 10, 11, 12, 4, 13, 14, 15, 16, 17, 18, 19, 20, 21, 22, 23, 24, 25, 26, 27, 28, 29, 30, 31, 32, 33, 34, 35, 36, 37, 38, 39, 40, 41, 42, 43, 44, 45, 46, 47, 48, 49, 50, 51, 52, 53, 54, 55, 56, 57, 58, 59, 60, 61, 62, 63, 64, 65, 66, 67, 68, 69, 70, 71, 72, 73, 74, 75, 76, 77, 78, 79, 80, 81, 82, 83, 84, 85, 86, 87, 88, 89, 90, 91, 92, 93, 94, 95, 96, 97, 98, 103, 104, 105, 106, 107, 108, 109] (by decide +kernel) (by decide +kernel)
set_option maxRecDepth 20000 in
theorem gX2_asleepIn_X2_sleepers : GoodIn wsX2_asleepIn (wsV RX2 146 RX2 yX2_sleepers wsX2_sleepers) := goodIn_app (goodIn_of _ (by decide +kernel)) ggX2_asleepIn_X2_sleepers
set_option maxRecDepth 20000 in
theorem ggX2_asleepIn_X2_fail : GoodIn wsX2_asleepIn wsX2_fail := goodIn_r _ [102, 1, 103, 104, 105, 106, 107, 108, 109] (by decide +kernel) (by decide +kernel)
set_option maxRecDepth 20000 in
theorem gX2_asleepIn_X2_fail : GoodIn wsX2_asleepIn (wsV RX2 99 RX2 yX2_fail wsX2_fail) := goodIn_app (goodIn_of _ (by decide +kernel)) ggX2_asleepIn_X2_fail
theorem dX2_asleepIn_0 : decode cX2_asleepIn 0 = .ok (.aload_n 0, 1) := by decide +kernel
theorem dX2_asleepIn_1 : decode cX2_asleepIn 1 = .ok (.iconst 0, 1) := by decide +kernel
theorem dX2_asleepIn_2 : decode cX2_asleepIn 2 = .ok (.putfield 26, 3) := by decide +kernel
theorem dX2_asleepIn_5 : decode cX2_asleepIn 5 = .ok (.iload_n 1, 1) := by decide +kernel
theorem dX2_asleepIn_6 : decode cX2_asleepIn 6 = .ok (.iconst 1, 1) := by decide +kernel
theorem dX2_asleepIn_7 : decode cX2_asleepIn 7 = .ok (.bipush 60, 2) := by decide +kernel
theorem dX2_asleepIn_9 : decode cX2_asleepIn 9 = .ok (.invokestatic 33, 3) := by decide +kernel
theorem dX2_asleepIn_12 : decode cX2_asleepIn 12 = .ok (.ifCond .eq 11, 3) := by decide +kernel
theorem dX2_asleepIn_15 : decode cX2_asleepIn 15 = .ok (.aload_n 0, 1) := by decide +kernel
theorem dX2_asleepIn_16 : decode cX2_asleepIn 16 = .ok (.iload_n 1, 1) := by decide +kernel
theorem dX2_asleepIn_17 : decode cX2_asleepIn 17 = .ok (.invokevirtual 146, 3) := by decide +kernel
theorem dX2_asleepIn_20 : decode cX2_asleepIn 20 = .ok (.goto 8, 3) := by decide +kernel
theorem dX2_asleepIn_23 : decode cX2_asleepIn 23 = .ok (.aload_n 0, 1) := by decide +kernel
theorem dX2_asleepIn_24 : decode cX2_asleepIn 24 = .ok (.iconst 1, 1) := by decide +kernel
theorem dX2_asleepIn_25 : decode cX2_asleepIn 25 = .ok (.invokevirtual 99, 3) := by decide +kernel
theorem dX2_asleepIn_28 : decode cX2_asleepIn 28 = .ok (.ireturn, 1) := by decide +kernel
set_option maxRecDepth 20000 in
theorem ggX2_bestToDeclare_X2_isTraveller : GoodIn wsX2_bestToDeclare wsX2_isTraveller := goodIn_r _ [6, 7, 8, 9, 5, 10, 99, 100, 101, 102, 103, 104, 105] (by decide +kernel) (by decide +kernel)
set_option maxRecDepth 20000 in
theorem gX2_bestToDeclare_X2_isTraveller : GoodIn wsX2_bestToDeclare (wsV RX2 105 RX2 yX2_isTraveller wsX2_isTraveller) := goodIn_app (goodIn_of _ (by decide +kernel)) ggX2_bestToDeclare_X2_isTraveller
set_option maxRecDepth 20000 in
theorem ggX2_bestToDeclare_X2_fail : GoodIn wsX2_bestToDeclare wsX2_fail := goodIn_r _ [14, 1, 99, 100, 101, 102, 103, 104, 105] (by decide +kernel) (by decide +kernel)
set_option maxRecDepth 20000 in
theorem gX2_bestToDeclare_X2_fail : GoodIn wsX2_bestToDeclare (wsV RX2 99 RX2 yX2_fail wsX2_fail) := goodIn_app (goodIn_of _ (by decide +kernel)) ggX2_bestToDeclare_X2_fail
set_option maxRecDepth 20000 in
theorem ggX2_bestToDeclare_X2_tr : GoodIn wsX2_bestToDeclare wsX2_tr := goodIn_r _ [18, 19, 99, 100, 101, 102, 103, 104, 105] (by decide +kernel) (by decide +kernel)
set_option maxRecDepth 20000 in
theorem gX2_bestToDeclare_X2_tr : GoodIn wsX2_bestToDeclare (wsV RX2 43 RX2 yX2_tr wsX2_tr) := goodIn_app (goodIn_of _ (by decide +kernel)) ggX2_bestToDeclare_X2_tr
set_option maxRecDepth 20000 in
theorem ggX2_bestToDeclare_X2_keep : GoodIn wsX2_bestToDeclare wsX2_keep := goodIn_r _ [23, 19, 24, 25, 26, 27, 28, 99, 100, 101, 102, 103, 104, 105] (by decide +kernel) (by decide +kernel)
set_option maxRecDepth 20000 in
theorem gX2_bestToDeclare_X2_keep : GoodIn wsX2_bestToDeclare (wsV RX2 134 RX2 yX2_keep wsX2_keep) := goodIn_app (goodIn_of _ (by decide +kernel)) ggX2_bestToDeclare_X2_keep
set_option maxRecDepth 20000 in
theorem ggX2_bestToDeclare_X2_let : GoodIn wsX2_bestToDeclare wsX2_let := goodIn_r _ [32, 19, 99, 100, 101, 102, 103, 104, 105] (by decide +kernel) (by decide +kernel)
set_option maxRecDepth 20000 in
theorem gX2_bestToDeclare_X2_let : GoodIn wsX2_bestToDeclare (wsV RX2 63 RX2 yX2_let wsX2_let) := goodIn_app (goodIn_of _ (by decide +kernel)) ggX2_bestToDeclare_X2_let
set_option maxRecDepth 20000 in
theorem ggX2_bestToDeclare_X2_run : GoodIn wsX2_bestToDeclare wsX2_run := goodIn_r _ [36, 15, 16, 17, 5, 18, 19, 37, 38, 39, 40, 41, 7, 42, 43, 44, 45, 46, 47, 48, 49, 29, 30, 31, 32, 50, 51, 52, 53, 54, 55, 56, 57, 58, 59, 60, 61, 62, 63, 64, 65, 66, 67, 68, 69, 70, 71, 72, 73, 74, 75, 76, 77, 78, 79, 80, 81, 82, 83, 84, 85, 86, 87, 88, 89, 90, 91, 92, 93, 94, 99, 100, 101, 102, 103, 104, 105] (by decide +kernel) (by decide +kernel)
set_option maxRecDepth 20000 in
theorem gX2_bestToDeclare_X2_run : GoodIn wsX2_bestToDeclare (wsV RX2 137 RX2 yX2_run wsX2_run) := goodIn_app (goodIn_of _ (by decide +kernel)) ggX2_bestToDeclare_X2_run
set_option maxRecDepth 20000 in
theorem ggX2_bestToDeclare_X2_bringBack : GoodIn wsX2_bestToDeclare wsX2_bringBack := goodIn_r _ [98, 24, 19, 25, 26, 27, 28, 99, 100, 101, 102, 103, 104, 105] (by decide +kernel) (by decide +kernel)
set_option maxRecDepth 20000 in
theorem gX2_bestToDeclare_X2_bringBack : GoodIn wsX2_bestToDeclare (wsV RX2 140 RX2 yX2_bringBack wsX2_bringBack) := goodIn_app (goodIn_of _ (by decide +kernel)) ggX2_bestToDeclare_X2_bringBack
theorem dX2_bestToDeclare_0 : decode cX2_bestToDeclare 0 = .ok (.aload_n 0, 1) := by decide +kernel
theorem dX2_bestToDeclare_1 : decode cX2_bestToDeclare 1 = .ok (.iconst 0, 1) := by decide +kernel
theorem dX2_bestToDeclare_2 : decode cX2_bestToDeclare 2 = .ok (.putfield 26, 3) := by decide +kernel
theorem dX2_bestToDeclare_5 : decode cX2_bestToDeclare 5 = .ok (.aload_n 0, 1) := by decide +kernel
theorem dX2_bestToDeclare_6 : decode cX2_bestToDeclare 6 = .ok (.iload_n 1, 1) := by decide +kernel
theorem dX2_bestToDeclare_7 : decode cX2_bestToDeclare 7 = .ok (.invokevirtual 105, 3) := by decide +kernel
theorem dX2_bestToDeclare_10 : decode cX2_bestToDeclare 10 = .ok (.ifCond .ne 9, 3) := by decide +kernel
theorem dX2_bestToDeclare_13 : decode cX2_bestToDeclare 13 = .ok (.aload_n 0, 1) := by decide +kernel
theorem dX2_bestToDeclare_14 : decode cX2_bestToDeclare 14 = .ok (.iconst 1, 1) := by decide +kernel
theorem dX2_bestToDeclare_15 : decode cX2_bestToDeclare 15 = .ok (.invokevirtual 99, 3) := by decide +kernel
theorem dX2_bestToDeclare_18 : decode cX2_bestToDeclare 18 = .ok (.ireturn, 1) := by decide +kernel
theorem dX2_bestToDeclare_19 : decode cX2_bestToDeclare 19 = .ok (.aload_n 0, 1) := by decide +kernel
theorem dX2_bestToDeclare_20 : decode cX2_bestToDeclare 20 = .ok (.iload_n 1, 1) := by decide +kernel
theorem dX2_bestToDeclare_21 : decode cX2_bestToDeclare 21 = .ok (.iconst 0, 1) := by decide +kernel
theorem dX2_bestToDeclare_22 : decode cX2_bestToDeclare 22 = .ok (.invokevirtual 43, 3) := by decide +kernel
theorem dX2_bestToDeclare_25 : decode cX2_bestToDeclare 25 = .ok (.ifCond .eq 5, 3) := by decide +kernel
theorem dX2_bestToDeclare_28 : decode cX2_bestToDeclare 28 = .ok (.iconst (-1), 1) := by decide +kernel
theorem dX2_bestToDeclare_29 : decode cX2_bestToDeclare 29 = .ok (.ireturn, 1) := by decide +kernel
theorem dX2_bestToDeclare_30 : decode cX2_bestToDeclare 30 = .ok (.iconst (-1), 1) := by decide +kernel
theorem dX2_bestToDeclare_31 : decode cX2_bestToDeclare 31 = .ok (.istore_n 2, 1) := by decide +kernel
theorem dX2_bestToDeclare_32 : decode cX2_bestToDeclare 32 = .ok (.bipush 101, 2) := by decide +kernel
theorem dX2_bestToDeclare_34 : decode cX2_bestToDeclare 34 = .ok (.istore_n 3, 1) := by decide +kernel
theorem dX2_bestToDeclare_35 : decode cX2_bestToDeclare 35 = .ok (.aload_n 0, 1) := by decide +kernel
theorem dX2_bestToDeclare_36 : decode cX2_bestToDeclare 36 = .ok (.invokevirtual 134, 3) := by decide +kernel
theorem dX2_bestToDeclare_39 : decode cX2_bestToDeclare 39 = .ok (.iconst 0, 1) := by decide +kernel
theorem dX2_bestToDeclare_40 : decode cX2_bestToDeclare 40 = .ok (.istore 4, 2) := by decide +kernel
theorem dX2_bestToDeclare_42 : decode cX2_bestToDeclare 42 = .ok (.iload 4, 2) := by decide +kernel
theorem dX2_bestToDeclare_44 : decode cX2_bestToDeclare 44 = .ok (.bipush 9, 2) := by decide +kernel
theorem dX2_bestToDeclare_46 : decode cX2_bestToDeclare 46 = .ok (.if_icmp .gt 49, 3) := by decide +kernel
theorem dX2_bestToDeclare_49 : decode cX2_bestToDeclare 49 = .ok (.aload_n 0, 1) := by decide +kernel
theorem dX2_bestToDeclare_50 : decode cX2_bestToDeclare 50 = .ok (.iload_n 1, 1) := by decide +kernel
theorem dX2_bestToDeclare_51 : decode cX2_bestToDeclare 51 = .ok (.iconst 2, 1) := by decide +kernel
theorem dX2_bestToDeclare_52 : decode cX2_bestToDeclare 52 = .ok (.iload 4, 2) := by decide +kernel
theorem dX2_bestToDeclare_54 : decode cX2_bestToDeclare 54 = .ok (.invokevirtual 63, 3) := by decide +kernel
theorem dX2_bestToDeclare_57 : decode cX2_bestToDeclare 57 = .ok (.aload_n 0, 1) := by decide +kernel
theorem dX2_bestToDeclare_58 : decode cX2_bestToDeclare 58 = .ok (.iload_n 1, 1) := by decide +kernel
theorem dX2_bestToDeclare_59 : decode cX2_bestToDeclare 59 = .ok (.invokevirtual 137, 3) := by decide +kernel
theorem dX2_bestToDeclare_62 : decode cX2_bestToDeclare 62 = .ok (.istore 5, 2) := by decide +kernel
theorem dX2_bestToDeclare_64 : decode cX2_bestToDeclare 64 = .ok (.aload_n 0, 1) := by decide +kernel
theorem dX2_bestToDeclare_65 : decode cX2_bestToDeclare 65 = .ok (.invokevirtual 140, 3) := by decide +kernel
theorem dX2_bestToDeclare_68 : decode cX2_bestToDeclare 68 = .ok (.iload 5, 2) := by decide +kernel
theorem dX2_bestToDeclare_70 : decode cX2_bestToDeclare 70 = .ok (.iconst (-1), 1) := by decide +kernel
theorem dX2_bestToDeclare_71 : decode cX2_bestToDeclare 71 = .ok (.if_icmp .eq 18, 3) := by decide +kernel
theorem dX2_bestToDeclare_74 : decode cX2_bestToDeclare 74 = .ok (.iload 5, 2) := by decide +kernel
theorem dX2_bestToDeclare_76 : decode cX2_bestToDeclare 76 = .ok (.iload_n 3, 1) := by decide +kernel
theorem dX2_bestToDeclare_77 : decode cX2_bestToDeclare 77 = .ok (.if_icmp .lt 6, 3) := by decide +kernel
theorem dX2_bestToDeclare_80 : decode cX2_bestToDeclare 80 = .ok (.goto 9, 3) := by decide +kernel
theorem dX2_bestToDeclare_83 : decode cX2_bestToDeclare 83 = .ok (.iload 4, 2) := by decide +kernel
theorem dX2_bestToDeclare_85 : decode cX2_bestToDeclare 85 = .ok (.istore_n 2, 1) := by decide +kernel
theorem dX2_bestToDeclare_86 : decode cX2_bestToDeclare 86 = .ok (.iload 5, 2) := by decide +kernel
theorem dX2_bestToDeclare_88 : decode cX2_bestToDeclare 88 = .ok (.istore_n 3, 1) := by decide +kernel
theorem dX2_bestToDeclare_89 : decode cX2_bestToDeclare 89 = .ok (.iinc 4 1, 3) := by decide +kernel
theorem dX2_bestToDeclare_92 : decode cX2_bestToDeclare 92 = .ok (.goto (-50), 3) := by decide +kernel
theorem dX2_bestToDeclare_95 : decode cX2_bestToDeclare 95 = .ok (.iload_n 2, 1) := by decide +kernel
theorem dX2_bestToDeclare_96 : decode cX2_bestToDeclare 96 = .ok (.ireturn, 1) := by decide +kernel
set_option maxRecDepth 20000 in
theorem ggX2_wanted_X2_keep : GoodIn wsX2_wanted wsX2_keep := goodIn_r _ [6, 1, 7, 8, 9, 10, 11, 91, 92, 93, 94, 95, 96, 97] (by decide +kernel) (by decide +kernel)
set_option maxRecDepth 20000 in
theorem gX2_wanted_X2_keep : GoodIn wsX2_wanted (wsV RX2 134 RX2 yX2_keep wsX2_keep) := goodIn_app (goodIn_of _ (by decide +kernel)) ggX2_wanted_X2_keep
set_option maxRecDepth 20000 in
theorem ggX2_wanted_X2_hire : GoodIn wsX2_wanted wsX2_hire := goodIn_r _ [15, 1, 16, 17, 18, 5, 19, 91, 92, 93, 94, 95, 96, 97] (by decide +kernel) (by decide +kernel)
set_option maxRecDepth 20000 in
theorem gX2_wanted_X2_hire : GoodIn wsX2_wanted (wsV RX2 102 RX2 yX2_hire wsX2_hire) := goodIn_app (goodIn_of _ (by decide +kernel)) ggX2_wanted_X2_hire
set_option maxRecDepth 20000 in
theorem ggX2_wanted_X2_minutesOn : GoodIn wsX2_wanted wsX2_minutesOn := goodIn_r _ [23, 24, 25, 26, 5, 27, 1, 28, 29, 30, 31, 32, 33, 34, 35, 36, 37, 38, 39, 40, 41, 42, 43, 44, 45, 46, 47, 48, 49, 50, 51, 52, 53, 54, 55, 56, 57, 58, 59, 60, 61, 16, 17, 18, 19, 62, 63, 64, 65, 66, 67, 68, 69, 70, 71, 72, 73, 74, 75, 76, 77, 78, 79, 80, 81, 82, 83, 84, 85, 86, 91, 92, 93, 94, 95, 96, 97] (by decide +kernel) (by decide +kernel)
set_option maxRecDepth 20000 in
theorem gX2_wanted_X2_minutesOn : GoodIn wsX2_wanted (wsV RX2 119 RX2 yX2_minutesOn wsX2_minutesOn) := goodIn_app (goodIn_of _ (by decide +kernel)) ggX2_wanted_X2_minutesOn
set_option maxRecDepth 20000 in
theorem ggX2_wanted_X2_bringBack : GoodIn wsX2_wanted wsX2_bringBack := goodIn_r _ [90, 7, 1, 8, 9, 10, 11, 91, 92, 93, 94, 95, 96, 97] (by decide +kernel) (by decide +kernel)
set_option maxRecDepth 20000 in
theorem gX2_wanted_X2_bringBack : GoodIn wsX2_wanted (wsV RX2 140 RX2 yX2_bringBack wsX2_bringBack) := goodIn_app (goodIn_of _ (by decide +kernel)) ggX2_wanted_X2_bringBack
theorem dX2_wanted_0 : decode cX2_wanted 0 = .ok (.iconst (-1), 1) := by decide +kernel
theorem dX2_wanted_1 : decode cX2_wanted 1 = .ok (.istore_n 1, 1) := by decide +kernel
theorem dX2_wanted_2 : decode cX2_wanted 2 = .ok (.aload_n 0, 1) := by decide +kernel
theorem dX2_wanted_3 : decode cX2_wanted 3 = .ok (.invokevirtual 134, 3) := by decide +kernel
theorem dX2_wanted_6 : decode cX2_wanted 6 = .ok (.iconst 0, 1) := by decide +kernel
theorem dX2_wanted_7 : decode cX2_wanted 7 = .ok (.istore_n 2, 1) := by decide +kernel
theorem dX2_wanted_8 : decode cX2_wanted 8 = .ok (.iload_n 2, 1) := by decide +kernel
theorem dX2_wanted_9 : decode cX2_wanted 9 = .ok (.iconst 4, 1) := by decide +kernel
theorem dX2_wanted_10 : decode cX2_wanted 10 = .ok (.if_icmp .gt 62, 3) := by decide +kernel
theorem dX2_wanted_13 : decode cX2_wanted 13 = .ok (.iload_n 1, 1) := by decide +kernel
theorem dX2_wanted_14 : decode cX2_wanted 14 = .ok (.iconst (-1), 1) := by decide +kernel
theorem dX2_wanted_15 : decode cX2_wanted 15 = .ok (.if_icmp .ne 57, 3) := by decide +kernel
theorem dX2_wanted_18 : decode cX2_wanted 18 = .ok (.aload_n 0, 1) := by decide +kernel
theorem dX2_wanted_19 : decode cX2_wanted 19 = .ok (.getfield 16, 3) := by decide +kernel
theorem dX2_wanted_22 : decode cX2_wanted 22 = .ok (.iconst 1, 1) := by decide +kernel
theorem dX2_wanted_23 : decode cX2_wanted 23 = .ok (.iaload, 1) := by decide +kernel
theorem dX2_wanted_24 : decode cX2_wanted 24 = .ok (.istore_n 3, 1) := by decide +kernel
theorem dX2_wanted_25 : decode cX2_wanted 25 = .ok (.iconst 0, 1) := by decide +kernel
theorem dX2_wanted_26 : decode cX2_wanted 26 = .ok (.istore 4, 2) := by decide +kernel
theorem dX2_wanted_28 : decode cX2_wanted 28 = .ok (.iload 4, 2) := by decide +kernel
theorem dX2_wanted_30 : decode cX2_wanted 30 = .ok (.iload_n 2, 1) := by decide +kernel
theorem dX2_wanted_31 : decode cX2_wanted 31 = .ok (.if_icmp .ge 13, 3) := by decide +kernel
theorem dX2_wanted_34 : decode cX2_wanted 34 = .ok (.aload_n 0, 1) := by decide +kernel
theorem dX2_wanted_35 : decode cX2_wanted 35 = .ok (.invokevirtual 102, 3) := by decide +kernel
theorem dX2_wanted_38 : decode cX2_wanted 38 = .ok (.iinc 4 1, 3) := by decide +kernel
theorem dX2_wanted_41 : decode cX2_wanted 41 = .ok (.goto (-13), 3) := by decide +kernel
theorem dX2_wanted_44 : decode cX2_wanted 44 = .ok (.aload_n 0, 1) := by decide +kernel
theorem dX2_wanted_45 : decode cX2_wanted 45 = .ok (.bipush 60, 2) := by decide +kernel
theorem dX2_wanted_47 : decode cX2_wanted 47 = .ok (.invokevirtual 119, 3) := by decide +kernel
theorem dX2_wanted_50 : decode cX2_wanted 50 = .ok (.aload_n 0, 1) := by decide +kernel
theorem dX2_wanted_51 : decode cX2_wanted 51 = .ok (.getfield 16, 3) := by decide +kernel
theorem dX2_wanted_54 : decode cX2_wanted 54 = .ok (.iconst 1, 1) := by decide +kernel
theorem dX2_wanted_55 : decode cX2_wanted 55 = .ok (.iaload, 1) := by decide +kernel
theorem dX2_wanted_56 : decode cX2_wanted 56 = .ok (.iload_n 3, 1) := by decide +kernel
theorem dX2_wanted_57 : decode cX2_wanted 57 = .ok (.if_icmp .ne 5, 3) := by decide +kernel
theorem dX2_wanted_60 : decode cX2_wanted 60 = .ok (.iload_n 2, 1) := by decide +kernel
theorem dX2_wanted_61 : decode cX2_wanted 61 = .ok (.istore_n 1, 1) := by decide +kernel
theorem dX2_wanted_62 : decode cX2_wanted 62 = .ok (.aload_n 0, 1) := by decide +kernel
theorem dX2_wanted_63 : decode cX2_wanted 63 = .ok (.invokevirtual 140, 3) := by decide +kernel
theorem dX2_wanted_66 : decode cX2_wanted 66 = .ok (.iinc 2 1, 3) := by decide +kernel
theorem dX2_wanted_69 : decode cX2_wanted 69 = .ok (.goto (-61), 3) := by decide +kernel
theorem dX2_wanted_72 : decode cX2_wanted 72 = .ok (.iload_n 1, 1) := by decide +kernel
theorem dX2_wanted_73 : decode cX2_wanted 73 = .ok (.ireturn, 1) := by decide +kernel
set_option maxRecDepth 20000 in
theorem ggX2_guardsWanted_X2_wanted : GoodIn wsX2_guardsWanted wsX2_wanted := goodIn_r _ [5, 6, 7, 8, 9, 4, 10, 11, 12, 13, 14, 15, 16, 17, 18, 19, 20, 21, 22, 23, 24, 25, 26, 27, 28, 29, 30, 31, 32, 33, 34, 35, 36, 37, 38, 39, 40, 41, 42, 43, 44, 45, 46, 47, 48, 49, 50, 51, 52, 53, 54, 55, 56, 57, 58, 59, 60, 61, 62, 63, 64, 65, 66, 67, 68, 69, 70, 71, 72, 73, 74, 75, 76, 77, 78, 79, 80, 81, 82, 83, 84, 85, 86, 87, 88, 89, 90, 91, 92, 93, 94, 100, 101, 102, 103, 104, 105, 106] (by decide +kernel) (by decide +kernel)
set_option maxRecDepth 20000 in
theorem gX2_guardsWanted_X2_wanted : GoodIn wsX2_guardsWanted (wsV RX2 149 RX2 yX2_wanted wsX2_wanted) := goodIn_app (goodIn_of _ (by decide +kernel)) ggX2_guardsWanted_X2_wanted
set_option maxRecDepth 20000 in
theorem ggX2_guardsWanted_X2_told : GoodIn wsX2_guardsWanted wsX2_told := goodIn_r _ [98, 99, 100, 101, 102, 103, 104, 105, 106] (by decide +kernel) (by decide +kernel)
set_option maxRecDepth 20000 in
theorem gX2_guardsWanted_X2_told : GoodIn wsX2_guardsWanted (wsV RX2 122 RX2 yX2_told wsX2_told) := goodIn_app (goodIn_of _ (by decide +kernel)) ggX2_guardsWanted_X2_told
theorem dX2_guardsWanted_0 : decode cX2_guardsWanted 0 = .ok (.aload_n 0, 1) := by decide +kernel
theorem dX2_guardsWanted_1 : decode cX2_guardsWanted 1 = .ok (.aload_n 0, 1) := by decide +kernel
theorem dX2_guardsWanted_2 : decode cX2_guardsWanted 2 = .ok (.invokevirtual 149, 3) := by decide +kernel
theorem dX2_guardsWanted_5 : decode cX2_guardsWanted 5 = .ok (.invokevirtual 122, 3) := by decide +kernel
theorem dX2_guardsWanted_8 : decode cX2_guardsWanted 8 = .ok (.ireturn, 1) := by decide +kernel
set_option maxRecDepth 20000 in
theorem ggX2_meanAlertness_X2_gu : GoodIn wsX2_meanAlertness wsX2_gu := goodIn_r _ [7, 2, 8, 9, 10, 11, 12, 13, 14] (by decide +kernel) (by decide +kernel)
set_option maxRecDepth 20000 in
theorem gX2_meanAlertness_X2_gu : GoodIn wsX2_meanAlertness (wsV RX2 56 RX2 yX2_gu wsX2_gu) := goodIn_app (goodIn_of _ (by decide +kernel)) ggX2_meanAlertness_X2_gu
theorem dX2_meanAlertness_0 : decode cX2_meanAlertness 0 = .ok (.aload_n 0, 1) := by decide +kernel
theorem dX2_meanAlertness_1 : decode cX2_meanAlertness 1 = .ok (.iconst 0, 1) := by decide +kernel
theorem dX2_meanAlertness_2 : decode cX2_meanAlertness 2 = .ok (.putfield 26, 3) := by decide +kernel
theorem dX2_meanAlertness_5 : decode cX2_meanAlertness 5 = .ok (.iconst 0, 1) := by decide +kernel
theorem dX2_meanAlertness_6 : decode cX2_meanAlertness 6 = .ok (.istore_n 1, 1) := by decide +kernel
theorem dX2_meanAlertness_7 : decode cX2_meanAlertness 7 = .ok (.iconst 0, 1) := by decide +kernel
theorem dX2_meanAlertness_8 : decode cX2_meanAlertness 8 = .ok (.istore_n 2, 1) := by decide +kernel
theorem dX2_meanAlertness_9 : decode cX2_meanAlertness 9 = .ok (.iload_n 2, 1) := by decide +kernel
theorem dX2_meanAlertness_10 : decode cX2_meanAlertness 10 = .ok (.aload_n 0, 1) := by decide +kernel
theorem dX2_meanAlertness_11 : decode cX2_meanAlertness 11 = .ok (.getfield 16, 3) := by decide +kernel
theorem dX2_meanAlertness_14 : decode cX2_meanAlertness 14 = .ok (.iconst 3, 1) := by decide +kernel
theorem dX2_meanAlertness_15 : decode cX2_meanAlertness 15 = .ok (.iaload, 1) := by decide +kernel
theorem dX2_meanAlertness_16 : decode cX2_meanAlertness 16 = .ok (.if_icmp .ge 18, 3) := by decide +kernel
theorem dX2_meanAlertness_19 : decode cX2_meanAlertness 19 = .ok (.iload_n 1, 1) := by decide +kernel
theorem dX2_meanAlertness_20 : decode cX2_meanAlertness 20 = .ok (.aload_n 0, 1) := by decide +kernel
theorem dX2_meanAlertness_21 : decode cX2_meanAlertness 21 = .ok (.iload_n 2, 1) := by decide +kernel
theorem dX2_meanAlertness_22 : decode cX2_meanAlertness 22 = .ok (.iconst 0, 1) := by decide +kernel
theorem dX2_meanAlertness_23 : decode cX2_meanAlertness 23 = .ok (.invokevirtual 56, 3) := by decide +kernel
theorem dX2_meanAlertness_26 : decode cX2_meanAlertness 26 = .ok (.iadd, 1) := by decide +kernel
theorem dX2_meanAlertness_27 : decode cX2_meanAlertness 27 = .ok (.istore_n 1, 1) := by decide +kernel
theorem dX2_meanAlertness_28 : decode cX2_meanAlertness 28 = .ok (.iinc 2 1, 3) := by decide +kernel
theorem dX2_meanAlertness_31 : decode cX2_meanAlertness 31 = .ok (.goto (-22), 3) := by decide +kernel
theorem dX2_meanAlertness_34 : decode cX2_meanAlertness 34 = .ok (.aload_n 0, 1) := by decide +kernel
theorem dX2_meanAlertness_35 : decode cX2_meanAlertness 35 = .ok (.getfield 16, 3) := by decide +kernel
theorem dX2_meanAlertness_38 : decode cX2_meanAlertness 38 = .ok (.iconst 3, 1) := by decide +kernel
theorem dX2_meanAlertness_39 : decode cX2_meanAlertness 39 = .ok (.iaload, 1) := by decide +kernel
theorem dX2_meanAlertness_40 : decode cX2_meanAlertness 40 = .ok (.ifCond .ne 7, 3) := by decide +kernel
theorem dX2_meanAlertness_43 : decode cX2_meanAlertness 43 = .ok (.dconst 0, 1) := by decide +kernel
theorem dX2_meanAlertness_44 : decode cX2_meanAlertness 44 = .ok (.goto 13, 3) := by decide +kernel
theorem dX2_meanAlertness_47 : decode cX2_meanAlertness 47 = .ok (.iload_n 1, 1) := by decide +kernel
theorem dX2_meanAlertness_48 : decode cX2_meanAlertness 48 = .ok (.i2d, 1) := by decide +kernel
theorem dX2_meanAlertness_49 : decode cX2_meanAlertness 49 = .ok (.aload_n 0, 1) := by decide +kernel
theorem dX2_meanAlertness_50 : decode cX2_meanAlertness 50 = .ok (.getfield 16, 3) := by decide +kernel
theorem dX2_meanAlertness_53 : decode cX2_meanAlertness 53 = .ok (.iconst 3, 1) := by decide +kernel
theorem dX2_meanAlertness_54 : decode cX2_meanAlertness 54 = .ok (.iaload, 1) := by decide +kernel
theorem dX2_meanAlertness_55 : decode cX2_meanAlertness 55 = .ok (.i2d, 1) := by decide +kernel
theorem dX2_meanAlertness_56 : decode cX2_meanAlertness 56 = .ok (.ddiv, 1) := by decide +kernel
theorem dX2_meanAlertness_57 : decode cX2_meanAlertness 57 = .ok (.dreturn, 1) := by decide +kernel
set_option maxRecDepth 20000 in
theorem ggX2_digest_X2_count : GoodIn wsX2_digest wsX2_count := goodIn_r _ [11, 4, 12, 13, 14, 10, 15, 3, 123, 124, 125, 126, 127, 128, 129] (by decide +kernel) (by decide +kernel)
set_option maxRecDepth 20000 in
theorem gX2_digest_X2_count : GoodIn wsX2_digest (wsV RX2 116 RX2 yX2_count wsX2_count) := goodIn_app (goodIn_of _ (by decide +kernel)) ggX2_digest_X2_count
set_option maxRecDepth 20000 in
theorem ggX2_digest_X2_loud : GoodIn wsX2_digest wsX2_loud := goodIn_r _ [19, 4, 20, 12, 13, 14, 10, 15, 3, 123, 124, 125, 126, 127, 128, 129] (by decide +kernel) (by decide +kernel)
set_option maxRecDepth 20000 in
theorem gX2_digest_X2_loud : GoodIn wsX2_digest (wsV RX2 59 RX2 yX2_loud wsX2_loud) := goodIn_app (goodIn_of _ (by decide +kernel)) ggX2_digest_X2_loud
set_option maxRecDepth 20000 in
theorem ggX2_digest_X2_first : GoodIn wsX2_digest wsX2_first := goodIn_r _ [24, 4, 12, 13, 14, 10, 15, 3, 123, 124, 125, 126, 127, 128, 129] (by decide +kernel) (by decide +kernel)
set_option maxRecDepth 20000 in
theorem gX2_digest_X2_first : GoodIn wsX2_digest (wsV RX2 74 RX2 yX2_first wsX2_first) := goodIn_app (goodIn_of _ (by decide +kernel)) ggX2_digest_X2_first
set_option maxRecDepth 20000 in
theorem ggX2_digest_X2_alertest : GoodIn wsX2_digest wsX2_alertest := goodIn_r _ [28, 3, 29, 30, 31, 10, 32, 123, 124, 125, 126, 127, 128, 129] (by decide +kernel) (by decide +kernel)
set_option maxRecDepth 20000 in
theorem gX2_digest_X2_alertest : GoodIn wsX2_digest (wsV RX2 131 RX2 yX2_alertest wsX2_alertest) := goodIn_app (goodIn_of _ (by decide +kernel)) ggX2_digest_X2_alertest
set_option maxRecDepth 20000 in
theorem ggX2_digest_X2_sleepers : GoodIn wsX2_digest wsX2_sleepers := goodIn_r _ [36, 37, 38, 39, 10, 40, 3, 41, 42, 43, 44, 45, 46, 47, 48, 49, 50, 51, 52, 53, 54, 4, 29, 30, 31, 32, 55, 56, 57, 58, 12, 13, 14, 15, 59, 60, 61, 62, 63, 64, 65, 66, 67, 68, 69, 70, 71, 72, 73, 74, 21, 22, 23, 24, 75, 76, 77, 78, 79, 80, 81, 82, 16, 17, 18, 19, 20, 83, 84, 85, 86, 87, 88, 89, 90, 91, 92, 93, 94, 95, 96, 97, 98, 7, 8, 9, 11, 99, 100, 101, 102, 123, 124, 125, 126, 127, 128, 129] (by decide +kernel) (by decide +kernel)
set_option maxRecDepth 20000 in
theorem gX2_digest_X2_sleepers : GoodIn wsX2_digest (wsV RX2 146 RX2 yX2_sleepers wsX2_sleepers) := goodIn_app (goodIn_of _ (by decide +kernel)) ggX2_digest_X2_sleepers
set_option maxRecDepth 20000 in
theorem ggX2_digest_X2_wanted : GoodIn wsX2_digest wsX2_wanted := goodIn_r _ [106, 3, 37, 38, 39, 10, 40, 41, 42, 43, 44, 45, 107, 108, 109, 110, 75, 76, 77, 78, 46, 47, 48, 49, 50, 51, 52, 53, 54, 4, 29, 30, 31, 32, 55, 56, 57, 58, 12, 13, 14, 15, 59, 60, 61, 62, 63, 64, 65, 66, 67, 68, 69, 70, 71, 72, 73, 74, 21, 22, 23, 24, 79, 80, 81, 82, 16, 17, 18, 19, 20, 83, 84, 85, 86, 87, 88, 89, 90, 91, 92, 93, 94, 95, 96, 97, 98, 99, 100, 101, 102, 123, 124, 125, 126, 127, 128, 129] (by decide +kernel) (by decide +kernel)
set_option maxRecDepth 20000 in
theorem gX2_digest_X2_wanted : GoodIn wsX2_digest (wsV RX2 149 RX2 yX2_wanted wsX2_wanted) := goodIn_app (goodIn_of _ (by decide +kernel)) ggX2_digest_X2_wanted
set_option maxRecDepth 20000 in
theorem ggX2_digest_X2_tr : GoodIn wsX2_digest wsX2_tr := goodIn_r _ [15, 3, 123, 124, 125, 126, 127, 128, 129] (by decide +kernel) (by decide +kernel)
set_option maxRecDepth 20000 in
theorem gX2_digest_X2_tr : GoodIn wsX2_digest (wsV RX2 43 RX2 yX2_tr wsX2_tr) := goodIn_app (goodIn_of _ (by decide +kernel)) ggX2_digest_X2_tr
set_option maxRecDepth 20000 in
theorem ggX2_digest_X2_hidden : GoodIn wsX2_digest wsX2_hidden := goodIn_r _ [97, 98, 87, 88, 73, 89, 12, 13, 14, 10, 15, 3, 123, 124, 125, 126, 127, 128, 129] (by decide +kernel) (by decide +kernel)
set_option maxRecDepth 20000 in
theorem gX2_digest_X2_hidden : GoodIn wsX2_digest (wsV RX2 52 RX2 yX2_hidden wsX2_hidden) := goodIn_app (goodIn_of _ (by decide +kernel)) ggX2_digest_X2_hidden
set_option maxRecDepth 20000 in
theorem ggX2_digest_X2_place : GoodIn wsX2_digest wsX2_place := goodIn_r _ [114, 12, 13, 14, 10, 15, 3, 123, 124, 125, 126, 127, 128, 129] (by decide +kernel) (by decide +kernel)
set_option maxRecDepth 20000 in
theorem gX2_digest_X2_place : GoodIn wsX2_digest (wsV RX2 125 RX2 yX2_place wsX2_place) := goodIn_app (goodIn_of _ (by decide +kernel)) ggX2_digest_X2_place
set_option maxRecDepth 20000 in
theorem ggX2_digest_X2_takes : GoodIn wsX2_digest wsX2_takes := goodIn_r _ [82, 12, 13, 14, 10, 15, 3, 16, 17, 18, 19, 4, 20, 123, 124, 125, 126, 127, 128, 129] (by decide +kernel) (by decide +kernel)
set_option maxRecDepth 20000 in
theorem gX2_digest_X2_takes : GoodIn wsX2_digest (wsV RX2 80 RX2 yX2_takes wsX2_takes) := goodIn_app (goodIn_of _ (by decide +kernel)) ggX2_digest_X2_takes
set_option maxRecDepth 20000 in
theorem ggX2_digest_X2_until : GoodIn wsX2_digest wsX2_until := goodIn_r _ [118, 37, 38, 39, 10, 40, 3, 41, 42, 43, 44, 45, 119, 120, 121, 122, 12, 13, 14, 15, 50, 51, 52, 53, 54, 4, 29, 30, 31, 32, 55, 56, 57, 58, 59, 60, 61, 62, 63, 64, 65, 66, 67, 68, 69, 70, 71, 72, 73, 74, 21, 22, 23, 24, 75, 76, 77, 78, 79, 80, 81, 82, 16, 17, 18, 19, 20, 83, 84, 85, 86, 87, 88, 89, 90, 91, 92, 93, 94, 95, 96, 97, 98, 99, 100, 101, 102, 123, 124, 125, 126, 127, 128, 129] (by decide +kernel) (by decide +kernel)
set_option maxRecDepth 20000 in
theorem gX2_digest_X2_until : GoodIn wsX2_digest (wsV RX2 143 RX2 yX2_until wsX2_until) := goodIn_app (goodIn_of _ (by decide +kernel)) ggX2_digest_X2_until
set_option maxRecDepth 20000 in
theorem ggX2_digest_X2_gu : GoodIn wsX2_digest wsX2_gu := goodIn_r _ [32, 3, 123, 124, 125, 126, 127, 128, 129] (by decide +kernel) (by decide +kernel)
set_option maxRecDepth 20000 in
theorem gX2_digest_X2_gu : GoodIn wsX2_digest (wsV RX2 56 RX2 yX2_gu wsX2_gu) := goodIn_app (goodIn_of _ (by decide +kernel)) ggX2_digest_X2_gu
theorem dX2_digest_0 : decode cX2_digest 0 = .ok (.aload_n 0, 1) := by decide +kernel
theorem dX2_digest_1 : decode cX2_digest 1 = .ok (.iconst 0, 1) := by decide +kernel
theorem dX2_digest_2 : decode cX2_digest 2 = .ok (.putfield 26, 3) := by decide +kernel
theorem dX2_digest_5 : decode cX2_digest 5 = .ok (.bipush 13, 2) := by decide +kernel
theorem dX2_digest_7 : decode cX2_digest 7 = .ok (.newarray .int, 2) := by decide +kernel
theorem dX2_digest_9 : decode cX2_digest 9 = .ok (.dup, 1) := by decide +kernel
theorem dX2_digest_10 : decode cX2_digest 10 = .ok (.iconst 0, 1) := by decide +kernel
theorem dX2_digest_11 : decode cX2_digest 11 = .ok (.aload_n 0, 1) := by decide +kernel
theorem dX2_digest_12 : decode cX2_digest 12 = .ok (.getfield 16, 3) := by decide +kernel
theorem dX2_digest_15 : decode cX2_digest 15 = .ok (.iconst 0, 1) := by decide +kernel
theorem dX2_digest_16 : decode cX2_digest 16 = .ok (.iaload, 1) := by decide +kernel
theorem dX2_digest_17 : decode cX2_digest 17 = .ok (.iastore, 1) := by decide +kernel
theorem dX2_digest_18 : decode cX2_digest 18 = .ok (.dup, 1) := by decide +kernel
theorem dX2_digest_19 : decode cX2_digest 19 = .ok (.iconst 1, 1) := by decide +kernel
theorem dX2_digest_20 : decode cX2_digest 20 = .ok (.aload_n 0, 1) := by decide +kernel
theorem dX2_digest_21 : decode cX2_digest 21 = .ok (.getfield 30, 3) := by decide +kernel
theorem dX2_digest_24 : decode cX2_digest 24 = .ok (.iastore, 1) := by decide +kernel
theorem dX2_digest_25 : decode cX2_digest 25 = .ok (.dup, 1) := by decide +kernel
theorem dX2_digest_26 : decode cX2_digest 26 = .ok (.iconst 2, 1) := by decide +kernel
theorem dX2_digest_27 : decode cX2_digest 27 = .ok (.aload_n 0, 1) := by decide +kernel
theorem dX2_digest_28 : decode cX2_digest 28 = .ok (.iconst 0, 1) := by decide +kernel
theorem dX2_digest_29 : decode cX2_digest 29 = .ok (.invokevirtual 116, 3) := by decide +kernel
theorem dX2_digest_32 : decode cX2_digest 32 = .ok (.iastore, 1) := by decide +kernel
theorem dX2_digest_33 : decode cX2_digest 33 = .ok (.dup, 1) := by decide +kernel
theorem dX2_digest_34 : decode cX2_digest 34 = .ok (.iconst 3, 1) := by decide +kernel
theorem dX2_digest_35 : decode cX2_digest 35 = .ok (.aload_n 0, 1) := by decide +kernel
theorem dX2_digest_36 : decode cX2_digest 36 = .ok (.iconst 3, 1) := by decide +kernel
theorem dX2_digest_37 : decode cX2_digest 37 = .ok (.invokevirtual 116, 3) := by decide +kernel
theorem dX2_digest_40 : decode cX2_digest 40 = .ok (.iastore, 1) := by decide +kernel
theorem dX2_digest_41 : decode cX2_digest 41 = .ok (.dup, 1) := by decide +kernel
theorem dX2_digest_42 : decode cX2_digest 42 = .ok (.iconst 4, 1) := by decide +kernel
theorem dX2_digest_43 : decode cX2_digest 43 = .ok (.aload_n 0, 1) := by decide +kernel
theorem dX2_digest_44 : decode cX2_digest 44 = .ok (.iconst 4, 1) := by decide +kernel
theorem dX2_digest_45 : decode cX2_digest 45 = .ok (.invokevirtual 116, 3) := by decide +kernel
theorem dX2_digest_48 : decode cX2_digest 48 = .ok (.iastore, 1) := by decide +kernel
theorem dX2_digest_49 : decode cX2_digest 49 = .ok (.dup, 1) := by decide +kernel
theorem dX2_digest_50 : decode cX2_digest 50 = .ok (.iconst 5, 1) := by decide +kernel
theorem dX2_digest_51 : decode cX2_digest 51 = .ok (.aload_n 0, 1) := by decide +kernel
theorem dX2_digest_52 : decode cX2_digest 52 = .ok (.getfield 16, 3) := by decide +kernel
theorem dX2_digest_55 : decode cX2_digest 55 = .ok (.iconst 1, 1) := by decide +kernel
theorem dX2_digest_56 : decode cX2_digest 56 = .ok (.iaload, 1) := by decide +kernel
theorem dX2_digest_57 : decode cX2_digest 57 = .ok (.iastore, 1) := by decide +kernel
theorem dX2_digest_58 : decode cX2_digest 58 = .ok (.dup, 1) := by decide +kernel
theorem dX2_digest_59 : decode cX2_digest 59 = .ok (.bipush 6, 2) := by decide +kernel
theorem dX2_digest_61 : decode cX2_digest 61 = .ok (.aload_n 0, 1) := by decide +kernel
theorem dX2_digest_62 : decode cX2_digest 62 = .ok (.getfield 16, 3) := by decide +kernel
theorem dX2_digest_65 : decode cX2_digest 65 = .ok (.iconst 2, 1) := by decide +kernel
theorem dX2_digest_66 : decode cX2_digest 66 = .ok (.iaload, 1) := by decide +kernel
theorem dX2_digest_67 : decode cX2_digest 67 = .ok (.iastore, 1) := by decide +kernel
theorem dX2_digest_68 : decode cX2_digest 68 = .ok (.dup, 1) := by decide +kernel
theorem dX2_digest_69 : decode cX2_digest 69 = .ok (.bipush 7, 2) := by decide +kernel
theorem dX2_digest_71 : decode cX2_digest 71 = .ok (.aload_n 0, 1) := by decide +kernel
theorem dX2_digest_72 : decode cX2_digest 72 = .ok (.invokevirtual 59, 3) := by decide +kernel
theorem dX2_digest_75 : decode cX2_digest 75 = .ok (.iastore, 1) := by decide +kernel
theorem dX2_digest_76 : decode cX2_digest 76 = .ok (.dup, 1) := by decide +kernel
theorem dX2_digest_77 : decode cX2_digest 77 = .ok (.bipush 8, 2) := by decide +kernel
theorem dX2_digest_79 : decode cX2_digest 79 = .ok (.aload_n 0, 1) := by decide +kernel
theorem dX2_digest_80 : decode cX2_digest 80 = .ok (.invokevirtual 74, 3) := by decide +kernel
theorem dX2_digest_83 : decode cX2_digest 83 = .ok (.iastore, 1) := by decide +kernel
theorem dX2_digest_84 : decode cX2_digest 84 = .ok (.dup, 1) := by decide +kernel
theorem dX2_digest_85 : decode cX2_digest 85 = .ok (.bipush 9, 2) := by decide +kernel
theorem dX2_digest_87 : decode cX2_digest 87 = .ok (.aload_n 0, 1) := by decide +kernel
theorem dX2_digest_88 : decode cX2_digest 88 = .ok (.getfield 16, 3) := by decide +kernel
theorem dX2_digest_91 : decode cX2_digest 91 = .ok (.iconst 3, 1) := by decide +kernel
theorem dX2_digest_92 : decode cX2_digest 92 = .ok (.iaload, 1) := by decide +kernel
theorem dX2_digest_93 : decode cX2_digest 93 = .ok (.iastore, 1) := by decide +kernel
theorem dX2_digest_94 : decode cX2_digest 94 = .ok (.dup, 1) := by decide +kernel
theorem dX2_digest_95 : decode cX2_digest 95 = .ok (.bipush 10, 2) := by decide +kernel
theorem dX2_digest_97 : decode cX2_digest 97 = .ok (.aload_n 0, 1) := by decide +kernel
theorem dX2_digest_98 : decode cX2_digest 98 = .ok (.invokevirtual 131, 3) := by decide +kernel
theorem dX2_digest_101 : decode cX2_digest 101 = .ok (.iastore, 1) := by decide +kernel
theorem dX2_digest_102 : decode cX2_digest 102 = .ok (.dup, 1) := by decide +kernel
theorem dX2_digest_103 : decode cX2_digest 103 = .ok (.bipush 11, 2) := by decide +kernel
theorem dX2_digest_105 : decode cX2_digest 105 = .ok (.aload_n 0, 1) := by decide +kernel
theorem dX2_digest_106 : decode cX2_digest 106 = .ok (.bipush 30, 2) := by decide +kernel
theorem dX2_digest_108 : decode cX2_digest 108 = .ok (.invokevirtual 146, 3) := by decide +kernel
theorem dX2_digest_111 : decode cX2_digest 111 = .ok (.iastore, 1) := by decide +kernel
theorem dX2_digest_112 : decode cX2_digest 112 = .ok (.dup, 1) := by decide +kernel
theorem dX2_digest_113 : decode cX2_digest 113 = .ok (.bipush 12, 2) := by decide +kernel
theorem dX2_digest_115 : decode cX2_digest 115 = .ok (.aload_n 0, 1) := by decide +kernel
theorem dX2_digest_116 : decode cX2_digest 116 = .ok (.invokevirtual 149, 3) := by decide +kernel
theorem dX2_digest_119 : decode cX2_digest 119 = .ok (.iastore, 1) := by decide +kernel
theorem dX2_digest_120 : decode cX2_digest 120 = .ok (.astore_n 1, 1) := by decide +kernel
theorem dX2_digest_121 : decode cX2_digest 121 = .ok (.ldc2_w 152, 3) := by decide +kernel
theorem dX2_digest_124 : decode cX2_digest 124 = .ok (.lstore_n 2, 1) := by decide +kernel
theorem dX2_digest_125 : decode cX2_digest 125 = .ok (.aload_n 1, 1) := by decide +kernel
theorem dX2_digest_126 : decode cX2_digest 126 = .ok (.astore 4, 2) := by decide +kernel
theorem dX2_digest_128 : decode cX2_digest 128 = .ok (.aload 4, 2) := by decide +kernel
theorem dX2_digest_130 : decode cX2_digest 130 = .ok (.arraylength, 1) := by decide +kernel
theorem dX2_digest_131 : decode cX2_digest 131 = .ok (.istore 5, 2) := by decide +kernel
theorem dX2_digest_133 : decode cX2_digest 133 = .ok (.iconst 0, 1) := by decide +kernel
theorem dX2_digest_134 : decode cX2_digest 134 = .ok (.istore 6, 2) := by decide +kernel
theorem dX2_digest_136 : decode cX2_digest 136 = .ok (.iload 6, 2) := by decide +kernel
theorem dX2_digest_138 : decode cX2_digest 138 = .ok (.iload 5, 2) := by decide +kernel
theorem dX2_digest_140 : decode cX2_digest 140 = .ok (.if_icmp .ge 26, 3) := by decide +kernel
theorem dX2_digest_143 : decode cX2_digest 143 = .ok (.aload 4, 2) := by decide +kernel
theorem dX2_digest_145 : decode cX2_digest 145 = .ok (.iload 6, 2) := by decide +kernel
theorem dX2_digest_147 : decode cX2_digest 147 = .ok (.iaload, 1) := by decide +kernel
theorem dX2_digest_148 : decode cX2_digest 148 = .ok (.istore 7, 2) := by decide +kernel
theorem dX2_digest_150 : decode cX2_digest 150 = .ok (.lload_n 2, 1) := by decide +kernel
theorem dX2_digest_151 : decode cX2_digest 151 = .ok (.ldc2_w 154, 3) := by decide +kernel
theorem dX2_digest_154 : decode cX2_digest 154 = .ok (.lmul, 1) := by decide +kernel
theorem dX2_digest_155 : decode cX2_digest 155 = .ok (.iload 7, 2) := by decide +kernel
theorem dX2_digest_157 : decode cX2_digest 157 = .ok (.i2l, 1) := by decide +kernel
theorem dX2_digest_158 : decode cX2_digest 158 = .ok (.ladd, 1) := by decide +kernel
theorem dX2_digest_159 : decode cX2_digest 159 = .ok (.lstore_n 2, 1) := by decide +kernel
theorem dX2_digest_160 : decode cX2_digest 160 = .ok (.iinc 6 1, 3) := by decide +kernel
theorem dX2_digest_163 : decode cX2_digest 163 = .ok (.goto (-27), 3) := by decide +kernel
theorem dX2_digest_166 : decode cX2_digest 166 = .ok (.iconst 0, 1) := by decide +kernel
theorem dX2_digest_167 : decode cX2_digest 167 = .ok (.istore 4, 2) := by decide +kernel
theorem dX2_digest_169 : decode cX2_digest 169 = .ok (.iload 4, 2) := by decide +kernel
theorem dX2_digest_171 : decode cX2_digest 171 = .ok (.aload_n 0, 1) := by decide +kernel
theorem dX2_digest_172 : decode cX2_digest 172 = .ok (.getfield 30, 3) := by decide +kernel
theorem dX2_digest_175 : decode cX2_digest 175 = .ok (.if_icmp .ge 113, 3) := by decide +kernel
theorem dX2_digest_178 : decode cX2_digest 178 = .ok (.bipush 6, 2) := by decide +kernel
theorem dX2_digest_180 : decode cX2_digest 180 = .ok (.newarray .int, 2) := by decide +kernel
theorem dX2_digest_182 : decode cX2_digest 182 = .ok (.dup, 1) := by decide +kernel
theorem dX2_digest_183 : decode cX2_digest 183 = .ok (.iconst 0, 1) := by decide +kernel
theorem dX2_digest_184 : decode cX2_digest 184 = .ok (.aload_n 0, 1) := by decide +kernel
theorem dX2_digest_185 : decode cX2_digest 185 = .ok (.iload 4, 2) := by decide +kernel
theorem dX2_digest_187 : decode cX2_digest 187 = .ok (.iconst 0, 1) := by decide +kernel
theorem dX2_digest_188 : decode cX2_digest 188 = .ok (.invokevirtual 43, 3) := by decide +kernel
theorem dX2_digest_191 : decode cX2_digest 191 = .ok (.iastore, 1) := by decide +kernel
theorem dX2_digest_192 : decode cX2_digest 192 = .ok (.dup, 1) := by decide +kernel
theorem dX2_digest_193 : decode cX2_digest 193 = .ok (.iconst 1, 1) := by decide +kernel
theorem dX2_digest_194 : decode cX2_digest 194 = .ok (.aload_n 0, 1) := by decide +kernel
theorem dX2_digest_195 : decode cX2_digest 195 = .ok (.iload 4, 2) := by decide +kernel
theorem dX2_digest_197 : decode cX2_digest 197 = .ok (.invokevirtual 52, 3) := by decide +kernel
theorem dX2_digest_200 : decode cX2_digest 200 = .ok (.iastore, 1) := by decide +kernel
theorem dX2_digest_201 : decode cX2_digest 201 = .ok (.dup, 1) := by decide +kernel
theorem dX2_digest_202 : decode cX2_digest 202 = .ok (.iconst 2, 1) := by decide +kernel
theorem dX2_digest_203 : decode cX2_digest 203 = .ok (.aload_n 0, 1) := by decide +kernel
theorem dX2_digest_204 : decode cX2_digest 204 = .ok (.iload 4, 2) := by decide +kernel
theorem dX2_digest_206 : decode cX2_digest 206 = .ok (.iconst 1, 1) := by decide +kernel
theorem dX2_digest_207 : decode cX2_digest 207 = .ok (.invokevirtual 43, 3) := by decide +kernel
theorem dX2_digest_210 : decode cX2_digest 210 = .ok (.iastore, 1) := by decide +kernel
theorem dX2_digest_211 : decode cX2_digest 211 = .ok (.dup, 1) := by decide +kernel
theorem dX2_digest_212 : decode cX2_digest 212 = .ok (.iconst 3, 1) := by decide +kernel
theorem dX2_digest_213 : decode cX2_digest 213 = .ok (.aload_n 0, 1) := by decide +kernel
theorem dX2_digest_214 : decode cX2_digest 214 = .ok (.iload 4, 2) := by decide +kernel
theorem dX2_digest_216 : decode cX2_digest 216 = .ok (.invokevirtual 125, 3) := by decide +kernel
theorem dX2_digest_219 : decode cX2_digest 219 = .ok (.iastore, 1) := by decide +kernel
theorem dX2_digest_220 : decode cX2_digest 220 = .ok (.dup, 1) := by decide +kernel
theorem dX2_digest_221 : decode cX2_digest 221 = .ok (.iconst 4, 1) := by decide +kernel
theorem dX2_digest_222 : decode cX2_digest 222 = .ok (.aload_n 0, 1) := by decide +kernel
theorem dX2_digest_223 : decode cX2_digest 223 = .ok (.iload 4, 2) := by decide +kernel
theorem dX2_digest_225 : decode cX2_digest 225 = .ok (.invokevirtual 80, 3) := by decide +kernel
theorem dX2_digest_228 : decode cX2_digest 228 = .ok (.iastore, 1) := by decide +kernel
theorem dX2_digest_229 : decode cX2_digest 229 = .ok (.dup, 1) := by decide +kernel
theorem dX2_digest_230 : decode cX2_digest 230 = .ok (.iconst 5, 1) := by decide +kernel
theorem dX2_digest_231 : decode cX2_digest 231 = .ok (.aload_n 0, 1) := by decide +kernel
theorem dX2_digest_232 : decode cX2_digest 232 = .ok (.iload 4, 2) := by decide +kernel
theorem dX2_digest_234 : decode cX2_digest 234 = .ok (.invokevirtual 143, 3) := by decide +kernel
theorem dX2_digest_237 : decode cX2_digest 237 = .ok (.iastore, 1) := by decide +kernel
theorem dX2_digest_238 : decode cX2_digest 238 = .ok (.astore 5, 2) := by decide +kernel
theorem dX2_digest_240 : decode cX2_digest 240 = .ok (.aload 5, 2) := by decide +kernel
theorem dX2_digest_242 : decode cX2_digest 242 = .ok (.astore 6, 2) := by decide +kernel
theorem dX2_digest_244 : decode cX2_digest 244 = .ok (.aload 6, 2) := by decide +kernel
theorem dX2_digest_246 : decode cX2_digest 246 = .ok (.arraylength, 1) := by decide +kernel
theorem dX2_digest_247 : decode cX2_digest 247 = .ok (.istore 7, 2) := by decide +kernel
theorem dX2_digest_249 : decode cX2_digest 249 = .ok (.iconst 0, 1) := by decide +kernel
theorem dX2_digest_250 : decode cX2_digest 250 = .ok (.istore 8, 2) := by decide +kernel
theorem dX2_digest_252 : decode cX2_digest 252 = .ok (.iload 8, 2) := by decide +kernel
theorem dX2_digest_254 : decode cX2_digest 254 = .ok (.iload 7, 2) := by decide +kernel
theorem dX2_digest_256 : decode cX2_digest 256 = .ok (.if_icmp .ge 26, 3) := by decide +kernel
theorem dX2_digest_259 : decode cX2_digest 259 = .ok (.aload 6, 2) := by decide +kernel
theorem dX2_digest_261 : decode cX2_digest 261 = .ok (.iload 8, 2) := by decide +kernel
theorem dX2_digest_263 : decode cX2_digest 263 = .ok (.iaload, 1) := by decide +kernel
theorem dX2_digest_264 : decode cX2_digest 264 = .ok (.istore 9, 2) := by decide +kernel
theorem dX2_digest_266 : decode cX2_digest 266 = .ok (.lload_n 2, 1) := by decide +kernel
theorem dX2_digest_267 : decode cX2_digest 267 = .ok (.ldc2_w 154, 3) := by decide +kernel
theorem dX2_digest_270 : decode cX2_digest 270 = .ok (.lmul, 1) := by decide +kernel
theorem dX2_digest_271 : decode cX2_digest 271 = .ok (.iload 9, 2) := by decide +kernel
theorem dX2_digest_273 : decode cX2_digest 273 = .ok (.i2l, 1) := by decide +kernel
theorem dX2_digest_274 : decode cX2_digest 274 = .ok (.ladd, 1) := by decide +kernel
theorem dX2_digest_275 : decode cX2_digest 275 = .ok (.lstore_n 2, 1) := by decide +kernel
theorem dX2_digest_276 : decode cX2_digest 276 = .ok (.iinc 8 1, 3) := by decide +kernel
theorem dX2_digest_279 : decode cX2_digest 279 = .ok (.goto (-27), 3) := by decide +kernel
theorem dX2_digest_282 : decode cX2_digest 282 = .ok (.iinc 4 1, 3) := by decide +kernel
theorem dX2_digest_285 : decode cX2_digest 285 = .ok (.goto (-116), 3) := by decide +kernel
theorem dX2_digest_288 : decode cX2_digest 288 = .ok (.iconst 0, 1) := by decide +kernel
theorem dX2_digest_289 : decode cX2_digest 289 = .ok (.istore 4, 2) := by decide +kernel
theorem dX2_digest_291 : decode cX2_digest 291 = .ok (.iload 4, 2) := by decide +kernel
theorem dX2_digest_293 : decode cX2_digest 293 = .ok (.aload_n 0, 1) := by decide +kernel
theorem dX2_digest_294 : decode cX2_digest 294 = .ok (.getfield 16, 3) := by decide +kernel
theorem dX2_digest_297 : decode cX2_digest 297 = .ok (.iconst 3, 1) := by decide +kernel
theorem dX2_digest_298 : decode cX2_digest 298 = .ok (.iaload, 1) := by decide +kernel
theorem dX2_digest_299 : decode cX2_digest 299 = .ok (.if_icmp .ge 40, 3) := by decide +kernel
theorem dX2_digest_302 : decode cX2_digest 302 = .ok (.iconst 0, 1) := by decide +kernel
theorem dX2_digest_303 : decode cX2_digest 303 = .ok (.istore 5, 2) := by decide +kernel
theorem dX2_digest_305 : decode cX2_digest 305 = .ok (.iload 5, 2) := by decide +kernel
theorem dX2_digest_307 : decode cX2_digest 307 = .ok (.iconst 3, 1) := by decide +kernel
theorem dX2_digest_308 : decode cX2_digest 308 = .ok (.if_icmp .ge 25, 3) := by decide +kernel
theorem dX2_digest_311 : decode cX2_digest 311 = .ok (.lload_n 2, 1) := by decide +kernel
theorem dX2_digest_312 : decode cX2_digest 312 = .ok (.ldc2_w 154, 3) := by decide +kernel
theorem dX2_digest_315 : decode cX2_digest 315 = .ok (.lmul, 1) := by decide +kernel
theorem dX2_digest_316 : decode cX2_digest 316 = .ok (.aload_n 0, 1) := by decide +kernel
theorem dX2_digest_317 : decode cX2_digest 317 = .ok (.iload 4, 2) := by decide +kernel
theorem dX2_digest_319 : decode cX2_digest 319 = .ok (.iload 5, 2) := by decide +kernel
theorem dX2_digest_321 : decode cX2_digest 321 = .ok (.invokevirtual 56, 3) := by decide +kernel
theorem dX2_digest_324 : decode cX2_digest 324 = .ok (.i2l, 1) := by decide +kernel
theorem dX2_digest_325 : decode cX2_digest 325 = .ok (.ladd, 1) := by decide +kernel
theorem dX2_digest_326 : decode cX2_digest 326 = .ok (.lstore_n 2, 1) := by decide +kernel
theorem dX2_digest_327 : decode cX2_digest 327 = .ok (.iinc 5 1, 3) := by decide +kernel
theorem dX2_digest_330 : decode cX2_digest 330 = .ok (.goto (-25), 3) := by decide +kernel
theorem dX2_digest_333 : decode cX2_digest 333 = .ok (.iinc 4 1, 3) := by decide +kernel
theorem dX2_digest_336 : decode cX2_digest 336 = .ok (.goto (-45), 3) := by decide +kernel
theorem dX2_digest_339 : decode cX2_digest 339 = .ok (.lload_n 2, 1) := by decide +kernel
theorem dX2_digest_340 : decode cX2_digest 340 = .ok (.lreturn, 1) := by decide +kernel
theorem dJ9_max_7cf53_0 : decode cJ9_max_7cf53 0 = .ok (.iload_n 0, 1) := by decide +kernel
theorem dJ9_max_7cf53_1 : decode cJ9_max_7cf53 1 = .ok (.iload_n 1, 1) := by decide +kernel
theorem dJ9_max_7cf53_2 : decode cJ9_max_7cf53 2 = .ok (.if_icmp .lt 7, 3) := by decide +kernel
theorem dJ9_max_7cf53_5 : decode cJ9_max_7cf53 5 = .ok (.iload_n 0, 1) := by decide +kernel
theorem dJ9_max_7cf53_6 : decode cJ9_max_7cf53 6 = .ok (.goto 4, 3) := by decide +kernel
theorem dJ9_max_7cf53_9 : decode cJ9_max_7cf53 9 = .ok (.iload_n 1, 1) := by decide +kernel
theorem dJ9_max_7cf53_10 : decode cJ9_max_7cf53 10 = .ok (.ireturn, 1) := by decide +kernel
theorem dJ9_min_7cf53_0 : decode cJ9_min_7cf53 0 = .ok (.iload_n 0, 1) := by decide +kernel
theorem dJ9_min_7cf53_1 : decode cJ9_min_7cf53 1 = .ok (.iload_n 1, 1) := by decide +kernel
theorem dJ9_min_7cf53_2 : decode cJ9_min_7cf53 2 = .ok (.if_icmp .gt 7, 3) := by decide +kernel
theorem dJ9_min_7cf53_5 : decode cJ9_min_7cf53 5 = .ok (.iload_n 0, 1) := by decide +kernel
theorem dJ9_min_7cf53_6 : decode cJ9_min_7cf53 6 = .ok (.goto 4, 3) := by decide +kernel
theorem dJ9_min_7cf53_9 : decode cJ9_min_7cf53 9 = .ok (.iload_n 1, 1) := by decide +kernel
theorem dJ9_min_7cf53_10 : decode cJ9_min_7cf53 10 = .ok (.ireturn, 1) := by decide +kernel
end
section
set_option maxRecDepth 20000 in
theorem ggL_addGuard_X1_addGuard : GoodIn wsL_addGuard wsX1_addGuard := goodIn_ca (goodIn_r _ [6, 7, 8, 9, 10, 11, 12, 13, 14, 15, 16, 17, 18, 19, 20, 21, 22, 23, 24, 25, 26, 27, 28, 29, 30, 31, 32, 33, 34, 35, 36] (by decide +kernel) (by decide +kernel)) (goodIn_sub (fun _ h => List.mem_cons_of_mem _ (List.mem_append_right _ h)) (by decide +kernel))
set_option maxRecDepth 20000 in
theorem gL_addGuard_X1_addGuard : GoodIn wsL_addGuard (wsV RL 7 RX1 yX1_addGuard wsX1_addGuard) := goodIn_app (goodIn_of _ (by decide +kernel)) ggL_addGuard_X1_addGuard
theorem dL_addGuard_0 : decode cL_addGuard 0 = .ok (.aload_n 1, 1) := by decide +kernel
theorem dL_addGuard_1 : decode cL_addGuard 1 = .ok (.iconst 0, 1) := by decide +kernel
theorem dL_addGuard_2 : decode cL_addGuard 2 = .ok (.aload_n 0, 1) := by decide +kernel
theorem dL_addGuard_3 : decode cL_addGuard 3 = .ok (.invokevirtual 7, 3) := by decide +kernel
theorem dL_addGuard_6 : decode cL_addGuard 6 = .ok (.i2l, 1) := by decide +kernel
theorem dL_addGuard_7 : decode cL_addGuard 7 = .ok (.lastore, 1) := by decide +kernel
theorem dL_addGuard_8 : decode cL_addGuard 8 = .ok (.goto 6, 3) := by decide +kernel
theorem dL_addGuard_11 : decode cL_addGuard 11 = .ok (.astore_n 2, 1) := by decide +kernel
theorem dL_addGuard_12 : decode cL_addGuard 12 = .ok (.iconst 1, 1) := by decide +kernel
theorem dL_addGuard_13 : decode cL_addGuard 13 = .ok (.ireturn, 1) := by decide +kernel
theorem dL_addGuard_14 : decode cL_addGuard 14 = .ok (.iconst 0, 1) := by decide +kernel
theorem dL_addGuard_15 : decode cL_addGuard 15 = .ok (.ireturn, 1) := by decide +kernel
set_option maxRecDepth 20000 in
theorem ggL_arrive_X1_arrive : GoodIn wsL_arrive wsX1_arrive := goodIn_ca (goodIn_ca (goodIn_r _ [7, 8, 9, 10, 11, 12, 13, 6, 14, 15, 16, 17, 18, 19, 20, 21, 22, 23, 24, 25, 26, 27, 28, 29, 30, 31, 32, 33, 34, 35, 36, 37, 38, 39, 40, 41, 42, 43, 44, 45, 46, 47] (by decide +kernel) (by decide +kernel)) (goodIn_sub (fun _ h => List.mem_cons_of_mem _ (List.mem_append_left _ (List.mem_append_right _ h))) (by decide +kernel))) (goodIn_sub (fun _ h => List.mem_cons_of_mem _ (List.mem_append_right _ h)) (by decide +kernel))
set_option maxRecDepth 20000 in
theorem gL_arrive_X1_arrive : GoodIn wsL_arrive (wsV RL 15 RX1 yX1_arrive wsX1_arrive) := goodIn_app (goodIn_of _ (by decide +kernel)) ggL_arrive_X1_arrive
theorem dL_arrive_0 : decode cL_arrive 0 = .ok (.aload 5, 2) := by decide +kernel
theorem dL_arrive_2 : decode cL_arrive 2 = .ok (.iconst 0, 1) := by decide +kernel
theorem dL_arrive_3 : decode cL_arrive 3 = .ok (.aload_n 0, 1) := by decide +kernel
theorem dL_arrive_4 : decode cL_arrive 4 = .ok (.iload_n 1, 1) := by decide +kernel
theorem dL_arrive_5 : decode cL_arrive 5 = .ok (.iload_n 2, 1) := by decide +kernel
theorem dL_arrive_6 : decode cL_arrive 6 = .ok (.iload_n 3, 1) := by decide +kernel
theorem dL_arrive_7 : decode cL_arrive 7 = .ok (.iload 4, 2) := by decide +kernel
theorem dL_arrive_9 : decode cL_arrive 9 = .ok (.invokevirtual 15, 3) := by decide +kernel
theorem dL_arrive_12 : decode cL_arrive 12 = .ok (.i2l, 1) := by decide +kernel
theorem dL_arrive_13 : decode cL_arrive 13 = .ok (.lastore, 1) := by decide +kernel
theorem dL_arrive_14 : decode cL_arrive 14 = .ok (.goto 11, 3) := by decide +kernel
theorem dL_arrive_17 : decode cL_arrive 17 = .ok (.astore 6, 2) := by decide +kernel
theorem dL_arrive_19 : decode cL_arrive 19 = .ok (.iconst 1, 1) := by decide +kernel
theorem dL_arrive_20 : decode cL_arrive 20 = .ok (.ireturn, 1) := by decide +kernel
theorem dL_arrive_21 : decode cL_arrive 21 = .ok (.astore 6, 2) := by decide +kernel
theorem dL_arrive_23 : decode cL_arrive 23 = .ok (.iconst 2, 1) := by decide +kernel
theorem dL_arrive_24 : decode cL_arrive 24 = .ok (.ireturn, 1) := by decide +kernel
theorem dL_arrive_25 : decode cL_arrive 25 = .ok (.iconst 0, 1) := by decide +kernel
theorem dL_arrive_26 : decode cL_arrive 26 = .ok (.ireturn, 1) := by decide +kernel
set_option maxRecDepth 20000 in
theorem ggL_declare_X1_declare : GoodIn wsL_declare wsX1_declare := goodIn_ca (goodIn_ca (goodIn_ca (goodIn_r _ [8, 9, 10, 11, 12, 13, 7, 14, 15, 16, 17, 18, 19, 20, 21, 22, 23, 24, 25, 26, 27, 28, 29, 30, 31, 32, 33, 34, 35, 36, 37, 38, 39, 40, 41, 42, 43, 44, 45, 46, 47, 48, 49, 50, 51] (by decide +kernel) (by decide +kernel)) (goodIn_sub (fun _ h => List.mem_cons_of_mem _ (List.mem_append_left _ (List.mem_append_left _ (List.mem_append_right _ h)))) (by decide +kernel))) (goodIn_sub (fun _ h => List.mem_cons_of_mem _ (List.mem_append_left _ (List.mem_append_right _ h))) (by decide +kernel))) (goodIn_sub (fun _ h => List.mem_cons_of_mem _ (List.mem_append_right _ h)) (by decide +kernel))
set_option maxRecDepth 20000 in
theorem gL_declare_X1_declare : GoodIn wsL_declare (wsV RL 21 RX1 yX1_declare wsX1_declare) := goodIn_app (goodIn_of _ (by decide +kernel)) ggL_declare_X1_declare
theorem dL_declare_0 : decode cL_declare 0 = .ok (.aload_n 3, 1) := by decide +kernel
theorem dL_declare_1 : decode cL_declare 1 = .ok (.iconst 0, 1) := by decide +kernel
theorem dL_declare_2 : decode cL_declare 2 = .ok (.aload_n 0, 1) := by decide +kernel
theorem dL_declare_3 : decode cL_declare 3 = .ok (.iload_n 1, 1) := by decide +kernel
theorem dL_declare_4 : decode cL_declare 4 = .ok (.iload_n 2, 1) := by decide +kernel
theorem dL_declare_5 : decode cL_declare 5 = .ok (.invokevirtual 21, 3) := by decide +kernel
theorem dL_declare_8 : decode cL_declare 8 = .ok (.i2l, 1) := by decide +kernel
theorem dL_declare_9 : decode cL_declare 9 = .ok (.lastore, 1) := by decide +kernel
theorem dL_declare_10 : decode cL_declare 10 = .ok (.goto 15, 3) := by decide +kernel
theorem dL_declare_13 : decode cL_declare 13 = .ok (.astore 4, 2) := by decide +kernel
theorem dL_declare_15 : decode cL_declare 15 = .ok (.iconst 1, 1) := by decide +kernel
theorem dL_declare_16 : decode cL_declare 16 = .ok (.ireturn, 1) := by decide +kernel
theorem dL_declare_17 : decode cL_declare 17 = .ok (.astore 4, 2) := by decide +kernel
theorem dL_declare_19 : decode cL_declare 19 = .ok (.iconst 2, 1) := by decide +kernel
theorem dL_declare_20 : decode cL_declare 20 = .ok (.ireturn, 1) := by decide +kernel
theorem dL_declare_21 : decode cL_declare 21 = .ok (.astore 4, 2) := by decide +kernel
theorem dL_declare_23 : decode cL_declare 23 = .ok (.iconst 3, 1) := by decide +kernel
theorem dL_declare_24 : decode cL_declare 24 = .ok (.ireturn, 1) := by decide +kernel
theorem dL_declare_25 : decode cL_declare 25 = .ok (.iconst 0, 1) := by decide +kernel
theorem dL_declare_26 : decode cL_declare 26 = .ok (.ireturn, 1) := by decide +kernel
set_option maxRecDepth 20000 in
theorem ggL_sing_X1_sing : GoodIn wsL_sing wsX1_sing := goodIn_ca (goodIn_ca (goodIn_ca (goodIn_r _ [8, 9, 10, 11, 12, 13, 7, 14, 15, 16, 17, 18, 19, 20, 21, 22, 23, 24, 25, 26, 27, 28, 29, 30, 31, 32, 33, 34, 35, 36, 37, 38, 39, 40, 41, 42, 43, 44, 45, 46, 47, 48, 49, 50, 51] (by decide +kernel) (by decide +kernel)) (goodIn_sub (fun _ h => List.mem_cons_of_mem _ (List.mem_append_left _ (List.mem_append_left _ (List.mem_append_right _ h)))) (by decide +kernel))) (goodIn_sub (fun _ h => List.mem_cons_of_mem _ (List.mem_append_left _ (List.mem_append_right _ h))) (by decide +kernel))) (goodIn_sub (fun _ h => List.mem_cons_of_mem _ (List.mem_append_right _ h)) (by decide +kernel))
set_option maxRecDepth 20000 in
theorem gL_sing_X1_sing : GoodIn wsL_sing (wsV RL 27 RX1 yX1_sing wsX1_sing) := goodIn_app (goodIn_of _ (by decide +kernel)) ggL_sing_X1_sing
theorem dL_sing_0 : decode cL_sing 0 = .ok (.aload_n 3, 1) := by decide +kernel
theorem dL_sing_1 : decode cL_sing 1 = .ok (.iconst 0, 1) := by decide +kernel
theorem dL_sing_2 : decode cL_sing 2 = .ok (.aload_n 0, 1) := by decide +kernel
theorem dL_sing_3 : decode cL_sing 3 = .ok (.iload_n 1, 1) := by decide +kernel
theorem dL_sing_4 : decode cL_sing 4 = .ok (.iload_n 2, 1) := by decide +kernel
theorem dL_sing_5 : decode cL_sing 5 = .ok (.invokevirtual 27, 3) := by decide +kernel
theorem dL_sing_8 : decode cL_sing 8 = .ok (.i2l, 1) := by decide +kernel
theorem dL_sing_9 : decode cL_sing 9 = .ok (.lastore, 1) := by decide +kernel
theorem dL_sing_10 : decode cL_sing 10 = .ok (.goto 15, 3) := by decide +kernel
theorem dL_sing_13 : decode cL_sing 13 = .ok (.astore 4, 2) := by decide +kernel
theorem dL_sing_15 : decode cL_sing 15 = .ok (.iconst 1, 1) := by decide +kernel
theorem dL_sing_16 : decode cL_sing 16 = .ok (.ireturn, 1) := by decide +kernel
theorem dL_sing_17 : decode cL_sing 17 = .ok (.astore 4, 2) := by decide +kernel
theorem dL_sing_19 : decode cL_sing 19 = .ok (.iconst 2, 1) := by decide +kernel
theorem dL_sing_20 : decode cL_sing 20 = .ok (.ireturn, 1) := by decide +kernel
theorem dL_sing_21 : decode cL_sing 21 = .ok (.astore 4, 2) := by decide +kernel
theorem dL_sing_23 : decode cL_sing 23 = .ok (.iconst 3, 1) := by decide +kernel
theorem dL_sing_24 : decode cL_sing 24 = .ok (.ireturn, 1) := by decide +kernel
theorem dL_sing_25 : decode cL_sing 25 = .ok (.iconst 0, 1) := by decide +kernel
theorem dL_sing_26 : decode cL_sing 26 = .ok (.ireturn, 1) := by decide +kernel
set_option maxRecDepth 20000 in
theorem ggL_wake_X1_wake : GoodIn wsL_wake wsX1_wake := goodIn_ca (goodIn_r _ [6, 7, 8, 9, 10, 11, 5, 12, 13, 14, 15, 16, 17, 18, 19, 20, 21, 22, 23, 24, 25, 26, 27, 28, 29, 30, 31, 32, 33, 34, 35, 36, 37] (by decide +kernel) (by decide +kernel)) (goodIn_sub (fun _ h => List.mem_cons_of_mem _ (List.mem_append_right _ h)) (by decide +kernel))
set_option maxRecDepth 20000 in
theorem gL_wake_X1_wake : GoodIn wsL_wake (wsV RL 30 RX1 yX1_wake wsX1_wake) := goodIn_app (goodIn_of _ (by decide +kernel)) ggL_wake_X1_wake
theorem dL_wake_0 : decode cL_wake 0 = .ok (.aload_n 2, 1) := by decide +kernel
theorem dL_wake_1 : decode cL_wake 1 = .ok (.iconst 0, 1) := by decide +kernel
theorem dL_wake_2 : decode cL_wake 2 = .ok (.aload_n 0, 1) := by decide +kernel
theorem dL_wake_3 : decode cL_wake 3 = .ok (.iload_n 1, 1) := by decide +kernel
theorem dL_wake_4 : decode cL_wake 4 = .ok (.invokevirtual 30, 3) := by decide +kernel
theorem dL_wake_7 : decode cL_wake 7 = .ok (.i2l, 1) := by decide +kernel
theorem dL_wake_8 : decode cL_wake 8 = .ok (.lastore, 1) := by decide +kernel
theorem dL_wake_9 : decode cL_wake 9 = .ok (.goto 6, 3) := by decide +kernel
theorem dL_wake_12 : decode cL_wake 12 = .ok (.astore_n 3, 1) := by decide +kernel
theorem dL_wake_13 : decode cL_wake 13 = .ok (.iconst 1, 1) := by decide +kernel
theorem dL_wake_14 : decode cL_wake 14 = .ok (.ireturn, 1) := by decide +kernel
theorem dL_wake_15 : decode cL_wake 15 = .ok (.iconst 0, 1) := by decide +kernel
theorem dL_wake_16 : decode cL_wake 16 = .ok (.ireturn, 1) := by decide +kernel
set_option maxRecDepth 20000 in
theorem ggL_pass_X1_pass : GoodIn wsL_pass wsX1_pass := goodIn_ca (goodIn_r _ [6, 7, 8, 9, 5, 10, 11, 12, 13, 14, 15, 16, 17, 18, 19, 20, 21, 22, 23, 24, 25, 26, 27, 28, 29, 30, 31, 32, 33, 34, 35, 36, 37, 38, 39, 40, 41, 42, 43, 44, 45, 46, 47, 48, 49, 50, 51, 52, 53, 54, 55, 56, 57, 58, 59, 60, 61, 62, 63, 64, 65, 66, 67, 68, 69, 70, 71, 72, 73, 74, 75, 76, 77, 78, 79, 80, 81, 82, 83, 84, 85, 86, 87, 88, 89, 90, 91, 92, 93, 94, 95, 96, 97, 98, 99, 100, 101, 102, 103, 104] (by decide +kernel) (by decide +kernel)) (goodIn_sub (fun _ h => List.mem_cons_of_mem _ (List.mem_append_right _ h)) (by decide +kernel))
set_option maxRecDepth 20000 in
theorem gL_pass_X1_pass : GoodIn wsL_pass (wsV RL 34 RX1 yX1_pass wsX1_pass) := goodIn_app (goodIn_of _ (by decide +kernel)) ggL_pass_X1_pass
theorem dL_pass_0 : decode cL_pass 0 = .ok (.aload_n 2, 1) := by decide +kernel
theorem dL_pass_1 : decode cL_pass 1 = .ok (.iconst 0, 1) := by decide +kernel
theorem dL_pass_2 : decode cL_pass 2 = .ok (.aload_n 0, 1) := by decide +kernel
theorem dL_pass_3 : decode cL_pass 3 = .ok (.iload_n 1, 1) := by decide +kernel
theorem dL_pass_4 : decode cL_pass 4 = .ok (.invokevirtual 34, 3) := by decide +kernel
theorem dL_pass_7 : decode cL_pass 7 = .ok (.i2l, 1) := by decide +kernel
theorem dL_pass_8 : decode cL_pass 8 = .ok (.lastore, 1) := by decide +kernel
theorem dL_pass_9 : decode cL_pass 9 = .ok (.goto 6, 3) := by decide +kernel
theorem dL_pass_12 : decode cL_pass 12 = .ok (.astore_n 3, 1) := by decide +kernel
theorem dL_pass_13 : decode cL_pass 13 = .ok (.iconst 1, 1) := by decide +kernel
theorem dL_pass_14 : decode cL_pass 14 = .ok (.ireturn, 1) := by decide +kernel
theorem dL_pass_15 : decode cL_pass 15 = .ok (.iconst 0, 1) := by decide +kernel
theorem dL_pass_16 : decode cL_pass 16 = .ok (.ireturn, 1) := by decide +kernel
set_option maxRecDepth 20000 in
theorem ggL_stateOf_X1_stateOf : GoodIn wsL_stateOf wsX1_stateOf := goodIn_ca (goodIn_r _ [6, 7, 8, 9, 10, 11, 5, 12, 13, 14, 15, 16, 17, 18, 19, 20, 21, 22, 23, 24, 25, 26, 27, 28, 29, 30, 31, 32, 33, 34, 35, 36, 37] (by decide +kernel) (by decide +kernel)) (goodIn_sub (fun _ h => List.mem_cons_of_mem _ (List.mem_append_right _ h)) (by decide +kernel))
set_option maxRecDepth 20000 in
theorem gL_stateOf_X1_stateOf : GoodIn wsL_stateOf (wsV RL 37 RX1 yX1_stateOf wsX1_stateOf) := goodIn_app (goodIn_of _ (by decide +kernel)) ggL_stateOf_X1_stateOf
theorem dL_stateOf_0 : decode cL_stateOf 0 = .ok (.aload_n 2, 1) := by decide +kernel
theorem dL_stateOf_1 : decode cL_stateOf 1 = .ok (.iconst 0, 1) := by decide +kernel
theorem dL_stateOf_2 : decode cL_stateOf 2 = .ok (.aload_n 0, 1) := by decide +kernel
theorem dL_stateOf_3 : decode cL_stateOf 3 = .ok (.iload_n 1, 1) := by decide +kernel
theorem dL_stateOf_4 : decode cL_stateOf 4 = .ok (.invokevirtual 37, 3) := by decide +kernel
theorem dL_stateOf_7 : decode cL_stateOf 7 = .ok (.i2l, 1) := by decide +kernel
theorem dL_stateOf_8 : decode cL_stateOf 8 = .ok (.lastore, 1) := by decide +kernel
theorem dL_stateOf_9 : decode cL_stateOf 9 = .ok (.goto 6, 3) := by decide +kernel
theorem dL_stateOf_12 : decode cL_stateOf 12 = .ok (.astore_n 3, 1) := by decide +kernel
theorem dL_stateOf_13 : decode cL_stateOf 13 = .ok (.iconst 1, 1) := by decide +kernel
theorem dL_stateOf_14 : decode cL_stateOf 14 = .ok (.ireturn, 1) := by decide +kernel
theorem dL_stateOf_15 : decode cL_stateOf 15 = .ok (.iconst 0, 1) := by decide +kernel
theorem dL_stateOf_16 : decode cL_stateOf 16 = .ok (.ireturn, 1) := by decide +kernel
set_option maxRecDepth 20000 in
theorem ggL_hiddenOf_X1_hiddenOf : GoodIn wsL_hiddenOf wsX1_hiddenOf := goodIn_ca (goodIn_r _ [6, 7, 8, 9, 10, 5, 11, 12, 13, 14, 15, 16, 17, 18, 19, 20, 21, 22, 23, 24, 25, 26, 27, 28, 29, 30, 31, 32, 33, 34, 35, 36, 37, 38, 39, 40, 41, 42, 43, 44, 45, 46] (by decide +kernel) (by decide +kernel)) (goodIn_sub (fun _ h => List.mem_cons_of_mem _ (List.mem_append_right _ h)) (by decide +kernel))
set_option maxRecDepth 20000 in
theorem gL_hiddenOf_X1_hiddenOf : GoodIn wsL_hiddenOf (wsV RL 40 RX1 yX1_hiddenOf wsX1_hiddenOf) := goodIn_app (goodIn_of _ (by decide +kernel)) ggL_hiddenOf_X1_hiddenOf
theorem dL_hiddenOf_0 : decode cL_hiddenOf 0 = .ok (.aload_n 2, 1) := by decide +kernel
theorem dL_hiddenOf_1 : decode cL_hiddenOf 1 = .ok (.iconst 0, 1) := by decide +kernel
theorem dL_hiddenOf_2 : decode cL_hiddenOf 2 = .ok (.aload_n 0, 1) := by decide +kernel
theorem dL_hiddenOf_3 : decode cL_hiddenOf 3 = .ok (.iload_n 1, 1) := by decide +kernel
theorem dL_hiddenOf_4 : decode cL_hiddenOf 4 = .ok (.invokevirtual 40, 3) := by decide +kernel
theorem dL_hiddenOf_7 : decode cL_hiddenOf 7 = .ok (.i2l, 1) := by decide +kernel
theorem dL_hiddenOf_8 : decode cL_hiddenOf 8 = .ok (.lastore, 1) := by decide +kernel
theorem dL_hiddenOf_9 : decode cL_hiddenOf 9 = .ok (.goto 6, 3) := by decide +kernel
theorem dL_hiddenOf_12 : decode cL_hiddenOf 12 = .ok (.astore_n 3, 1) := by decide +kernel
theorem dL_hiddenOf_13 : decode cL_hiddenOf 13 = .ok (.iconst 1, 1) := by decide +kernel
theorem dL_hiddenOf_14 : decode cL_hiddenOf 14 = .ok (.ireturn, 1) := by decide +kernel
theorem dL_hiddenOf_15 : decode cL_hiddenOf 15 = .ok (.iconst 0, 1) := by decide +kernel
theorem dL_hiddenOf_16 : decode cL_hiddenOf 16 = .ok (.ireturn, 1) := by decide +kernel
set_option maxRecDepth 20000 in
theorem ggL_lullabyOf_X1_lullabyOf : GoodIn wsL_lullabyOf wsX1_lullabyOf := goodIn_ca (goodIn_r _ [6, 7, 8, 9, 10, 11, 5, 12, 13, 14, 15, 16, 17, 18, 19, 20, 21, 22, 23, 24, 25, 26, 27, 28, 29, 30, 31, 32, 33, 34, 35, 36, 37] (by decide +kernel) (by decide +kernel)) (goodIn_sub (fun _ h => List.mem_cons_of_mem _ (List.mem_append_right _ h)) (by decide +kernel))
set_option maxRecDepth 20000 in
theorem gL_lullabyOf_X1_lullabyOf : GoodIn wsL_lullabyOf (wsV RL 43 RX1 yX1_lullabyOf wsX1_lullabyOf) := goodIn_app (goodIn_of _ (by decide +kernel)) ggL_lullabyOf_X1_lullabyOf
theorem dL_lullabyOf_0 : decode cL_lullabyOf 0 = .ok (.aload_n 2, 1) := by decide +kernel
theorem dL_lullabyOf_1 : decode cL_lullabyOf 1 = .ok (.iconst 0, 1) := by decide +kernel
theorem dL_lullabyOf_2 : decode cL_lullabyOf 2 = .ok (.aload_n 0, 1) := by decide +kernel
theorem dL_lullabyOf_3 : decode cL_lullabyOf 3 = .ok (.iload_n 1, 1) := by decide +kernel
theorem dL_lullabyOf_4 : decode cL_lullabyOf 4 = .ok (.invokevirtual 43, 3) := by decide +kernel
theorem dL_lullabyOf_7 : decode cL_lullabyOf 7 = .ok (.i2l, 1) := by decide +kernel
theorem dL_lullabyOf_8 : decode cL_lullabyOf 8 = .ok (.lastore, 1) := by decide +kernel
theorem dL_lullabyOf_9 : decode cL_lullabyOf 9 = .ok (.goto 6, 3) := by decide +kernel
theorem dL_lullabyOf_12 : decode cL_lullabyOf 12 = .ok (.astore_n 3, 1) := by decide +kernel
theorem dL_lullabyOf_13 : decode cL_lullabyOf 13 = .ok (.iconst 1, 1) := by decide +kernel
theorem dL_lullabyOf_14 : decode cL_lullabyOf 14 = .ok (.ireturn, 1) := by decide +kernel
theorem dL_lullabyOf_15 : decode cL_lullabyOf 15 = .ok (.iconst 0, 1) := by decide +kernel
theorem dL_lullabyOf_16 : decode cL_lullabyOf 16 = .ok (.ireturn, 1) := by decide +kernel
set_option maxRecDepth 20000 in
theorem ggL_placeInLine_X1_placeInLine : GoodIn wsL_placeInLine wsX1_placeInLine := goodIn_ca (goodIn_r _ [6, 7, 8, 9, 10, 11, 5, 12, 13, 14, 15, 16, 17, 18, 19, 20, 21, 22, 23, 24, 25, 26, 27, 28, 29, 30, 31, 32, 33, 34, 35, 36, 37, 38, 39, 40, 41, 42] (by decide +kernel) (by decide +kernel)) (goodIn_sub (fun _ h => List.mem_cons_of_mem _ (List.mem_append_right _ h)) (by decide +kernel))
set_option maxRecDepth 20000 in
theorem gL_placeInLine_X1_placeInLine : GoodIn wsL_placeInLine (wsV RL 46 RX1 yX1_placeInLine wsX1_placeInLine) := goodIn_app (goodIn_of _ (by decide +kernel)) ggL_placeInLine_X1_placeInLine
theorem dL_placeInLine_0 : decode cL_placeInLine 0 = .ok (.aload_n 2, 1) := by decide +kernel
theorem dL_placeInLine_1 : decode cL_placeInLine 1 = .ok (.iconst 0, 1) := by decide +kernel
theorem dL_placeInLine_2 : decode cL_placeInLine 2 = .ok (.aload_n 0, 1) := by decide +kernel
theorem dL_placeInLine_3 : decode cL_placeInLine 3 = .ok (.iload_n 1, 1) := by decide +kernel
theorem dL_placeInLine_4 : decode cL_placeInLine 4 = .ok (.invokevirtual 46, 3) := by decide +kernel
theorem dL_placeInLine_7 : decode cL_placeInLine 7 = .ok (.i2l, 1) := by decide +kernel
theorem dL_placeInLine_8 : decode cL_placeInLine 8 = .ok (.lastore, 1) := by decide +kernel
theorem dL_placeInLine_9 : decode cL_placeInLine 9 = .ok (.goto 6, 3) := by decide +kernel
theorem dL_placeInLine_12 : decode cL_placeInLine 12 = .ok (.astore_n 3, 1) := by decide +kernel
theorem dL_placeInLine_13 : decode cL_placeInLine 13 = .ok (.iconst 1, 1) := by decide +kernel
theorem dL_placeInLine_14 : decode cL_placeInLine 14 = .ok (.ireturn, 1) := by decide +kernel
theorem dL_placeInLine_15 : decode cL_placeInLine 15 = .ok (.iconst 0, 1) := by decide +kernel
theorem dL_placeInLine_16 : decode cL_placeInLine 16 = .ok (.ireturn, 1) := by decide +kernel
set_option maxRecDepth 20000 in
theorem ggL_searchTime_X1_searchTime : GoodIn wsL_searchTime wsX1_searchTime := goodIn_ca (goodIn_r _ [6, 7, 8, 9, 10, 5, 11, 12, 13, 14, 15, 16, 17, 18, 19, 20, 21, 22, 23, 24, 25, 26, 27, 28, 29, 30, 31, 32, 33, 34, 35, 36, 37, 38, 39, 40, 41, 42, 43, 44, 45, 46, 47] (by decide +kernel) (by decide +kernel)) (goodIn_sub (fun _ h => List.mem_cons_of_mem _ (List.mem_append_right _ h)) (by decide +kernel))
set_option maxRecDepth 20000 in
theorem gL_searchTime_X1_searchTime : GoodIn wsL_searchTime (wsV RL 49 RX1 yX1_searchTime wsX1_searchTime) := goodIn_app (goodIn_of _ (by decide +kernel)) ggL_searchTime_X1_searchTime
theorem dL_searchTime_0 : decode cL_searchTime 0 = .ok (.aload_n 2, 1) := by decide +kernel
theorem dL_searchTime_1 : decode cL_searchTime 1 = .ok (.iconst 0, 1) := by decide +kernel
theorem dL_searchTime_2 : decode cL_searchTime 2 = .ok (.aload_n 0, 1) := by decide +kernel
theorem dL_searchTime_3 : decode cL_searchTime 3 = .ok (.iload_n 1, 1) := by decide +kernel
theorem dL_searchTime_4 : decode cL_searchTime 4 = .ok (.invokevirtual 49, 3) := by decide +kernel
theorem dL_searchTime_7 : decode cL_searchTime 7 = .ok (.i2l, 1) := by decide +kernel
theorem dL_searchTime_8 : decode cL_searchTime 8 = .ok (.lastore, 1) := by decide +kernel
theorem dL_searchTime_9 : decode cL_searchTime 9 = .ok (.goto 6, 3) := by decide +kernel
theorem dL_searchTime_12 : decode cL_searchTime 12 = .ok (.astore_n 3, 1) := by decide +kernel
theorem dL_searchTime_13 : decode cL_searchTime 13 = .ok (.iconst 1, 1) := by decide +kernel
theorem dL_searchTime_14 : decode cL_searchTime 14 = .ok (.ireturn, 1) := by decide +kernel
theorem dL_searchTime_15 : decode cL_searchTime 15 = .ok (.iconst 0, 1) := by decide +kernel
theorem dL_searchTime_16 : decode cL_searchTime 16 = .ok (.ireturn, 1) := by decide +kernel
set_option maxRecDepth 20000 in
theorem ggL_alertnessOf_X1_alertnessOf : GoodIn wsL_alertnessOf wsX1_alertnessOf := goodIn_ca (goodIn_r _ [6, 7, 8, 9, 10, 11, 5, 12, 13, 14, 15, 16, 17, 18, 19, 20, 21, 22, 23, 24, 25, 26, 27, 28, 29, 30, 31, 32, 33, 34, 35, 36, 37] (by decide +kernel) (by decide +kernel)) (goodIn_sub (fun _ h => List.mem_cons_of_mem _ (List.mem_append_right _ h)) (by decide +kernel))
set_option maxRecDepth 20000 in
theorem gL_alertnessOf_X1_alertnessOf : GoodIn wsL_alertnessOf (wsV RL 52 RX1 yX1_alertnessOf wsX1_alertnessOf) := goodIn_app (goodIn_of _ (by decide +kernel)) ggL_alertnessOf_X1_alertnessOf
theorem dL_alertnessOf_0 : decode cL_alertnessOf 0 = .ok (.aload_n 2, 1) := by decide +kernel
theorem dL_alertnessOf_1 : decode cL_alertnessOf 1 = .ok (.iconst 0, 1) := by decide +kernel
theorem dL_alertnessOf_2 : decode cL_alertnessOf 2 = .ok (.aload_n 0, 1) := by decide +kernel
theorem dL_alertnessOf_3 : decode cL_alertnessOf 3 = .ok (.iload_n 1, 1) := by decide +kernel
theorem dL_alertnessOf_4 : decode cL_alertnessOf 4 = .ok (.invokevirtual 52, 3) := by decide +kernel
theorem dL_alertnessOf_7 : decode cL_alertnessOf 7 = .ok (.i2l, 1) := by decide +kernel
theorem dL_alertnessOf_8 : decode cL_alertnessOf 8 = .ok (.lastore, 1) := by decide +kernel
theorem dL_alertnessOf_9 : decode cL_alertnessOf 9 = .ok (.goto 6, 3) := by decide +kernel
theorem dL_alertnessOf_12 : decode cL_alertnessOf 12 = .ok (.astore_n 3, 1) := by decide +kernel
theorem dL_alertnessOf_13 : decode cL_alertnessOf 13 = .ok (.iconst 1, 1) := by decide +kernel
theorem dL_alertnessOf_14 : decode cL_alertnessOf 14 = .ok (.ireturn, 1) := by decide +kernel
theorem dL_alertnessOf_15 : decode cL_alertnessOf 15 = .ok (.iconst 0, 1) := by decide +kernel
theorem dL_alertnessOf_16 : decode cL_alertnessOf 16 = .ok (.ireturn, 1) := by decide +kernel
set_option maxRecDepth 20000 in
theorem ggL_searches_X1_searches : GoodIn wsL_searches wsX1_searches := goodIn_ca (goodIn_r _ [6, 7, 8, 9, 10, 11, 5, 12, 13, 14, 15, 16, 17, 18, 19, 20, 21, 22, 23, 24, 25, 26, 27, 28, 29, 30, 31, 32, 33, 34, 35, 36, 37] (by decide +kernel) (by decide +kernel)) (goodIn_sub (fun _ h => List.mem_cons_of_mem _ (List.mem_append_right _ h)) (by decide +kernel))
set_option maxRecDepth 20000 in
theorem gL_searches_X1_searches : GoodIn wsL_searches (wsV RL 55 RX1 yX1_searches wsX1_searches) := goodIn_app (goodIn_of _ (by decide +kernel)) ggL_searches_X1_searches
theorem dL_searches_0 : decode cL_searches 0 = .ok (.aload_n 2, 1) := by decide +kernel
theorem dL_searches_1 : decode cL_searches 1 = .ok (.iconst 0, 1) := by decide +kernel
theorem dL_searches_2 : decode cL_searches 2 = .ok (.aload_n 0, 1) := by decide +kernel
theorem dL_searches_3 : decode cL_searches 3 = .ok (.iload_n 1, 1) := by decide +kernel
theorem dL_searches_4 : decode cL_searches 4 = .ok (.invokevirtual 55, 3) := by decide +kernel
theorem dL_searches_7 : decode cL_searches 7 = .ok (.i2l, 1) := by decide +kernel
theorem dL_searches_8 : decode cL_searches 8 = .ok (.lastore, 1) := by decide +kernel
theorem dL_searches_9 : decode cL_searches 9 = .ok (.goto 6, 3) := by decide +kernel
theorem dL_searches_12 : decode cL_searches 12 = .ok (.astore_n 3, 1) := by decide +kernel
theorem dL_searches_13 : decode cL_searches 13 = .ok (.iconst 1, 1) := by decide +kernel
theorem dL_searches_14 : decode cL_searches 14 = .ok (.ireturn, 1) := by decide +kernel
theorem dL_searches_15 : decode cL_searches 15 = .ok (.iconst 0, 1) := by decide +kernel
theorem dL_searches_16 : decode cL_searches 16 = .ok (.ireturn, 1) := by decide +kernel
set_option maxRecDepth 20000 in
theorem ggL_minutesToGo_X1_minutesToGo : GoodIn wsL_minutesToGo wsX1_minutesToGo := goodIn_ca (goodIn_r _ [6, 7, 8, 9, 10, 11, 5, 12, 13, 14, 15, 16, 17, 18, 19, 20, 21, 22, 23, 24, 25, 26, 27, 28, 29, 30, 31, 32, 33, 34, 35, 36, 37] (by decide +kernel) (by decide +kernel)) (goodIn_sub (fun _ h => List.mem_cons_of_mem _ (List.mem_append_right _ h)) (by decide +kernel))
set_option maxRecDepth 20000 in
theorem gL_minutesToGo_X1_minutesToGo : GoodIn wsL_minutesToGo (wsV RL 58 RX1 yX1_minutesToGo wsX1_minutesToGo) := goodIn_app (goodIn_of _ (by decide +kernel)) ggL_minutesToGo_X1_minutesToGo
theorem dL_minutesToGo_0 : decode cL_minutesToGo 0 = .ok (.aload_n 2, 1) := by decide +kernel
theorem dL_minutesToGo_1 : decode cL_minutesToGo 1 = .ok (.iconst 0, 1) := by decide +kernel
theorem dL_minutesToGo_2 : decode cL_minutesToGo 2 = .ok (.aload_n 0, 1) := by decide +kernel
theorem dL_minutesToGo_3 : decode cL_minutesToGo 3 = .ok (.iload_n 1, 1) := by decide +kernel
theorem dL_minutesToGo_4 : decode cL_minutesToGo 4 = .ok (.invokevirtual 58, 3) := by decide +kernel
theorem dL_minutesToGo_7 : decode cL_minutesToGo 7 = .ok (.i2l, 1) := by decide +kernel
theorem dL_minutesToGo_8 : decode cL_minutesToGo 8 = .ok (.lastore, 1) := by decide +kernel
theorem dL_minutesToGo_9 : decode cL_minutesToGo 9 = .ok (.goto 6, 3) := by decide +kernel
theorem dL_minutesToGo_12 : decode cL_minutesToGo 12 = .ok (.astore_n 3, 1) := by decide +kernel
theorem dL_minutesToGo_13 : decode cL_minutesToGo 13 = .ok (.iconst 1, 1) := by decide +kernel
theorem dL_minutesToGo_14 : decode cL_minutesToGo 14 = .ok (.ireturn, 1) := by decide +kernel
theorem dL_minutesToGo_15 : decode cL_minutesToGo 15 = .ok (.iconst 0, 1) := by decide +kernel
theorem dL_minutesToGo_16 : decode cL_minutesToGo 16 = .ok (.ireturn, 1) := by decide +kernel
set_option maxRecDepth 20000 in
theorem ggL_wouldFind_X1_wouldFind : GoodIn wsL_wouldFind wsX1_wouldFind := goodIn_ca (goodIn_r _ [6, 7, 8, 9, 10, 5, 11, 12, 13, 14, 15, 16, 17, 18, 19, 20, 21, 22, 23, 24, 25, 26, 27, 28, 29, 30, 31, 32, 33, 34, 35, 36, 37, 38, 39, 40, 41, 42, 43, 44, 45, 46, 47, 48, 49, 50, 51, 52, 53, 54, 55, 56, 57, 58, 59, 60] (by decide +kernel) (by decide +kernel)) (goodIn_sub (fun _ h => List.mem_cons_of_mem _ (List.mem_append_right _ h)) (by decide +kernel))
set_option maxRecDepth 20000 in
theorem gL_wouldFind_X1_wouldFind : GoodIn wsL_wouldFind (wsV RL 61 RX1 yX1_wouldFind wsX1_wouldFind) := goodIn_app (goodIn_of _ (by decide +kernel)) ggL_wouldFind_X1_wouldFind
theorem dL_wouldFind_0 : decode cL_wouldFind 0 = .ok (.aload_n 3, 1) := by decide +kernel
theorem dL_wouldFind_1 : decode cL_wouldFind 1 = .ok (.iconst 0, 1) := by decide +kernel
theorem dL_wouldFind_2 : decode cL_wouldFind 2 = .ok (.aload_n 0, 1) := by decide +kernel
theorem dL_wouldFind_3 : decode cL_wouldFind 3 = .ok (.iload_n 1, 1) := by decide +kernel
theorem dL_wouldFind_4 : decode cL_wouldFind 4 = .ok (.iload_n 2, 1) := by decide +kernel
theorem dL_wouldFind_5 : decode cL_wouldFind 5 = .ok (.invokevirtual 61, 3) := by decide +kernel
theorem dL_wouldFind_8 : decode cL_wouldFind 8 = .ok (.ifCond .eq 7, 3) := by decide +kernel
theorem dL_wouldFind_11 : decode cL_wouldFind 11 = .ok (.lconst 1, 1) := by decide +kernel
theorem dL_wouldFind_12 : decode cL_wouldFind 12 = .ok (.goto 4, 3) := by decide +kernel
theorem dL_wouldFind_15 : decode cL_wouldFind 15 = .ok (.lconst 0, 1) := by decide +kernel
theorem dL_wouldFind_16 : decode cL_wouldFind 16 = .ok (.lastore, 1) := by decide +kernel
theorem dL_wouldFind_17 : decode cL_wouldFind 17 = .ok (.goto 7, 3) := by decide +kernel
theorem dL_wouldFind_20 : decode cL_wouldFind 20 = .ok (.astore 4, 2) := by decide +kernel
theorem dL_wouldFind_22 : decode cL_wouldFind 22 = .ok (.iconst 1, 1) := by decide +kernel
theorem dL_wouldFind_23 : decode cL_wouldFind 23 = .ok (.ireturn, 1) := by decide +kernel
theorem dL_wouldFind_24 : decode cL_wouldFind 24 = .ok (.iconst 0, 1) := by decide +kernel
theorem dL_wouldFind_25 : decode cL_wouldFind 25 = .ok (.ireturn, 1) := by decide +kernel
set_option maxRecDepth 20000 in
theorem ggL_minutesUntilAsleep_X1_minutesUntilAsleep : GoodIn wsL_minutesUntilAsleep wsX1_minutesUntilAsleep := goodIn_ca (goodIn_r _ [6, 7, 8, 9, 10, 11, 5, 12, 13, 14, 15, 16, 17, 18, 19, 20, 21, 22, 23, 24, 25, 26, 27, 28, 29, 30, 31, 32, 33, 34, 35, 36, 37, 38, 39, 40, 41, 42, 43, 44, 45, 46, 47, 48, 49, 50, 51, 52, 53, 54, 55, 56, 57, 58, 59, 60, 61, 62, 63, 64, 65, 66, 67, 68, 69, 70, 71, 72, 73, 74, 75, 76, 77, 78, 79, 80, 81, 82, 83, 84, 85, 86, 87, 88, 89, 90, 91, 92, 93, 94, 95, 96, 97, 98, 99, 100, 101, 102, 103, 104, 105, 106, 107, 108, 109, 110, 111, 112, 113, 114, 115, 116, 117, 118, 119, 120, 121, 122] (by decide +kernel) (by decide +kernel)) (goodIn_sub (fun _ h => List.mem_cons_of_mem _ (List.mem_append_right _ h)) (by decide +kernel))
set_option maxRecDepth 20000 in
theorem gL_minutesUntilAsleep_X1_minutesUntilAsleep : GoodIn wsL_minutesUntilAsleep (wsV RL 65 RX1 yX1_minutesUntilAsleep wsX1_minutesUntilAsleep) := goodIn_app (goodIn_of _ (by decide +kernel)) ggL_minutesUntilAsleep_X1_minutesUntilAsleep
theorem dL_minutesUntilAsleep_0 : decode cL_minutesUntilAsleep 0 = .ok (.aload_n 2, 1) := by decide +kernel
theorem dL_minutesUntilAsleep_1 : decode cL_minutesUntilAsleep 1 = .ok (.iconst 0, 1) := by decide +kernel
theorem dL_minutesUntilAsleep_2 : decode cL_minutesUntilAsleep 2 = .ok (.aload_n 0, 1) := by decide +kernel
theorem dL_minutesUntilAsleep_3 : decode cL_minutesUntilAsleep 3 = .ok (.iload_n 1, 1) := by decide +kernel
theorem dL_minutesUntilAsleep_4 : decode cL_minutesUntilAsleep 4 = .ok (.invokevirtual 65, 3) := by decide +kernel
theorem dL_minutesUntilAsleep_7 : decode cL_minutesUntilAsleep 7 = .ok (.i2l, 1) := by decide +kernel
theorem dL_minutesUntilAsleep_8 : decode cL_minutesUntilAsleep 8 = .ok (.lastore, 1) := by decide +kernel
theorem dL_minutesUntilAsleep_9 : decode cL_minutesUntilAsleep 9 = .ok (.goto 6, 3) := by decide +kernel
theorem dL_minutesUntilAsleep_12 : decode cL_minutesUntilAsleep 12 = .ok (.astore_n 3, 1) := by decide +kernel
theorem dL_minutesUntilAsleep_13 : decode cL_minutesUntilAsleep 13 = .ok (.iconst 1, 1) := by decide +kernel
theorem dL_minutesUntilAsleep_14 : decode cL_minutesUntilAsleep 14 = .ok (.ireturn, 1) := by decide +kernel
theorem dL_minutesUntilAsleep_15 : decode cL_minutesUntilAsleep 15 = .ok (.iconst 0, 1) := by decide +kernel
theorem dL_minutesUntilAsleep_16 : decode cL_minutesUntilAsleep 16 = .ok (.ireturn, 1) := by decide +kernel
set_option maxRecDepth 20000 in
theorem ggL_asleepIn_X1_asleepIn : GoodIn wsL_asleepIn wsX1_asleepIn := goodIn_ca (goodIn_r _ [6, 7, 8, 9, 10, 5, 11, 12, 13, 14, 15, 16, 17, 18, 19, 20, 21, 22, 23, 24, 25, 26, 27, 28, 29, 30, 31, 32, 33, 34, 35, 36, 37, 38, 39, 40, 41, 42, 43, 44, 45, 46, 47, 48, 49, 50, 51, 52, 53, 54, 55, 56, 57, 58, 59, 60, 61, 62, 63, 64, 65, 66, 67, 68, 69, 70, 71, 72, 73, 74, 75, 76, 77, 78, 79, 80, 81, 82, 83, 84, 85, 86, 87, 88, 89, 90, 91, 92, 93, 94, 95, 96, 97, 98, 99, 100, 101, 102, 103, 104, 105, 106, 107, 108, 109, 110, 111, 112, 113, 114, 115, 116, 117] (by decide +kernel) (by decide +kernel)) (goodIn_sub (fun _ h => List.mem_cons_of_mem _ (List.mem_append_right _ h)) (by decide +kernel))
set_option maxRecDepth 20000 in
theorem gL_asleepIn_X1_asleepIn : GoodIn wsL_asleepIn (wsV RL 68 RX1 yX1_asleepIn wsX1_asleepIn) := goodIn_app (goodIn_of _ (by decide +kernel)) ggL_asleepIn_X1_asleepIn
theorem dL_asleepIn_0 : decode cL_asleepIn 0 = .ok (.aload_n 2, 1) := by decide +kernel
theorem dL_asleepIn_1 : decode cL_asleepIn 1 = .ok (.iconst 0, 1) := by decide +kernel
theorem dL_asleepIn_2 : decode cL_asleepIn 2 = .ok (.aload_n 0, 1) := by decide +kernel
theorem dL_asleepIn_3 : decode cL_asleepIn 3 = .ok (.iload_n 1, 1) := by decide +kernel
theorem dL_asleepIn_4 : decode cL_asleepIn 4 = .ok (.invokevirtual 68, 3) := by decide +kernel
theorem dL_asleepIn_7 : decode cL_asleepIn 7 = .ok (.i2l, 1) := by decide +kernel
theorem dL_asleepIn_8 : decode cL_asleepIn 8 = .ok (.lastore, 1) := by decide +kernel
theorem dL_asleepIn_9 : decode cL_asleepIn 9 = .ok (.goto 6, 3) := by decide +kernel
theorem dL_asleepIn_12 : decode cL_asleepIn 12 = .ok (.astore_n 3, 1) := by decide +kernel
theorem dL_asleepIn_13 : decode cL_asleepIn 13 = .ok (.iconst 1, 1) := by decide +kernel
theorem dL_asleepIn_14 : decode cL_asleepIn 14 = .ok (.ireturn, 1) := by decide +kernel
theorem dL_asleepIn_15 : decode cL_asleepIn 15 = .ok (.iconst 0, 1) := by decide +kernel
theorem dL_asleepIn_16 : decode cL_asleepIn 16 = .ok (.ireturn, 1) := by decide +kernel
set_option maxRecDepth 20000 in
theorem ggL_bestToDeclare_X1_bestToDeclare : GoodIn wsL_bestToDeclare wsX1_bestToDeclare := goodIn_ca (goodIn_r _ [6, 7, 8, 9, 10, 11, 12, 13, 5, 14, 15, 16, 17, 18, 19, 20, 21, 22, 23, 24, 25, 26, 27, 28, 29, 30, 31, 32, 33, 34, 35, 36, 37, 38, 39, 40, 41, 42, 43, 44, 45, 46, 47, 48, 49, 50, 51, 52, 53, 54, 55, 56, 57, 58, 59, 60, 61, 62, 63, 64, 65, 66, 67, 68, 69, 70, 71, 72, 73, 74, 75, 76, 77, 78, 79, 80, 81, 82, 83, 84, 85, 86, 87, 88, 89, 90, 91, 92, 93, 94, 95, 96, 97, 98, 99, 100, 101, 102, 103, 104, 105, 106, 107, 108, 109, 110, 111, 112, 113, 114, 115, 116, 117, 118, 119, 120, 121, 122, 123] (by decide +kernel) (by decide +kernel)) (goodIn_sub (fun _ h => List.mem_cons_of_mem _ (List.mem_append_right _ h)) (by decide +kernel))
set_option maxRecDepth 20000 in
theorem gL_bestToDeclare_X1_bestToDeclare : GoodIn wsL_bestToDeclare (wsV RL 71 RX1 yX1_bestToDeclare wsX1_bestToDeclare) := goodIn_app (goodIn_of _ (by decide +kernel)) ggL_bestToDeclare_X1_bestToDeclare
theorem dL_bestToDeclare_0 : decode cL_bestToDeclare 0 = .ok (.aload_n 2, 1) := by decide +kernel
theorem dL_bestToDeclare_1 : decode cL_bestToDeclare 1 = .ok (.iconst 0, 1) := by decide +kernel
theorem dL_bestToDeclare_2 : decode cL_bestToDeclare 2 = .ok (.aload_n 0, 1) := by decide +kernel
theorem dL_bestToDeclare_3 : decode cL_bestToDeclare 3 = .ok (.iload_n 1, 1) := by decide +kernel
theorem dL_bestToDeclare_4 : decode cL_bestToDeclare 4 = .ok (.invokevirtual 71, 3) := by decide +kernel
theorem dL_bestToDeclare_7 : decode cL_bestToDeclare 7 = .ok (.i2l, 1) := by decide +kernel
theorem dL_bestToDeclare_8 : decode cL_bestToDeclare 8 = .ok (.lastore, 1) := by decide +kernel
theorem dL_bestToDeclare_9 : decode cL_bestToDeclare 9 = .ok (.goto 6, 3) := by decide +kernel
theorem dL_bestToDeclare_12 : decode cL_bestToDeclare 12 = .ok (.astore_n 3, 1) := by decide +kernel
theorem dL_bestToDeclare_13 : decode cL_bestToDeclare 13 = .ok (.iconst 1, 1) := by decide +kernel
theorem dL_bestToDeclare_14 : decode cL_bestToDeclare 14 = .ok (.ireturn, 1) := by decide +kernel
theorem dL_bestToDeclare_15 : decode cL_bestToDeclare 15 = .ok (.iconst 0, 1) := by decide +kernel
theorem dL_bestToDeclare_16 : decode cL_bestToDeclare 16 = .ok (.ireturn, 1) := by decide +kernel
end
section
set_option maxRecDepth 20000 in
theorem ggL_law_X1_init : GoodIn wsL_law wsX1_init := goodIn_r _ [9, 10, 11, 12, 13, 14, 15, 16, 17, 18, 19, 20, 21, 22, 23, 24, 25, 26, 27, 28, 29, 30, 31, 32, 33, 34, 35, 36, 679, 680, 681, 682, 683, 684, 685, 686, 687, 688, 689, 690, 691, 692, 693, 670, 671] (by decide +kernel) (by decide +kernel)
set_option maxRecDepth 20000 in
theorem gL_law_X1_init : GoodIn wsL_law (wsX1_init) := ggL_law_X1_init
set_option maxRecDepth 20000 in
theorem ggL_law_X2_init : GoodIn wsL_law wsX2_init := goodIn_r _ [39, 40, 11, 12, 25, 41, 42, 43, 44, 45, 46, 672, 673, 674, 675, 676, 677, 678] (by decide +kernel) (by decide +kernel)
set_option maxRecDepth 20000 in
theorem gL_law_X2_init : GoodIn wsL_law (wsX2_init) := ggL_law_X2_init
set_option maxRecDepth 20000 in
theorem ggL_law_L_addGuard : GoodIn wsL_law wsL_addGuard := goodIn_ca (goodIn_r _ [50, 51, 52, 53, 54, 2, 55, 56, 57, 16, 58, 59, 60, 61, 15, 62, 33, 34, 35, 36, 670, 671, 679, 680, 681, 682, 683, 684, 685, 686, 687, 688, 689, 690, 691, 692, 693] (by decide +kernel) (by decide +kernel)) (goodIn_sub (fun _ h => List.mem_append_left _ (List.mem_append_left _ (List.mem_append_right _ h))) (by decide +kernel))
set_option maxRecDepth 20000 in
theorem gL_law_L_addGuard : GoodIn wsL_law (va_wsS RL 78 yL_addGuard wsL_addGuard) := goodIn_app (goodIn_of _ (by decide +kernel)) ggL_law_L_addGuard
set_option maxRecDepth 20000 in
theorem ggL_law_X2_addGuard : GoodIn wsL_law wsX2_addGuard := goodIn_r _ [66, 67, 43, 68, 69, 70, 5, 71, 72, 73, 74, 75, 76, 77, 78, 79, 672, 673, 674, 675, 676, 677, 678] (by decide +kernel) (by decide +kernel)
set_option maxRecDepth 20000 in
theorem gL_law_X2_addGuard : GoodIn wsL_law (wsV RL 83 RX2 yX2_addGuard wsX2_addGuard) := goodIn_app (goodIn_of _ (by decide +kernel)) ggL_law_X2_addGuard
set_option maxRecDepth 20000 in
theorem ggL_law_X2_thrown : GoodIn wsL_law wsX2_thrown := goodIn_r _ [83, 67, 672, 673, 674, 675, 676, 677, 678] (by decide +kernel) (by decide +kernel)
set_option maxRecDepth 20000 in
theorem gL_law_X2_thrown : GoodIn wsL_law (wsV RL 84 RX2 yX2_thrown wsX2_thrown) := goodIn_app (goodIn_of _ (by decide +kernel)) ggL_law_X2_thrown
set_option maxRecDepth 20000 in
theorem ggL_law_L_arrive : GoodIn wsL_law wsL_arrive := goodIn_ca (goodIn_ca (goodIn_r _ [86, 87, 51, 88, 89, 90, 2, 91, 56, 57, 16, 92, 93, 94, 95, 96, 97, 98, 99, 100, 101, 102, 103, 15, 104, 24, 26, 27, 28, 29, 30, 670, 671, 679, 680, 681, 682, 683, 684, 685, 686, 687, 688, 689, 690, 691, 692, 693] (by decide +kernel) (by decide +kernel)) (goodIn_sub (fun _ h => List.mem_append_left _ (List.mem_append_left _ (List.mem_append_right _ h))) (by decide +kernel))) (goodIn_sub (fun _ h => List.mem_append_left _ (List.mem_append_right _ h)) (by decide +kernel))
set_option maxRecDepth 20000 in
theorem gL_law_L_arrive : GoodIn wsL_law (va_wsS RL 87 yL_arrive wsL_arrive) := goodIn_app (goodIn_of _ (by decide +kernel)) ggL_law_L_arrive
set_option maxRecDepth 20000 in
theorem ggL_law_X2_arrive : GoodIn wsL_law wsX2_arrive := goodIn_r _ [108, 67, 109, 41, 42, 110, 111, 5, 112, 68, 69, 70, 71, 113, 114, 115, 116, 43, 672, 673, 674, 675, 676, 677, 678] (by decide +kernel) (by decide +kernel)
set_option maxRecDepth 20000 in
theorem gL_law_X2_arrive : GoodIn wsL_law (wsV RL 90 RX2 yX2_arrive wsX2_arrive) := goodIn_app (goodIn_of _ (by decide +kernel)) ggL_law_X2_arrive
set_option maxRecDepth 20000 in
theorem ggL_law_L_declare : GoodIn wsL_law wsL_declare := goodIn_ca (goodIn_ca (goodIn_ca (goodIn_r _ [119, 120, 87, 51, 121, 122, 123, 2, 124, 16, 125, 126, 127, 128, 129, 130, 131, 132, 133, 134, 15, 135, 24, 93, 94, 95, 96, 97, 136, 137, 138, 139, 56, 57, 140, 670, 671, 679, 680, 681, 682, 683, 684, 685, 686, 687, 688, 689, 690, 691, 692, 693] (by decide +kernel) (by decide +kernel)) (goodIn_sub (fun _ h => List.mem_append_right _ h) (by decide +kernel))) (goodIn_sub (fun _ h => List.mem_append_left _ (List.mem_append_right _ h)) (by decide +kernel))) (goodIn_sub (fun _ h => List.mem_append_left _ (List.mem_append_left _ (List.mem_append_right _ h))) (by decide +kernel))
set_option maxRecDepth 20000 in
theorem gL_law_L_declare : GoodIn wsL_law (va_wsS RL 91 yL_declare wsL_declare) := goodIn_app (goodIn_of _ (by decide +kernel)) ggL_law_L_declare
set_option maxRecDepth 20000 in
theorem ggL_law_X2_declare : GoodIn wsL_law wsX2_declare := goodIn_r _ [144, 145, 146, 147, 5, 148, 67, 149, 150, 151, 152, 109, 110, 111, 112, 68, 69, 70, 71, 153, 154, 155, 156, 43, 113, 114, 115, 116, 672, 673, 674, 675, 676, 677, 678] (by decide +kernel) (by decide +kernel)
set_option maxRecDepth 20000 in
theorem gL_law_X2_declare : GoodIn wsL_law (wsV RL 94 RX2 yX2_declare wsX2_declare) := goodIn_app (goodIn_of _ (by decide +kernel)) ggL_law_X2_declare
set_option maxRecDepth 20000 in
theorem ggL_law_L_sing : GoodIn wsL_law wsL_sing := goodIn_ca (goodIn_ca (goodIn_ca (goodIn_r _ [159, 120, 87, 51, 160, 161, 162, 2, 163, 16, 164, 126, 127, 128, 129, 130, 131, 132, 133, 134, 15, 135, 24, 98, 99, 100, 96, 97, 136, 137, 138, 139, 56, 57, 140, 670, 671, 679, 680, 681, 682, 683, 684, 685, 686, 687, 688, 689, 690, 691, 692, 693] (by decide +kernel) (by decide +kernel)) (goodIn_sub (fun _ h => List.mem_append_right _ h) (by decide +kernel))) (goodIn_sub (fun _ h => List.mem_append_left _ (List.mem_append_right _ h)) (by decide +kernel))) (goodIn_sub (fun _ h => List.mem_append_left _ (List.mem_append_left _ (List.mem_append_right _ h))) (by decide +kernel))
set_option maxRecDepth 20000 in
theorem gL_law_L_sing : GoodIn wsL_law (va_wsS RL 95 yL_sing wsL_sing) := goodIn_app (goodIn_of _ (by decide +kernel)) ggL_law_L_sing
set_option maxRecDepth 20000 in
theorem ggL_law_X2_sing : GoodIn wsL_law wsX2_sing := goodIn_r _ [168, 145, 146, 147, 5, 148, 67, 149, 150, 151, 152, 109, 110, 111, 112, 68, 69, 70, 71, 153, 154, 155, 156, 43, 113, 114, 115, 116, 672, 673, 674, 675, 676, 677, 678] (by decide +kernel) (by decide +kernel)
set_option maxRecDepth 20000 in
theorem gL_law_X2_sing : GoodIn wsL_law (wsV RL 97 RX2 yX2_sing wsX2_sing) := goodIn_app (goodIn_of _ (by decide +kernel)) ggL_law_X2_sing
set_option maxRecDepth 20000 in
theorem ggL_law_L_wake : GoodIn wsL_law wsL_wake := goodIn_ca (goodIn_r _ [171, 120, 172, 173, 174, 2, 175, 16, 176, 177, 178, 179, 180, 130, 131, 181, 182, 183, 15, 184, 33, 670, 671, 679, 680, 681, 682, 683, 684, 685, 686, 687, 688, 689, 690, 691, 692, 693] (by decide +kernel) (by decide +kernel)) (goodIn_sub (fun _ h => List.mem_append_right _ h) (by decide +kernel))
set_option maxRecDepth 20000 in
theorem gL_law_L_wake : GoodIn wsL_law (va_wsS RL 98 yL_wake wsL_wake) := goodIn_app (goodIn_of _ (by decide +kernel)) ggL_law_L_wake
set_option maxRecDepth 20000 in
theorem ggL_law_X2_wake : GoodIn wsL_law wsX2_wake := goodIn_r _ [188, 67, 189, 190, 191, 5, 192, 43, 110, 111, 112, 68, 69, 70, 71, 193, 194, 195, 196, 76, 77, 78, 79, 672, 673, 674, 675, 676, 677, 678] (by decide +kernel) (by decide +kernel)
set_option maxRecDepth 20000 in
theorem gL_law_X2_wake : GoodIn wsL_law (wsV RL 101 RX2 yX2_wake wsX2_wake) := goodIn_app (goodIn_of _ (by decide +kernel)) ggL_law_X2_wake
set_option maxRecDepth 20000 in
theorem ggL_law_L_pass : GoodIn wsL_law wsL_pass := goodIn_ca (goodIn_r _ [199, 87, 200, 201, 202, 2, 203, 16, 98, 99, 100, 96, 97, 204, 205, 206, 15, 207, 24, 30, 208, 209, 210, 211, 33, 21, 212, 213, 214, 215, 31, 32, 216, 217, 218, 219, 29, 22, 220, 221, 222, 223, 35, 34, 224, 225, 226, 227, 228, 133, 134, 135, 229, 230, 231, 232, 36, 23, 233, 234, 235, 236, 237, 238, 239, 240, 241, 242, 243, 26, 27, 244, 245, 246, 247, 248, 249, 250, 251, 252, 253, 254, 255, 256, 257, 258, 259, 28, 670, 671, 679, 680, 681, 682, 683, 684, 685, 686, 687, 688, 689, 690, 691, 692, 693] (by decide +kernel) (by decide +kernel)) (goodIn_sub (fun _ h => List.mem_append_left _ (List.mem_append_right _ h)) (by decide +kernel))
set_option maxRecDepth 20000 in
theorem gL_law_L_pass : GoodIn wsL_law (va_wsS RL 102 yL_pass wsL_pass) := goodIn_app (goodIn_of _ (by decide +kernel)) ggL_law_L_pass
set_option maxRecDepth 20000 in
theorem ggL_law_X2_pass : GoodIn wsL_law wsX2_pass := goodIn_r _ [263, 67, 110, 111, 5, 112, 68, 69, 70, 71, 264, 265, 266, 267, 109, 153, 154, 155, 156, 43, 268, 269, 270, 271, 272, 273, 274, 275, 46, 193, 194, 195, 196, 276, 277, 278, 279, 113, 114, 115, 116, 280, 281, 282, 283, 284, 285, 286, 287, 288, 225, 226, 227, 289, 290, 291, 292, 76, 77, 78, 79, 293, 294, 295, 296, 297, 298, 299, 300, 42, 301, 302, 303, 304, 305, 234, 235, 306, 307, 308, 309, 310, 311, 312, 313, 41, 672, 673, 674, 675, 676, 677, 678] (by decide +kernel) (by decide +kernel)
set_option maxRecDepth 20000 in
theorem gL_law_X2_pass : GoodIn wsL_law (wsV RL 104 RX2 yX2_pass wsX2_pass) := goodIn_app (goodIn_of _ (by decide +kernel)) ggL_law_X2_pass
set_option maxRecDepth 20000 in
theorem ggL_law_X1_minute : GoodIn wsL_law wsX1_minute := goodIn_r _ [317, 16, 318, 670, 671, 679, 680, 681, 682, 683, 684, 685, 686, 687, 688, 689, 690, 691, 692, 693] (by decide +kernel) (by decide +kernel)
set_option maxRecDepth 20000 in
theorem gL_law_X1_minute : GoodIn wsL_law (wsV RL 105 RX1 yX1_minute wsX1_minute) := goodIn_app (goodIn_of _ (by decide +kernel)) ggL_law_X1_minute
set_option maxRecDepth 20000 in
theorem ggL_law_X2_minute : GoodIn wsL_law wsX2_minute := goodIn_r _ [322, 43, 323, 324, 325, 5, 326, 67, 672, 673, 674, 675, 676, 677, 678] (by decide +kernel) (by decide +kernel)
set_option maxRecDepth 20000 in
theorem gL_law_X2_minute : GoodIn wsL_law (wsV RL 108 RX2 yX2_minute wsX2_minute) := goodIn_app (goodIn_of _ (by decide +kernel)) ggL_law_X2_minute
set_option maxRecDepth 20000 in
theorem ggL_law_X1_travellers : GoodIn wsL_law wsX1_travellers := goodIn_r _ [330, 16, 92, 670, 671, 679, 680, 681, 682, 683, 684, 685, 686, 687, 688, 689, 690, 691, 692, 693] (by decide +kernel) (by decide +kernel)
set_option maxRecDepth 20000 in
theorem gL_law_X1_travellers : GoodIn wsL_law (wsV RL 109 RX1 yX1_travellers wsX1_travellers) := goodIn_app (goodIn_of _ (by decide +kernel)) ggL_law_X1_travellers
set_option maxRecDepth 20000 in
theorem ggL_law_X2_travellers : GoodIn wsL_law wsX2_travellers := goodIn_r _ [334, 109, 323, 324, 325, 5, 326, 67, 672, 673, 674, 675, 676, 677, 678] (by decide +kernel) (by decide +kernel)
set_option maxRecDepth 20000 in
theorem gL_law_X2_travellers : GoodIn wsL_law (wsV RL 112 RX2 yX2_travellers wsX2_travellers) := goodIn_app (goodIn_of _ (by decide +kernel)) ggL_law_X2_travellers
set_option maxRecDepth 20000 in
theorem ggL_law_X1_waiting : GoodIn wsL_law wsX1_waiting := goodIn_r _ [338, 16, 204, 205, 206, 15, 207, 24, 30, 670, 671, 679, 680, 681, 682, 683, 684, 685, 686, 687, 688, 689, 690, 691, 692, 693] (by decide +kernel) (by decide +kernel)
set_option maxRecDepth 20000 in
theorem gL_law_X1_waiting : GoodIn wsL_law (wsV RL 113 RX1 yX1_waiting wsX1_waiting) := goodIn_app (goodIn_of _ (by decide +kernel)) ggL_law_X1_waiting
set_option maxRecDepth 20000 in
theorem ggL_law_X2_waiting : GoodIn wsL_law wsX2_waiting := goodIn_r _ [342, 264, 265, 266, 5, 267, 109, 153, 154, 155, 156, 43, 323, 324, 325, 326, 67, 672, 673, 674, 675, 676, 677, 678] (by decide +kernel) (by decide +kernel)
set_option maxRecDepth 20000 in
theorem gL_law_X2_waiting : GoodIn wsL_law (wsV RL 116 RX2 yX2_waiting wsX2_waiting) := goodIn_app (goodIn_of _ (by decide +kernel)) ggL_law_X2_waiting
set_option maxRecDepth 20000 in
theorem ggL_law_X1_asleep : GoodIn wsL_law wsX1_asleep := goodIn_r _ [346, 16, 204, 205, 206, 15, 207, 24, 30, 670, 671, 679, 680, 681, 682, 683, 684, 685, 686, 687, 688, 689, 690, 691, 692, 693] (by decide +kernel) (by decide +kernel)
set_option maxRecDepth 20000 in
theorem gL_law_X1_asleep : GoodIn wsL_law (wsV RL 117 RX1 yX1_asleep wsX1_asleep) := goodIn_app (goodIn_of _ (by decide +kernel)) ggL_law_X1_asleep
set_option maxRecDepth 20000 in
theorem ggL_law_X2_asleep : GoodIn wsL_law wsX2_asleep := goodIn_r _ [350, 264, 265, 266, 5, 267, 109, 153, 154, 155, 156, 43, 323, 324, 325, 326, 67, 672, 673, 674, 675, 676, 677, 678] (by decide +kernel) (by decide +kernel)
set_option maxRecDepth 20000 in
theorem gL_law_X2_asleep : GoodIn wsL_law (wsV RL 120 RX2 yX2_asleep wsX2_asleep) := goodIn_app (goodIn_of _ (by decide +kernel)) ggL_law_X2_asleep
set_option maxRecDepth 20000 in
theorem ggL_law_X1_sentBack : GoodIn wsL_law wsX1_sentBack := goodIn_r _ [354, 16, 204, 205, 206, 15, 207, 24, 30, 670, 671, 679, 680, 681, 682, 683, 684, 685, 686, 687, 688, 689, 690, 691, 692, 693] (by decide +kernel) (by decide +kernel)
set_option maxRecDepth 20000 in
theorem gL_law_X1_sentBack : GoodIn wsL_law (wsV RL 121 RX1 yX1_sentBack wsX1_sentBack) := goodIn_app (goodIn_of _ (by decide +kernel)) ggL_law_X1_sentBack
set_option maxRecDepth 20000 in
theorem ggL_law_X2_sentBack : GoodIn wsL_law wsX2_sentBack := goodIn_r _ [358, 264, 265, 266, 5, 267, 109, 153, 154, 155, 156, 43, 323, 324, 325, 326, 67, 672, 673, 674, 675, 676, 677, 678] (by decide +kernel) (by decide +kernel)
set_option maxRecDepth 20000 in
theorem gL_law_X2_sentBack : GoodIn wsL_law (wsV RL 124 RX2 yX2_sentBack wsX2_sentBack) := goodIn_app (goodIn_of _ (by decide +kernel)) ggL_law_X2_sentBack
set_option maxRecDepth 20000 in
theorem ggL_law_X1_expired : GoodIn wsL_law wsX1_expired := goodIn_r _ [362, 16, 363, 670, 671, 679, 680, 681, 682, 683, 684, 685, 686, 687, 688, 689, 690, 691, 692, 693] (by decide +kernel) (by decide +kernel)
set_option maxRecDepth 20000 in
theorem gL_law_X1_expired : GoodIn wsL_law (wsV RL 125 RX1 yX1_expired wsX1_expired) := goodIn_app (goodIn_of _ (by decide +kernel)) ggL_law_X1_expired
set_option maxRecDepth 20000 in
theorem ggL_law_X2_expired : GoodIn wsL_law wsX2_expired := goodIn_r _ [367, 43, 323, 324, 325, 5, 326, 67, 672, 673, 674, 675, 676, 677, 678] (by decide +kernel) (by decide +kernel)
set_option maxRecDepth 20000 in
theorem gL_law_X2_expired : GoodIn wsL_law (wsV RL 128 RX2 yX2_expired wsX2_expired) := goodIn_app (goodIn_of _ (by decide +kernel)) ggL_law_X2_expired
set_option maxRecDepth 20000 in
theorem ggL_law_X1_paid : GoodIn wsL_law wsX1_paid := goodIn_r _ [371, 16, 372, 670, 671, 679, 680, 681, 682, 683, 684, 685, 686, 687, 688, 689, 690, 691, 692, 693] (by decide +kernel) (by decide +kernel)
set_option maxRecDepth 20000 in
theorem gL_law_X1_paid : GoodIn wsL_law (wsV RL 129 RX1 yX1_paid wsX1_paid) := goodIn_app (goodIn_of _ (by decide +kernel)) ggL_law_X1_paid
set_option maxRecDepth 20000 in
theorem ggL_law_X2_paid : GoodIn wsL_law wsX2_paid := goodIn_r _ [376, 43, 323, 324, 325, 5, 326, 67, 672, 673, 674, 675, 676, 677, 678] (by decide +kernel) (by decide +kernel)
set_option maxRecDepth 20000 in
theorem gL_law_X2_paid : GoodIn wsL_law (wsV RL 132 RX2 yX2_paid wsX2_paid) := goodIn_app (goodIn_of _ (by decide +kernel)) ggL_law_X2_paid
set_option maxRecDepth 20000 in
theorem ggL_law_X1_noise : GoodIn wsL_law wsX1_noise := goodIn_r _ [380, 16, 381, 257, 258, 15, 259, 24, 30, 28, 670, 671, 679, 680, 681, 682, 683, 684, 685, 686, 687, 688, 689, 690, 691, 692, 693] (by decide +kernel) (by decide +kernel)
set_option maxRecDepth 20000 in
theorem gL_law_X1_noise : GoodIn wsL_law (wsV RL 133 RX1 yX1_noise wsX1_noise) := goodIn_app (goodIn_of _ (by decide +kernel)) ggL_law_X1_noise
set_option maxRecDepth 20000 in
theorem ggL_law_X2_noise : GoodIn wsL_law wsX2_noise := goodIn_r _ [385, 297, 298, 299, 5, 300, 109, 42, 153, 154, 155, 156, 43, 323, 324, 325, 326, 67, 672, 673, 674, 675, 676, 677, 678] (by decide +kernel) (by decide +kernel)
set_option maxRecDepth 20000 in
theorem gL_law_X2_noise : GoodIn wsL_law (wsV RL 136 RX2 yX2_noise wsX2_noise) := goodIn_app (goodIn_of _ (by decide +kernel)) ggL_law_X2_noise
set_option maxRecDepth 20000 in
theorem ggL_law_X1_nextInLine : GoodIn wsL_law wsX1_nextInLine := goodIn_r _ [389, 16, 390, 245, 246, 15, 247, 24, 30, 670, 671, 679, 680, 681, 682, 683, 684, 685, 686, 687, 688, 689, 690, 691, 692, 693] (by decide +kernel) (by decide +kernel)
set_option maxRecDepth 20000 in
theorem gL_law_X1_nextInLine : GoodIn wsL_law (wsV RL 137 RX1 yX1_nextInLine wsX1_nextInLine) := goodIn_app (goodIn_of _ (by decide +kernel)) ggL_law_X1_nextInLine
set_option maxRecDepth 20000 in
theorem ggL_law_X2_nextInLine : GoodIn wsL_law wsX2_nextInLine := goodIn_r _ [394, 289, 290, 291, 5, 292, 109, 153, 154, 155, 156, 43, 323, 324, 325, 326, 67, 672, 673, 674, 675, 676, 677, 678] (by decide +kernel) (by decide +kernel)
set_option maxRecDepth 20000 in
theorem gL_law_X2_nextInLine : GoodIn wsL_law (wsV RL 140 RX2 yX2_nextInLine wsX2_nextInLine) := goodIn_app (goodIn_of _ (by decide +kernel)) ggL_law_X2_nextInLine
set_option maxRecDepth 20000 in
theorem ggL_law_L_stateOf : GoodIn wsL_law wsL_stateOf := goodIn_ca (goodIn_r _ [397, 120, 398, 399, 400, 2, 401, 16, 140, 126, 127, 128, 129, 130, 131, 132, 133, 134, 15, 135, 24, 670, 671, 679, 680, 681, 682, 683, 684, 685, 686, 687, 688, 689, 690, 691, 692, 693] (by decide +kernel) (by decide +kernel)) (goodIn_sub (fun _ h => List.mem_append_right _ h) (by decide +kernel))
set_option maxRecDepth 20000 in
theorem gL_law_L_stateOf : GoodIn wsL_law (va_wsS RL 141 yL_stateOf wsL_stateOf) := goodIn_app (goodIn_of _ (by decide +kernel)) ggL_law_L_stateOf
set_option maxRecDepth 20000 in
theorem ggL_law_X2_stateOf : GoodIn wsL_law wsX2_stateOf := goodIn_r _ [405, 67, 149, 150, 151, 5, 152, 109, 110, 111, 112, 153, 154, 155, 156, 43, 68, 69, 70, 71, 672, 673, 674, 675, 676, 677, 678] (by decide +kernel) (by decide +kernel)
set_option maxRecDepth 20000 in
theorem gL_law_X2_stateOf : GoodIn wsL_law (wsV RL 143 RX2 yX2_stateOf wsX2_stateOf) := goodIn_app (goodIn_of _ (by decide +kernel)) ggL_law_X2_stateOf
set_option maxRecDepth 20000 in
theorem ggL_law_L_hiddenOf : GoodIn wsL_law wsL_hiddenOf := goodIn_ca (goodIn_r _ [408, 120, 409, 410, 411, 2, 412, 16, 126, 127, 128, 129, 130, 131, 132, 133, 134, 15, 135, 24, 413, 241, 242, 243, 26, 27, 233, 234, 226, 235, 670, 671, 679, 680, 681, 682, 683, 684, 685, 686, 687, 688, 689, 690, 691, 692, 693] (by decide +kernel) (by decide +kernel)) (goodIn_sub (fun _ h => List.mem_append_right _ h) (by decide +kernel))
set_option maxRecDepth 20000 in
theorem gL_law_L_hiddenOf : GoodIn wsL_law (va_wsS RL 144 yL_hiddenOf wsL_hiddenOf) := goodIn_app (goodIn_of _ (by decide +kernel)) ggL_law_L_hiddenOf
set_option maxRecDepth 20000 in
theorem ggL_law_X2_hiddenOf : GoodIn wsL_law wsX2_hiddenOf := goodIn_r _ [417, 67, 149, 150, 151, 5, 152, 109, 110, 111, 112, 310, 311, 312, 313, 41, 305, 234, 226, 235, 153, 154, 155, 156, 43, 68, 69, 70, 71, 672, 673, 674, 675, 676, 677, 678] (by decide +kernel) (by decide +kernel)
set_option maxRecDepth 20000 in
theorem gL_law_X2_hiddenOf : GoodIn wsL_law (wsV RL 146 RX2 yX2_hiddenOf wsX2_hiddenOf) := goodIn_app (goodIn_of _ (by decide +kernel)) ggL_law_X2_hiddenOf
set_option maxRecDepth 20000 in
theorem ggL_law_L_lullabyOf : GoodIn wsL_law wsL_lullabyOf := goodIn_ca (goodIn_r _ [420, 120, 421, 422, 423, 2, 424, 16, 164, 126, 127, 128, 129, 130, 131, 132, 133, 134, 15, 135, 24, 670, 671, 679, 680, 681, 682, 683, 684, 685, 686, 687, 688, 689, 690, 691, 692, 693] (by decide +kernel) (by decide +kernel)) (goodIn_sub (fun _ h => List.mem_append_right _ h) (by decide +kernel))
set_option maxRecDepth 20000 in
theorem gL_law_L_lullabyOf : GoodIn wsL_law (va_wsS RL 147 yL_lullabyOf wsL_lullabyOf) := goodIn_app (goodIn_of _ (by decide +kernel)) ggL_law_L_lullabyOf
set_option maxRecDepth 20000 in
theorem ggL_law_X2_lullabyOf : GoodIn wsL_law wsX2_lullabyOf := goodIn_r _ [428, 67, 149, 150, 151, 5, 152, 109, 110, 111, 112, 153, 154, 155, 156, 43, 68, 69, 70, 71, 672, 673, 674, 675, 676, 677, 678] (by decide +kernel) (by decide +kernel)
set_option maxRecDepth 20000 in
theorem gL_law_X2_lullabyOf : GoodIn wsL_law (wsV RL 149 RX2 yX2_lullabyOf wsX2_lullabyOf) := goodIn_app (goodIn_of _ (by decide +kernel)) ggL_law_X2_lullabyOf
set_option maxRecDepth 20000 in
theorem ggL_law_L_placeInLine : GoodIn wsL_law wsL_placeInLine := goodIn_ca (goodIn_r _ [431, 120, 432, 433, 434, 2, 435, 16, 140, 126, 127, 128, 129, 130, 131, 132, 133, 134, 15, 135, 24, 436, 437, 438, 439, 30, 670, 671, 679, 680, 681, 682, 683, 684, 685, 686, 687, 688, 689, 690, 691, 692, 693] (by decide +kernel) (by decide +kernel)) (goodIn_sub (fun _ h => List.mem_append_right _ h) (by decide +kernel))
set_option maxRecDepth 20000 in
theorem gL_law_L_placeInLine : GoodIn wsL_law (va_wsS RL 150 yL_placeInLine wsL_placeInLine) := goodIn_app (goodIn_of _ (by decide +kernel)) ggL_law_L_placeInLine
set_option maxRecDepth 20000 in
theorem ggL_law_X2_placeInLine : GoodIn wsL_law wsX2_placeInLine := goodIn_r _ [443, 67, 149, 150, 151, 5, 152, 109, 110, 111, 112, 444, 445, 446, 447, 153, 154, 155, 156, 43, 68, 69, 70, 71, 672, 673, 674, 675, 676, 677, 678] (by decide +kernel) (by decide +kernel)
set_option maxRecDepth 20000 in
theorem gL_law_X2_placeInLine : GoodIn wsL_law (wsV RL 152 RX2 yX2_placeInLine wsX2_placeInLine) := goodIn_app (goodIn_of _ (by decide +kernel)) ggL_law_X2_placeInLine
set_option maxRecDepth 20000 in
theorem ggL_law_L_searchTime : GoodIn wsL_law wsL_searchTime := goodIn_ca (goodIn_r _ [450, 120, 451, 452, 453, 2, 454, 16, 126, 127, 128, 129, 130, 131, 132, 133, 134, 15, 135, 24, 455, 253, 254, 255, 27, 256, 257, 258, 259, 30, 28, 670, 671, 679, 680, 681, 682, 683, 684, 685, 686, 687, 688, 689, 690, 691, 692, 693] (by decide +kernel) (by decide +kernel)) (goodIn_sub (fun _ h => List.mem_append_right _ h) (by decide +kernel))
set_option maxRecDepth 20000 in
theorem gL_law_L_searchTime : GoodIn wsL_law (va_wsS RL 153 yL_searchTime wsL_searchTime) := goodIn_app (goodIn_of _ (by decide +kernel)) ggL_law_L_searchTime
set_option maxRecDepth 20000 in
theorem ggL_law_X2_searchTime : GoodIn wsL_law wsX2_searchTime := goodIn_r _ [459, 67, 149, 150, 151, 5, 152, 109, 110, 111, 112, 293, 294, 295, 296, 153, 154, 155, 156, 43, 297, 298, 299, 300, 42, 68, 69, 70, 71, 672, 673, 674, 675, 676, 677, 678] (by decide +kernel) (by decide +kernel)
set_option maxRecDepth 20000 in
theorem gL_law_X2_searchTime : GoodIn wsL_law (wsV RL 155 RX2 yX2_searchTime wsX2_searchTime) := goodIn_app (goodIn_of _ (by decide +kernel)) ggL_law_X2_searchTime
set_option maxRecDepth 20000 in
theorem ggL_law_X1_guards : GoodIn wsL_law wsX1_guards := goodIn_r _ [463, 16, 58, 670, 671, 679, 680, 681, 682, 683, 684, 685, 686, 687, 688, 689, 690, 691, 692, 693] (by decide +kernel) (by decide +kernel)
set_option maxRecDepth 20000 in
theorem gL_law_X1_guards : GoodIn wsL_law (wsV RL 156 RX1 yX1_guards wsX1_guards) := goodIn_app (goodIn_of _ (by decide +kernel)) ggL_law_X1_guards
set_option maxRecDepth 20000 in
theorem ggL_law_X2_guards : GoodIn wsL_law wsX2_guards := goodIn_r _ [467, 43, 323, 324, 325, 5, 326, 67, 672, 673, 674, 675, 676, 677, 678] (by decide +kernel) (by decide +kernel)
set_option maxRecDepth 20000 in
theorem gL_law_X2_guards : GoodIn wsL_law (wsV RL 159 RX2 yX2_guards wsX2_guards) := goodIn_app (goodIn_of _ (by decide +kernel)) ggL_law_X2_guards
set_option maxRecDepth 20000 in
theorem ggL_law_L_alertnessOf : GoodIn wsL_law wsL_alertnessOf := goodIn_ca (goodIn_r _ [470, 120, 471, 472, 473, 2, 474, 16, 176, 177, 178, 179, 180, 130, 131, 181, 182, 183, 15, 184, 33, 670, 671, 679, 680, 681, 682, 683, 684, 685, 686, 687, 688, 689, 690, 691, 692, 693] (by decide +kernel) (by decide +kernel)) (goodIn_sub (fun _ h => List.mem_append_right _ h) (by decide +kernel))
set_option maxRecDepth 20000 in
theorem gL_law_L_alertnessOf : GoodIn wsL_law (va_wsS RL 160 yL_alertnessOf wsL_alertnessOf) := goodIn_app (goodIn_of _ (by decide +kernel)) ggL_law_L_alertnessOf
set_option maxRecDepth 20000 in
theorem ggL_law_X2_alertnessOf : GoodIn wsL_law wsX2_alertnessOf := goodIn_r _ [478, 479, 480, 481, 5, 482, 67, 189, 190, 191, 192, 43, 110, 111, 112, 193, 194, 195, 196, 68, 69, 70, 71, 672, 673, 674, 675, 676, 677, 678] (by decide +kernel) (by decide +kernel)
set_option maxRecDepth 20000 in
theorem gL_law_X2_alertnessOf : GoodIn wsL_law (wsV RL 162 RX2 yX2_alertnessOf wsX2_alertnessOf) := goodIn_app (goodIn_of _ (by decide +kernel)) ggL_law_X2_alertnessOf
set_option maxRecDepth 20000 in
theorem ggL_law_L_searches : GoodIn wsL_law wsL_searches := goodIn_ca (goodIn_r _ [485, 120, 486, 487, 488, 2, 489, 16, 490, 177, 178, 179, 180, 130, 131, 181, 182, 183, 15, 184, 33, 670, 671, 679, 680, 681, 682, 683, 684, 685, 686, 687, 688, 689, 690, 691, 692, 693] (by decide +kernel) (by decide +kernel)) (goodIn_sub (fun _ h => List.mem_append_right _ h) (by decide +kernel))
set_option maxRecDepth 20000 in
theorem gL_law_L_searches : GoodIn wsL_law (va_wsS RL 163 yL_searches wsL_searches) := goodIn_app (goodIn_of _ (by decide +kernel)) ggL_law_L_searches
set_option maxRecDepth 20000 in
theorem ggL_law_X2_searches : GoodIn wsL_law wsX2_searches := goodIn_r _ [494, 479, 480, 481, 5, 482, 67, 189, 190, 191, 192, 43, 110, 111, 112, 193, 194, 195, 196, 68, 69, 70, 71, 672, 673, 674, 675, 676, 677, 678] (by decide +kernel) (by decide +kernel)
set_option maxRecDepth 20000 in
theorem gL_law_X2_searches : GoodIn wsL_law (wsV RL 165 RX2 yX2_searches wsX2_searches) := goodIn_app (goodIn_of _ (by decide +kernel)) ggL_law_X2_searches
set_option maxRecDepth 20000 in
theorem ggL_law_L_minutesToGo : GoodIn wsL_law wsL_minutesToGo := goodIn_ca (goodIn_r _ [497, 120, 498, 499, 500, 2, 501, 16, 502, 177, 178, 179, 180, 130, 131, 181, 182, 183, 15, 184, 33, 670, 671, 679, 680, 681, 682, 683, 684, 685, 686, 687, 688, 689, 690, 691, 692, 693] (by decide +kernel) (by decide +kernel)) (goodIn_sub (fun _ h => List.mem_append_right _ h) (by decide +kernel))
set_option maxRecDepth 20000 in
theorem gL_law_L_minutesToGo : GoodIn wsL_law (va_wsS RL 166 yL_minutesToGo wsL_minutesToGo) := goodIn_app (goodIn_of _ (by decide +kernel)) ggL_law_L_minutesToGo
set_option maxRecDepth 20000 in
theorem ggL_law_X2_minutesToGo : GoodIn wsL_law wsX2_minutesToGo := goodIn_r _ [506, 479, 480, 481, 5, 482, 67, 189, 190, 191, 192, 43, 110, 111, 112, 193, 194, 195, 196, 68, 69, 70, 71, 672, 673, 674, 675, 676, 677, 678] (by decide +kernel) (by decide +kernel)
set_option maxRecDepth 20000 in
theorem gL_law_X2_minutesToGo : GoodIn wsL_law (wsV RL 168 RX2 yX2_minutesToGo wsX2_minutesToGo) := goodIn_app (goodIn_of _ (by decide +kernel)) ggL_law_X2_minutesToGo
set_option maxRecDepth 20000 in
theorem ggL_law_L_wouldFind : GoodIn wsL_law wsL_wouldFind := goodIn_ca (goodIn_r _ [509, 120, 510, 511, 512, 2, 513, 16, 177, 178, 179, 180, 130, 131, 181, 182, 183, 15, 184, 33, 126, 127, 128, 129, 132, 133, 134, 135, 24, 514, 237, 238, 239, 34, 240, 241, 242, 243, 26, 27, 233, 234, 226, 235, 670, 671, 679, 680, 681, 682, 683, 684, 685, 686, 687, 688, 689, 690, 691, 692, 693] (by decide +kernel) (by decide +kernel)) (goodIn_sub (fun _ h => List.mem_append_right _ h) (by decide +kernel))
set_option maxRecDepth 20000 in
theorem gL_law_L_wouldFind : GoodIn wsL_law (va_wsS RL 169 yL_wouldFind wsL_wouldFind) := goodIn_app (goodIn_of _ (by decide +kernel)) ggL_law_L_wouldFind
set_option maxRecDepth 20000 in
theorem ggL_law_X2_wouldFind : GoodIn wsL_law wsX2_wouldFind := goodIn_r _ [518, 67, 189, 190, 191, 5, 192, 43, 110, 111, 112, 149, 150, 151, 152, 109, 306, 307, 308, 309, 310, 311, 312, 313, 41, 305, 234, 226, 235, 153, 154, 155, 156, 193, 194, 195, 196, 672, 673, 674, 675, 676, 677, 678] (by decide +kernel) (by decide +kernel)
set_option maxRecDepth 20000 in
theorem gL_law_X2_wouldFind : GoodIn wsL_law (wsV RL 171 RX2 yX2_wouldFind wsX2_wouldFind) := goodIn_app (goodIn_of _ (by decide +kernel)) ggL_law_X2_wouldFind
set_option maxRecDepth 20000 in
theorem ggL_law_X1_mostAlert : GoodIn wsL_law wsX1_mostAlert := goodIn_r _ [522, 16, 58, 176, 670, 671, 679, 680, 681, 682, 683, 684, 685, 686, 687, 688, 689, 690, 691, 692, 693] (by decide +kernel) (by decide +kernel)
set_option maxRecDepth 20000 in
theorem gL_law_X1_mostAlert : GoodIn wsL_law (wsV RL 172 RX1 yX1_mostAlert wsX1_mostAlert) := goodIn_app (goodIn_of _ (by decide +kernel)) ggL_law_X1_mostAlert
set_option maxRecDepth 20000 in
theorem ggL_law_X2_mostAlert : GoodIn wsL_law wsX2_mostAlert := goodIn_r _ [526, 527, 528, 529, 5, 530, 43, 193, 194, 195, 196, 323, 324, 325, 326, 67, 672, 673, 674, 675, 676, 677, 678] (by decide +kernel) (by decide +kernel)
set_option maxRecDepth 20000 in
theorem gL_law_X2_mostAlert : GoodIn wsL_law (wsV RL 175 RX2 yX2_mostAlert wsX2_mostAlert) := goodIn_app (goodIn_of _ (by decide +kernel)) ggL_law_X2_mostAlert
set_option maxRecDepth 20000 in
theorem ggL_law_L_minutesUntilAsleep : GoodIn wsL_law wsL_minutesUntilAsleep := goodIn_ca (goodIn_r _ [533, 120, 534, 535, 536, 2, 537, 17, 16, 126, 127, 128, 129, 130, 131, 132, 133, 134, 15, 135, 24, 538, 539, 540, 541, 21, 22, 23, 26, 27, 28, 29, 30, 31, 32, 33, 34, 35, 36, 542, 543, 544, 545, 546, 547, 548, 549, 550, 209, 210, 211, 212, 213, 214, 215, 216, 217, 218, 219, 220, 221, 222, 223, 224, 225, 226, 227, 228, 229, 230, 231, 232, 233, 234, 235, 236, 237, 238, 239, 240, 241, 242, 243, 244, 245, 246, 247, 248, 249, 250, 251, 252, 253, 254, 255, 256, 257, 258, 259, 551, 552, 553, 554, 140, 555, 318, 670, 671, 679, 680, 681, 682, 683, 684, 685, 686, 687, 688, 689, 690, 691, 692, 693] (by decide +kernel) (by decide +kernel)) (goodIn_sub (fun _ h => List.mem_append_right _ h) (by decide +kernel))
set_option maxRecDepth 20000 in
theorem gL_law_L_minutesUntilAsleep : GoodIn wsL_law (va_wsS RL 176 yL_minutesUntilAsleep wsL_minutesUntilAsleep) := goodIn_app (goodIn_of _ (by decide +kernel)) ggL_law_L_minutesUntilAsleep
set_option maxRecDepth 20000 in
theorem ggL_law_X2_minutesUntilAsleep : GoodIn wsL_law wsX2_minutesUntilAsleep := goodIn_r _ [559, 67, 149, 150, 151, 5, 152, 109, 110, 111, 112, 560, 561, 562, 563, 564, 565, 566, 567, 43, 44, 568, 569, 570, 571, 572, 573, 574, 575, 153, 154, 155, 156, 272, 273, 274, 275, 46, 193, 194, 195, 196, 276, 277, 278, 279, 113, 114, 115, 116, 280, 281, 282, 283, 284, 285, 286, 287, 288, 225, 226, 227, 289, 290, 291, 292, 76, 77, 78, 79, 293, 294, 295, 296, 297, 298, 299, 300, 42, 301, 302, 303, 304, 305, 234, 235, 306, 307, 308, 309, 310, 311, 312, 313, 41, 576, 577, 578, 579, 68, 69, 70, 71, 672, 673, 674, 675, 676, 677, 678] (by decide +kernel) (by decide +kernel)
set_option maxRecDepth 20000 in
theorem gL_law_X2_minutesUntilAsleep : GoodIn wsL_law (wsV RL 178 RX2 yX2_minutesUntilAsleep wsX2_minutesUntilAsleep) := goodIn_app (goodIn_of _ (by decide +kernel)) ggL_law_X2_minutesUntilAsleep
set_option maxRecDepth 20000 in
theorem ggL_law_L_asleepIn : GoodIn wsL_law wsL_asleepIn := goodIn_ca (goodIn_r _ [582, 87, 583, 584, 585, 2, 586, 17, 16, 98, 99, 100, 96, 97, 538, 539, 540, 15, 541, 21, 22, 23, 24, 26, 27, 28, 29, 30, 31, 32, 33, 34, 35, 36, 542, 543, 544, 545, 546, 547, 548, 549, 550, 209, 210, 211, 212, 213, 214, 215, 216, 217, 218, 219, 220, 221, 222, 223, 224, 225, 226, 227, 228, 133, 134, 135, 229, 230, 231, 232, 233, 234, 235, 236, 237, 238, 239, 240, 241, 242, 243, 244, 245, 246, 247, 248, 249, 250, 251, 252, 253, 254, 255, 256, 257, 258, 259, 204, 205, 206, 207, 670, 671, 679, 680, 681, 682, 683, 684, 685, 686, 687, 688, 689, 690, 691, 692, 693] (by decide +kernel) (by decide +kernel)) (goodIn_sub (fun _ h => List.mem_append_left _ (List.mem_append_right _ h)) (by decide +kernel))
set_option maxRecDepth 20000 in
theorem gL_law_L_asleepIn : GoodIn wsL_law (va_wsS RL 179 yL_asleepIn wsL_asleepIn) := goodIn_app (goodIn_of _ (by decide +kernel)) ggL_law_L_asleepIn
set_option maxRecDepth 20000 in
theorem ggL_law_X2_asleepIn : GoodIn wsL_law wsX2_asleepIn := goodIn_r _ [590, 67, 110, 111, 5, 112, 591, 592, 593, 594, 564, 565, 566, 567, 43, 44, 568, 569, 570, 571, 268, 269, 270, 271, 272, 273, 274, 275, 46, 109, 193, 194, 195, 196, 276, 277, 278, 279, 153, 154, 155, 156, 113, 114, 115, 116, 280, 281, 282, 283, 284, 285, 286, 287, 288, 225, 226, 227, 289, 290, 291, 292, 76, 77, 78, 79, 293, 294, 295, 296, 297, 298, 299, 300, 42, 301, 302, 303, 304, 305, 234, 235, 306, 307, 308, 309, 310, 311, 312, 313, 41, 264, 265, 266, 267, 576, 577, 578, 579, 68, 69, 70, 71, 672, 673, 674, 675, 676, 677, 678] (by decide +kernel) (by decide +kernel)
set_option maxRecDepth 20000 in
theorem gL_law_X2_asleepIn : GoodIn wsL_law (wsV RL 181 RX2 yX2_asleepIn wsX2_asleepIn) := goodIn_app (goodIn_of _ (by decide +kernel)) ggL_law_X2_asleepIn
set_option maxRecDepth 20000 in
theorem ggL_law_L_bestToDeclare : GoodIn wsL_law wsL_bestToDeclare := goodIn_ca (goodIn_r _ [597, 120, 598, 599, 600, 2, 601, 16, 140, 17, 125, 126, 127, 128, 129, 130, 131, 132, 133, 134, 15, 135, 24, 538, 539, 540, 541, 21, 22, 23, 26, 27, 28, 29, 30, 31, 32, 33, 34, 35, 36, 542, 543, 544, 545, 546, 547, 548, 549, 550, 209, 210, 211, 212, 213, 214, 215, 216, 217, 218, 219, 220, 221, 222, 223, 224, 225, 226, 227, 228, 229, 230, 231, 232, 233, 234, 235, 236, 237, 238, 239, 240, 241, 242, 243, 244, 245, 246, 247, 248, 249, 250, 251, 252, 253, 254, 255, 256, 257, 258, 259, 551, 552, 553, 554, 555, 318, 670, 671, 679, 680, 681, 682, 683, 684, 685, 686, 687, 688, 689, 690, 691, 692, 693] (by decide +kernel) (by decide +kernel)) (goodIn_sub (fun _ h => List.mem_append_right _ h) (by decide +kernel))
set_option maxRecDepth 20000 in
theorem gL_law_L_bestToDeclare : GoodIn wsL_law (va_wsS RL 182 yL_bestToDeclare wsL_bestToDeclare) := goodIn_app (goodIn_of _ (by decide +kernel)) ggL_law_L_bestToDeclare
set_option maxRecDepth 20000 in
theorem ggL_law_X2_bestToDeclare : GoodIn wsL_law wsX2_bestToDeclare := goodIn_r _ [605, 67, 149, 150, 151, 5, 152, 109, 110, 111, 112, 68, 69, 70, 71, 153, 154, 155, 156, 43, 564, 565, 566, 567, 44, 568, 569, 570, 571, 113, 114, 115, 116, 572, 573, 574, 575, 272, 273, 274, 275, 46, 193, 194, 195, 196, 276, 277, 278, 279, 280, 281, 282, 283, 284, 285, 286, 287, 288, 225, 226, 227, 289, 290, 291, 292, 76, 77, 78, 79, 293, 294, 295, 296, 297, 298, 299, 300, 42, 301, 302, 303, 304, 305, 234, 235, 306, 307, 308, 309, 310, 311, 312, 313, 41, 576, 577, 578, 579, 672, 673, 674, 675, 676, 677, 678] (by decide +kernel) (by decide +kernel)
set_option maxRecDepth 20000 in
theorem gL_law_X2_bestToDeclare : GoodIn wsL_law (wsV RL 184 RX2 yX2_bestToDeclare wsX2_bestToDeclare) := goodIn_app (goodIn_of _ (by decide +kernel)) ggL_law_X2_bestToDeclare
set_option maxRecDepth 20000 in
theorem ggL_law_X1_guardsWanted : GoodIn wsL_law wsX1_guardsWanted := goodIn_r _ [609, 17, 16, 363, 538, 539, 540, 15, 541, 21, 22, 23, 24, 26, 27, 28, 29, 30, 31, 32, 33, 34, 35, 36, 59, 60, 61, 62, 542, 543, 544, 545, 546, 547, 548, 549, 550, 209, 210, 211, 212, 213, 214, 215, 216, 217, 218, 219, 220, 221, 222, 223, 224, 225, 226, 227, 228, 133, 134, 135, 229, 230, 231, 232, 233, 234, 235, 236, 237, 238, 239, 240, 241, 242, 243, 244, 245, 246, 247, 248, 249, 250, 251, 252, 253, 254, 255, 256, 257, 258, 259, 670, 671, 679, 680, 681, 682, 683, 684, 685, 686, 687, 688, 689, 690, 691, 692, 693] (by decide +kernel) (by decide +kernel)
set_option maxRecDepth 20000 in
theorem gL_law_X1_guardsWanted : GoodIn wsL_law (wsV RL 185 RX1 yX1_guardsWanted wsX1_guardsWanted) := goodIn_app (goodIn_of _ (by decide +kernel)) ggL_law_X1_guardsWanted
set_option maxRecDepth 20000 in
theorem ggL_law_X2_guardsWanted : GoodIn wsL_law wsX2_guardsWanted := goodIn_r _ [613, 614, 615, 616, 5, 617, 43, 564, 565, 566, 567, 44, 568, 569, 570, 571, 72, 73, 74, 75, 76, 77, 78, 79, 268, 269, 270, 271, 272, 273, 274, 275, 46, 109, 193, 194, 195, 196, 276, 277, 278, 279, 153, 154, 155, 156, 113, 114, 115, 116, 280, 281, 282, 283, 284, 285, 286, 287, 288, 225, 226, 227, 289, 290, 291, 292, 293, 294, 295, 296, 297, 298, 299, 300, 42, 301, 302, 303, 304, 305, 234, 235, 306, 307, 308, 309, 310, 311, 312, 313, 41, 576, 577, 578, 579, 323, 324, 325, 326, 67, 672, 673, 674, 675, 676, 677, 678] (by decide +kernel) (by decide +kernel)
set_option maxRecDepth 20000 in
theorem gL_law_X2_guardsWanted : GoodIn wsL_law (wsV RL 188 RX2 yX2_guardsWanted wsX2_guardsWanted) := goodIn_app (goodIn_of _ (by decide +kernel)) ggL_law_X2_guardsWanted
set_option maxRecDepth 20000 in
theorem ggL_law_X1_meanAlertness : GoodIn wsL_law wsX1_meanAlertness := goodIn_r _ [621, 16, 58, 176, 670, 671, 679, 680, 681, 682, 683, 684, 685, 686, 687, 688, 689, 690, 691, 692, 693] (by decide +kernel) (by decide +kernel)
set_option maxRecDepth 20000 in
theorem gL_law_X1_meanAlertness : GoodIn wsL_law (wsV RL 189 RX1 yX1_meanAlertness wsX1_meanAlertness) := goodIn_app (goodIn_of _ (by decide +kernel)) ggL_law_X1_meanAlertness
set_option maxRecDepth 20000 in
theorem ggL_law_X2_meanAlertness : GoodIn wsL_law wsX2_meanAlertness := goodIn_r _ [625, 67, 43, 193, 194, 195, 5, 196, 672, 673, 674, 675, 676, 677, 678] (by decide +kernel) (by decide +kernel)
set_option maxRecDepth 20000 in
theorem gL_law_X2_meanAlertness : GoodIn wsL_law (wsV RL 193 RX2 yX2_meanAlertness wsX2_meanAlertness) := goodIn_app (goodIn_of _ (by decide +kernel)) ggL_law_X2_meanAlertness
set_option maxRecDepth 20000 in
theorem ggL_law_X1_digest : GoodIn wsL_law wsX1_digest := goodIn_ca (goodIn_ca (goodIn_r _ [629, 630, 631, 315, 316, 2, 317, 16, 318, 632, 633, 634, 635, 636, 328, 329, 330, 92, 637, 336, 337, 338, 204, 205, 206, 15, 207, 24, 30, 638, 344, 345, 346, 639, 352, 353, 354, 640, 360, 361, 362, 363, 641, 369, 370, 371, 372, 642, 378, 379, 380, 381, 257, 258, 259, 28, 643, 387, 388, 389, 390, 245, 246, 247, 644, 461, 462, 463, 58, 645, 520, 521, 522, 176, 646, 584, 585, 586, 17, 98, 99, 100, 96, 97, 538, 539, 540, 541, 21, 22, 23, 26, 27, 29, 31, 32, 33, 34, 35, 36, 542, 543, 544, 545, 546, 547, 548, 549, 550, 209, 210, 211, 212, 213, 214, 215, 216, 217, 218, 219, 220, 221, 222, 223, 224, 225, 226, 227, 228, 133, 134, 135, 229, 230, 231, 232, 233, 234, 235, 236, 237, 238, 239, 240, 241, 242, 243, 244, 248, 249, 250, 251, 252, 253, 254, 255, 256, 647, 607, 608, 609, 59, 60, 61, 62, 648, 649, 650, 651, 652, 399, 400, 401, 140, 126, 127, 128, 129, 130, 131, 132, 653, 410, 411, 412, 413, 654, 422, 423, 424, 164, 655, 433, 434, 435, 436, 437, 438, 439, 656, 452, 453, 454, 455, 551, 552, 553, 554, 555, 657, 658, 659, 660, 661, 472, 473, 474, 177, 178, 179, 180, 181, 182, 183, 184, 662, 487, 488, 489, 490, 663, 499, 500, 501, 502, 670, 671, 679, 680, 681, 682, 683, 684, 685, 686, 687, 688, 689, 690, 691, 692, 693] (by decide +kernel) (by decide +kernel)) (goodIn_sub (fun _ h => List.mem_append_left _ (List.mem_append_right _ h)) (by decide +kernel))) (goodIn_sub (fun _ h => List.mem_append_right _ h) (by decide +kernel))
set_option maxRecDepth 20000 in
theorem gL_law_X1_digest : GoodIn wsL_law (wsV RL 194 RX1 yX1_digest wsX1_digest) := goodIn_app (goodIn_of _ (by decide +kernel)) ggL_law_X1_digest
set_option maxRecDepth 20000 in
theorem ggL_law_X2_digest : GoodIn wsL_law wsX2_digest := goodIn_r _ [667, 67, 25, 43, 109, 668, 669, 264, 265, 266, 5, 267, 153, 154, 155, 156, 297, 298, 299, 300, 42, 289, 290, 291, 292, 527, 528, 529, 530, 193, 194, 195, 196, 591, 592, 593, 594, 564, 565, 566, 567, 44, 568, 569, 570, 571, 268, 269, 270, 271, 272, 273, 274, 275, 46, 276, 277, 278, 279, 113, 114, 115, 116, 280, 281, 282, 283, 284, 285, 286, 287, 288, 225, 226, 227, 76, 77, 78, 79, 293, 294, 295, 296, 301, 302, 303, 304, 305, 234, 235, 306, 307, 308, 309, 310, 311, 312, 313, 41, 576, 577, 578, 579, 614, 615, 616, 617, 72, 73, 74, 75, 444, 445, 446, 447, 560, 561, 562, 563, 572, 573, 574, 575, 672, 673, 674, 675, 676, 677, 678] (by decide +kernel) (by decide +kernel)
set_option maxRecDepth 20000 in
theorem gL_law_X2_digest : GoodIn wsL_law (wsV RL 198 RX2 yX2_digest wsX2_digest) := goodIn_app (goodIn_of _ (by decide +kernel)) ggL_law_X2_digest
theorem dL_law_0 : decode cL_law 0 = .ok (.new 8, 3) := by decide +kernel
theorem dL_law_3 : decode cL_law 3 = .ok (.dup, 1) := by decide +kernel
theorem dL_law_4 : decode cL_law 4 = .ok (.invokespecial 74, 3) := by decide +kernel
theorem dL_law_7 : decode cL_law 7 = .ok (.astore_n 1, 1) := by decide +kernel
theorem dL_law_8 : decode cL_law 8 = .ok (.new 75, 3) := by decide +kernel
theorem dL_law_11 : decode cL_law 11 = .ok (.dup, 1) := by decide +kernel
theorem dL_law_12 : decode cL_law 12 = .ok (.invokespecial 77, 3) := by decide +kernel
theorem dL_law_15 : decode cL_law 15 = .ok (.astore_n 2, 1) := by decide +kernel
theorem dL_law_16 : decode cL_law 16 = .ok (.iconst 1, 1) := by decide +kernel
theorem dL_law_17 : decode cL_law 17 = .ok (.newarray .long, 2) := by decide +kernel
theorem dL_law_19 : decode cL_law 19 = .ok (.astore_n 3, 1) := by decide +kernel
theorem dL_law_20 : decode cL_law 20 = .ok (.iconst 0, 1) := by decide +kernel
theorem dL_law_21 : decode cL_law 21 = .ok (.istore 4, 2) := by decide +kernel
theorem dL_law_23 : decode cL_law 23 = .ok (.iload 4, 2) := by decide +kernel
theorem dL_law_25 : decode cL_law 25 = .ok (.aload_n 0, 1) := by decide +kernel
theorem dL_law_26 : decode cL_law 26 = .ok (.arraylength, 1) := by decide +kernel
theorem dL_law_27 : decode cL_law 27 = .ok (.iconst 5, 1) := by decide +kernel
theorem dL_law_28 : decode cL_law 28 = .ok (.isub, 1) := by decide +kernel
theorem dL_law_29 : decode cL_law 29 = .ok (.if_icmp .gt 1443, 3) := by decide +kernel
theorem dL_law_32 : decode cL_law 32 = .ok (.aload_n 0, 1) := by decide +kernel
theorem dL_law_33 : decode cL_law 33 = .ok (.iload 4, 2) := by decide +kernel
theorem dL_law_35 : decode cL_law 35 = .ok (.iaload, 1) := by decide +kernel
theorem dL_law_36 : decode cL_law 36 = .ok (.bipush 31, 2) := by decide +kernel
theorem dL_law_38 : decode cL_law 38 = .ok (.iand, 1) := by decide +kernel
theorem dL_law_39 : decode cL_law 39 = .ok (.tableswitch 1427 0 31 #[141, 185, 277, 345, 413, 469, 525, 538, 551, 564, 577, 590, 603, 616, 629, 642, 698, 754, 810, 866, 922, 935, 991, 1047, 1103, 1178, 1191, 1247, 1303, 1359, 1372, 1413], 141) := by decide +kernel
theorem dL_law_180 : decode cL_law 180 = .ok (.aload_n 1, 1) := by decide +kernel
theorem dL_law_181 : decode cL_law 181 = .ok (.aload_n 3, 1) := by decide +kernel
theorem dL_law_182 : decode cL_law 182 = .ok (.invokestatic 78, 3) := by decide +kernel
theorem dL_law_185 : decode cL_law 185 = .ok (.istore 5, 2) := by decide +kernel
theorem dL_law_187 : decode cL_law 187 = .ok (.aload_n 2, 1) := by decide +kernel
theorem dL_law_188 : decode cL_law 188 = .ok (.invokevirtual 83, 3) := by decide +kernel
theorem dL_law_191 : decode cL_law 191 = .ok (.istore 6, 2) := by decide +kernel
theorem dL_law_193 : decode cL_law 193 = .ok (.aload_n 2, 1) := by decide +kernel
theorem dL_law_194 : decode cL_law 194 = .ok (.invokevirtual 84, 3) := by decide +kernel
theorem dL_law_197 : decode cL_law 197 = .ok (.iload 5, 2) := by decide +kernel
theorem dL_law_199 : decode cL_law 199 = .ok (.if_icmp .eq 5, 3) := by decide +kernel
theorem dL_law_202 : decode cL_law 202 = .ok (.iconst 0, 1) := by decide +kernel
theorem dL_law_203 : decode cL_law 203 = .ok (.ireturn, 1) := by decide +kernel
theorem dL_law_204 : decode cL_law 204 = .ok (.iload 5, 2) := by decide +kernel
theorem dL_law_206 : decode cL_law 206 = .ok (.ifCond .ne 15, 3) := by decide +kernel
theorem dL_law_209 : decode cL_law 209 = .ok (.aload_n 3, 1) := by decide +kernel
theorem dL_law_210 : decode cL_law 210 = .ok (.iconst 0, 1) := by decide +kernel
theorem dL_law_211 : decode cL_law 211 = .ok (.laload, 1) := by decide +kernel
theorem dL_law_212 : decode cL_law 212 = .ok (.iload 6, 2) := by decide +kernel
theorem dL_law_214 : decode cL_law 214 = .ok (.i2l, 1) := by decide +kernel
theorem dL_law_215 : decode cL_law 215 = .ok (.lcmp, 1) := by decide +kernel
theorem dL_law_216 : decode cL_law 216 = .ok (.ifCond .eq 5, 3) := by decide +kernel
theorem dL_law_219 : decode cL_law 219 = .ok (.iconst 0, 1) := by decide +kernel
theorem dL_law_220 : decode cL_law 220 = .ok (.ireturn, 1) := by decide +kernel
theorem dL_law_221 : decode cL_law 221 = .ok (.goto 1245, 3) := by decide +kernel
theorem dL_law_224 : decode cL_law 224 = .ok (.aload_n 1, 1) := by decide +kernel
theorem dL_law_225 : decode cL_law 225 = .ok (.aload_n 0, 1) := by decide +kernel
theorem dL_law_226 : decode cL_law 226 = .ok (.iload 4, 2) := by decide +kernel
theorem dL_law_228 : decode cL_law 228 = .ok (.iconst 1, 1) := by decide +kernel
theorem dL_law_229 : decode cL_law 229 = .ok (.iadd, 1) := by decide +kernel
theorem dL_law_230 : decode cL_law 230 = .ok (.iaload, 1) := by decide +kernel
theorem dL_law_231 : decode cL_law 231 = .ok (.aload_n 0, 1) := by decide +kernel
theorem dL_law_232 : decode cL_law 232 = .ok (.iload 4, 2) := by decide +kernel
theorem dL_law_234 : decode cL_law 234 = .ok (.iconst 2, 1) := by decide +kernel
theorem dL_law_235 : decode cL_law 235 = .ok (.iadd, 1) := by decide +kernel
theorem dL_law_236 : decode cL_law 236 = .ok (.iaload, 1) := by decide +kernel
theorem dL_law_237 : decode cL_law 237 = .ok (.aload_n 0, 1) := by decide +kernel
theorem dL_law_238 : decode cL_law 238 = .ok (.iload 4, 2) := by decide +kernel
theorem dL_law_240 : decode cL_law 240 = .ok (.iconst 3, 1) := by decide +kernel
theorem dL_law_241 : decode cL_law 241 = .ok (.iadd, 1) := by decide +kernel
theorem dL_law_242 : decode cL_law 242 = .ok (.iaload, 1) := by decide +kernel
theorem dL_law_243 : decode cL_law 243 = .ok (.aload_n 0, 1) := by decide +kernel
theorem dL_law_244 : decode cL_law 244 = .ok (.iload 4, 2) := by decide +kernel
theorem dL_law_246 : decode cL_law 246 = .ok (.iconst 4, 1) := by decide +kernel
theorem dL_law_247 : decode cL_law 247 = .ok (.iadd, 1) := by decide +kernel
theorem dL_law_248 : decode cL_law 248 = .ok (.iaload, 1) := by decide +kernel
theorem dL_law_249 : decode cL_law 249 = .ok (.aload_n 3, 1) := by decide +kernel
theorem dL_law_250 : decode cL_law 250 = .ok (.invokestatic 87, 3) := by decide +kernel
theorem dL_law_253 : decode cL_law 253 = .ok (.istore 5, 2) := by decide +kernel
theorem dL_law_255 : decode cL_law 255 = .ok (.aload_n 2, 1) := by decide +kernel
theorem dL_law_256 : decode cL_law 256 = .ok (.aload_n 0, 1) := by decide +kernel
theorem dL_law_257 : decode cL_law 257 = .ok (.iload 4, 2) := by decide +kernel
theorem dL_law_259 : decode cL_law 259 = .ok (.iconst 1, 1) := by decide +kernel
theorem dL_law_260 : decode cL_law 260 = .ok (.iadd, 1) := by decide +kernel
theorem dL_law_261 : decode cL_law 261 = .ok (.iaload, 1) := by decide +kernel
theorem dL_law_262 : decode cL_law 262 = .ok (.aload_n 0, 1) := by decide +kernel
theorem dL_law_263 : decode cL_law 263 = .ok (.iload 4, 2) := by decide +kernel
theorem dL_law_265 : decode cL_law 265 = .ok (.iconst 2, 1) := by decide +kernel
theorem dL_law_266 : decode cL_law 266 = .ok (.iadd, 1) := by decide +kernel
theorem dL_law_267 : decode cL_law 267 = .ok (.iaload, 1) := by decide +kernel
theorem dL_law_268 : decode cL_law 268 = .ok (.aload_n 0, 1) := by decide +kernel
theorem dL_law_269 : decode cL_law 269 = .ok (.iload 4, 2) := by decide +kernel
theorem dL_law_271 : decode cL_law 271 = .ok (.iconst 3, 1) := by decide +kernel
theorem dL_law_272 : decode cL_law 272 = .ok (.iadd, 1) := by decide +kernel
theorem dL_law_273 : decode cL_law 273 = .ok (.iaload, 1) := by decide +kernel
theorem dL_law_274 : decode cL_law 274 = .ok (.aload_n 0, 1) := by decide +kernel
theorem dL_law_275 : decode cL_law 275 = .ok (.iload 4, 2) := by decide +kernel
theorem dL_law_277 : decode cL_law 277 = .ok (.iconst 4, 1) := by decide +kernel
theorem dL_law_278 : decode cL_law 278 = .ok (.iadd, 1) := by decide +kernel
theorem dL_law_279 : decode cL_law 279 = .ok (.iaload, 1) := by decide +kernel
theorem dL_law_280 : decode cL_law 280 = .ok (.invokevirtual 90, 3) := by decide +kernel
theorem dL_law_283 : decode cL_law 283 = .ok (.istore 6, 2) := by decide +kernel
theorem dL_law_285 : decode cL_law 285 = .ok (.aload_n 2, 1) := by decide +kernel
theorem dL_law_286 : decode cL_law 286 = .ok (.invokevirtual 84, 3) := by decide +kernel
theorem dL_law_289 : decode cL_law 289 = .ok (.iload 5, 2) := by decide +kernel
theorem dL_law_291 : decode cL_law 291 = .ok (.if_icmp .eq 5, 3) := by decide +kernel
theorem dL_law_294 : decode cL_law 294 = .ok (.iconst 0, 1) := by decide +kernel
theorem dL_law_295 : decode cL_law 295 = .ok (.ireturn, 1) := by decide +kernel
theorem dL_law_296 : decode cL_law 296 = .ok (.iload 5, 2) := by decide +kernel
theorem dL_law_298 : decode cL_law 298 = .ok (.ifCond .ne 15, 3) := by decide +kernel
theorem dL_law_301 : decode cL_law 301 = .ok (.aload_n 3, 1) := by decide +kernel
theorem dL_law_302 : decode cL_law 302 = .ok (.iconst 0, 1) := by decide +kernel
theorem dL_law_303 : decode cL_law 303 = .ok (.laload, 1) := by decide +kernel
theorem dL_law_304 : decode cL_law 304 = .ok (.iload 6, 2) := by decide +kernel
theorem dL_law_306 : decode cL_law 306 = .ok (.i2l, 1) := by decide +kernel
theorem dL_law_307 : decode cL_law 307 = .ok (.lcmp, 1) := by decide +kernel
theorem dL_law_308 : decode cL_law 308 = .ok (.ifCond .eq 5, 3) := by decide +kernel
theorem dL_law_311 : decode cL_law 311 = .ok (.iconst 0, 1) := by decide +kernel
theorem dL_law_312 : decode cL_law 312 = .ok (.ireturn, 1) := by decide +kernel
theorem dL_law_313 : decode cL_law 313 = .ok (.goto 1153, 3) := by decide +kernel
theorem dL_law_316 : decode cL_law 316 = .ok (.aload_n 1, 1) := by decide +kernel
theorem dL_law_317 : decode cL_law 317 = .ok (.aload_n 0, 1) := by decide +kernel
theorem dL_law_318 : decode cL_law 318 = .ok (.iload 4, 2) := by decide +kernel
theorem dL_law_320 : decode cL_law 320 = .ok (.iconst 1, 1) := by decide +kernel
theorem dL_law_321 : decode cL_law 321 = .ok (.iadd, 1) := by decide +kernel
theorem dL_law_322 : decode cL_law 322 = .ok (.iaload, 1) := by decide +kernel
theorem dL_law_323 : decode cL_law 323 = .ok (.aload_n 0, 1) := by decide +kernel
theorem dL_law_324 : decode cL_law 324 = .ok (.iload 4, 2) := by decide +kernel
theorem dL_law_326 : decode cL_law 326 = .ok (.iconst 2, 1) := by decide +kernel
theorem dL_law_327 : decode cL_law 327 = .ok (.iadd, 1) := by decide +kernel
theorem dL_law_328 : decode cL_law 328 = .ok (.iaload, 1) := by decide +kernel
theorem dL_law_329 : decode cL_law 329 = .ok (.aload_n 3, 1) := by decide +kernel
theorem dL_law_330 : decode cL_law 330 = .ok (.invokestatic 91, 3) := by decide +kernel
theorem dL_law_333 : decode cL_law 333 = .ok (.istore 5, 2) := by decide +kernel
theorem dL_law_335 : decode cL_law 335 = .ok (.aload_n 2, 1) := by decide +kernel
theorem dL_law_336 : decode cL_law 336 = .ok (.aload_n 0, 1) := by decide +kernel
theorem dL_law_337 : decode cL_law 337 = .ok (.iload 4, 2) := by decide +kernel
theorem dL_law_339 : decode cL_law 339 = .ok (.iconst 1, 1) := by decide +kernel
theorem dL_law_340 : decode cL_law 340 = .ok (.iadd, 1) := by decide +kernel
theorem dL_law_341 : decode cL_law 341 = .ok (.iaload, 1) := by decide +kernel
theorem dL_law_342 : decode cL_law 342 = .ok (.aload_n 0, 1) := by decide +kernel
theorem dL_law_343 : decode cL_law 343 = .ok (.iload 4, 2) := by decide +kernel
theorem dL_law_345 : decode cL_law 345 = .ok (.iconst 2, 1) := by decide +kernel
theorem dL_law_346 : decode cL_law 346 = .ok (.iadd, 1) := by decide +kernel
theorem dL_law_347 : decode cL_law 347 = .ok (.iaload, 1) := by decide +kernel
theorem dL_law_348 : decode cL_law 348 = .ok (.invokevirtual 94, 3) := by decide +kernel
theorem dL_law_351 : decode cL_law 351 = .ok (.istore 6, 2) := by decide +kernel
theorem dL_law_353 : decode cL_law 353 = .ok (.aload_n 2, 1) := by decide +kernel
theorem dL_law_354 : decode cL_law 354 = .ok (.invokevirtual 84, 3) := by decide +kernel
theorem dL_law_357 : decode cL_law 357 = .ok (.iload 5, 2) := by decide +kernel
theorem dL_law_359 : decode cL_law 359 = .ok (.if_icmp .eq 5, 3) := by decide +kernel
theorem dL_law_362 : decode cL_law 362 = .ok (.iconst 0, 1) := by decide +kernel
theorem dL_law_363 : decode cL_law 363 = .ok (.ireturn, 1) := by decide +kernel
theorem dL_law_364 : decode cL_law 364 = .ok (.iload 5, 2) := by decide +kernel
theorem dL_law_366 : decode cL_law 366 = .ok (.ifCond .ne 15, 3) := by decide +kernel
theorem dL_law_369 : decode cL_law 369 = .ok (.aload_n 3, 1) := by decide +kernel
theorem dL_law_370 : decode cL_law 370 = .ok (.iconst 0, 1) := by decide +kernel
theorem dL_law_371 : decode cL_law 371 = .ok (.laload, 1) := by decide +kernel
theorem dL_law_372 : decode cL_law 372 = .ok (.iload 6, 2) := by decide +kernel
theorem dL_law_374 : decode cL_law 374 = .ok (.i2l, 1) := by decide +kernel
theorem dL_law_375 : decode cL_law 375 = .ok (.lcmp, 1) := by decide +kernel
theorem dL_law_376 : decode cL_law 376 = .ok (.ifCond .eq 5, 3) := by decide +kernel
theorem dL_law_379 : decode cL_law 379 = .ok (.iconst 0, 1) := by decide +kernel
theorem dL_law_380 : decode cL_law 380 = .ok (.ireturn, 1) := by decide +kernel
theorem dL_law_381 : decode cL_law 381 = .ok (.goto 1085, 3) := by decide +kernel
theorem dL_law_384 : decode cL_law 384 = .ok (.aload_n 1, 1) := by decide +kernel
theorem dL_law_385 : decode cL_law 385 = .ok (.aload_n 0, 1) := by decide +kernel
theorem dL_law_386 : decode cL_law 386 = .ok (.iload 4, 2) := by decide +kernel
theorem dL_law_388 : decode cL_law 388 = .ok (.iconst 1, 1) := by decide +kernel
theorem dL_law_389 : decode cL_law 389 = .ok (.iadd, 1) := by decide +kernel
theorem dL_law_390 : decode cL_law 390 = .ok (.iaload, 1) := by decide +kernel
theorem dL_law_391 : decode cL_law 391 = .ok (.aload_n 0, 1) := by decide +kernel
theorem dL_law_392 : decode cL_law 392 = .ok (.iload 4, 2) := by decide +kernel
theorem dL_law_394 : decode cL_law 394 = .ok (.iconst 2, 1) := by decide +kernel
theorem dL_law_395 : decode cL_law 395 = .ok (.iadd, 1) := by decide +kernel
theorem dL_law_396 : decode cL_law 396 = .ok (.iaload, 1) := by decide +kernel
theorem dL_law_397 : decode cL_law 397 = .ok (.aload_n 3, 1) := by decide +kernel
theorem dL_law_398 : decode cL_law 398 = .ok (.invokestatic 95, 3) := by decide +kernel
theorem dL_law_401 : decode cL_law 401 = .ok (.istore 5, 2) := by decide +kernel
theorem dL_law_403 : decode cL_law 403 = .ok (.aload_n 2, 1) := by decide +kernel
theorem dL_law_404 : decode cL_law 404 = .ok (.aload_n 0, 1) := by decide +kernel
theorem dL_law_405 : decode cL_law 405 = .ok (.iload 4, 2) := by decide +kernel
theorem dL_law_407 : decode cL_law 407 = .ok (.iconst 1, 1) := by decide +kernel
theorem dL_law_408 : decode cL_law 408 = .ok (.iadd, 1) := by decide +kernel
theorem dL_law_409 : decode cL_law 409 = .ok (.iaload, 1) := by decide +kernel
theorem dL_law_410 : decode cL_law 410 = .ok (.aload_n 0, 1) := by decide +kernel
theorem dL_law_411 : decode cL_law 411 = .ok (.iload 4, 2) := by decide +kernel
theorem dL_law_413 : decode cL_law 413 = .ok (.iconst 2, 1) := by decide +kernel
theorem dL_law_414 : decode cL_law 414 = .ok (.iadd, 1) := by decide +kernel
theorem dL_law_415 : decode cL_law 415 = .ok (.iaload, 1) := by decide +kernel
theorem dL_law_416 : decode cL_law 416 = .ok (.invokevirtual 97, 3) := by decide +kernel
theorem dL_law_419 : decode cL_law 419 = .ok (.istore 6, 2) := by decide +kernel
theorem dL_law_421 : decode cL_law 421 = .ok (.aload_n 2, 1) := by decide +kernel
theorem dL_law_422 : decode cL_law 422 = .ok (.invokevirtual 84, 3) := by decide +kernel
theorem dL_law_425 : decode cL_law 425 = .ok (.iload 5, 2) := by decide +kernel
theorem dL_law_427 : decode cL_law 427 = .ok (.if_icmp .eq 5, 3) := by decide +kernel
theorem dL_law_430 : decode cL_law 430 = .ok (.iconst 0, 1) := by decide +kernel
theorem dL_law_431 : decode cL_law 431 = .ok (.ireturn, 1) := by decide +kernel
theorem dL_law_432 : decode cL_law 432 = .ok (.iload 5, 2) := by decide +kernel
theorem dL_law_434 : decode cL_law 434 = .ok (.ifCond .ne 15, 3) := by decide +kernel
theorem dL_law_437 : decode cL_law 437 = .ok (.aload_n 3, 1) := by decide +kernel
theorem dL_law_438 : decode cL_law 438 = .ok (.iconst 0, 1) := by decide +kernel
theorem dL_law_439 : decode cL_law 439 = .ok (.laload, 1) := by decide +kernel
theorem dL_law_440 : decode cL_law 440 = .ok (.iload 6, 2) := by decide +kernel
theorem dL_law_442 : decode cL_law 442 = .ok (.i2l, 1) := by decide +kernel
theorem dL_law_443 : decode cL_law 443 = .ok (.lcmp, 1) := by decide +kernel
theorem dL_law_444 : decode cL_law 444 = .ok (.ifCond .eq 5, 3) := by decide +kernel
theorem dL_law_447 : decode cL_law 447 = .ok (.iconst 0, 1) := by decide +kernel
theorem dL_law_448 : decode cL_law 448 = .ok (.ireturn, 1) := by decide +kernel
theorem dL_law_449 : decode cL_law 449 = .ok (.goto 1017, 3) := by decide +kernel
theorem dL_law_452 : decode cL_law 452 = .ok (.aload_n 1, 1) := by decide +kernel
theorem dL_law_453 : decode cL_law 453 = .ok (.aload_n 0, 1) := by decide +kernel
theorem dL_law_454 : decode cL_law 454 = .ok (.iload 4, 2) := by decide +kernel
theorem dL_law_456 : decode cL_law 456 = .ok (.iconst 1, 1) := by decide +kernel
theorem dL_law_457 : decode cL_law 457 = .ok (.iadd, 1) := by decide +kernel
theorem dL_law_458 : decode cL_law 458 = .ok (.iaload, 1) := by decide +kernel
theorem dL_law_459 : decode cL_law 459 = .ok (.aload_n 3, 1) := by decide +kernel
theorem dL_law_460 : decode cL_law 460 = .ok (.invokestatic 98, 3) := by decide +kernel
theorem dL_law_463 : decode cL_law 463 = .ok (.istore 5, 2) := by decide +kernel
theorem dL_law_465 : decode cL_law 465 = .ok (.aload_n 2, 1) := by decide +kernel
theorem dL_law_466 : decode cL_law 466 = .ok (.aload_n 0, 1) := by decide +kernel
theorem dL_law_467 : decode cL_law 467 = .ok (.iload 4, 2) := by decide +kernel
theorem dL_law_469 : decode cL_law 469 = .ok (.iconst 1, 1) := by decide +kernel
theorem dL_law_470 : decode cL_law 470 = .ok (.iadd, 1) := by decide +kernel
theorem dL_law_471 : decode cL_law 471 = .ok (.iaload, 1) := by decide +kernel
theorem dL_law_472 : decode cL_law 472 = .ok (.invokevirtual 101, 3) := by decide +kernel
theorem dL_law_475 : decode cL_law 475 = .ok (.istore 6, 2) := by decide +kernel
theorem dL_law_477 : decode cL_law 477 = .ok (.aload_n 2, 1) := by decide +kernel
theorem dL_law_478 : decode cL_law 478 = .ok (.invokevirtual 84, 3) := by decide +kernel
theorem dL_law_481 : decode cL_law 481 = .ok (.iload 5, 2) := by decide +kernel
theorem dL_law_483 : decode cL_law 483 = .ok (.if_icmp .eq 5, 3) := by decide +kernel
theorem dL_law_486 : decode cL_law 486 = .ok (.iconst 0, 1) := by decide +kernel
theorem dL_law_487 : decode cL_law 487 = .ok (.ireturn, 1) := by decide +kernel
theorem dL_law_488 : decode cL_law 488 = .ok (.iload 5, 2) := by decide +kernel
theorem dL_law_490 : decode cL_law 490 = .ok (.ifCond .ne 15, 3) := by decide +kernel
theorem dL_law_493 : decode cL_law 493 = .ok (.aload_n 3, 1) := by decide +kernel
theorem dL_law_494 : decode cL_law 494 = .ok (.iconst 0, 1) := by decide +kernel
theorem dL_law_495 : decode cL_law 495 = .ok (.laload, 1) := by decide +kernel
theorem dL_law_496 : decode cL_law 496 = .ok (.iload 6, 2) := by decide +kernel
theorem dL_law_498 : decode cL_law 498 = .ok (.i2l, 1) := by decide +kernel
theorem dL_law_499 : decode cL_law 499 = .ok (.lcmp, 1) := by decide +kernel
theorem dL_law_500 : decode cL_law 500 = .ok (.ifCond .eq 5, 3) := by decide +kernel
theorem dL_law_503 : decode cL_law 503 = .ok (.iconst 0, 1) := by decide +kernel
theorem dL_law_504 : decode cL_law 504 = .ok (.ireturn, 1) := by decide +kernel
theorem dL_law_505 : decode cL_law 505 = .ok (.goto 961, 3) := by decide +kernel
theorem dL_law_508 : decode cL_law 508 = .ok (.aload_n 1, 1) := by decide +kernel
theorem dL_law_509 : decode cL_law 509 = .ok (.aload_n 0, 1) := by decide +kernel
theorem dL_law_510 : decode cL_law 510 = .ok (.iload 4, 2) := by decide +kernel
theorem dL_law_512 : decode cL_law 512 = .ok (.iconst 1, 1) := by decide +kernel
theorem dL_law_513 : decode cL_law 513 = .ok (.iadd, 1) := by decide +kernel
theorem dL_law_514 : decode cL_law 514 = .ok (.iaload, 1) := by decide +kernel
theorem dL_law_515 : decode cL_law 515 = .ok (.aload_n 3, 1) := by decide +kernel
theorem dL_law_516 : decode cL_law 516 = .ok (.invokestatic 102, 3) := by decide +kernel
theorem dL_law_519 : decode cL_law 519 = .ok (.istore 5, 2) := by decide +kernel
theorem dL_law_521 : decode cL_law 521 = .ok (.aload_n 2, 1) := by decide +kernel
theorem dL_law_522 : decode cL_law 522 = .ok (.aload_n 0, 1) := by decide +kernel
theorem dL_law_523 : decode cL_law 523 = .ok (.iload 4, 2) := by decide +kernel
theorem dL_law_525 : decode cL_law 525 = .ok (.iconst 1, 1) := by decide +kernel
theorem dL_law_526 : decode cL_law 526 = .ok (.iadd, 1) := by decide +kernel
theorem dL_law_527 : decode cL_law 527 = .ok (.iaload, 1) := by decide +kernel
theorem dL_law_528 : decode cL_law 528 = .ok (.invokevirtual 104, 3) := by decide +kernel
theorem dL_law_531 : decode cL_law 531 = .ok (.istore 6, 2) := by decide +kernel
theorem dL_law_533 : decode cL_law 533 = .ok (.aload_n 2, 1) := by decide +kernel
theorem dL_law_534 : decode cL_law 534 = .ok (.invokevirtual 84, 3) := by decide +kernel
theorem dL_law_537 : decode cL_law 537 = .ok (.iload 5, 2) := by decide +kernel
theorem dL_law_539 : decode cL_law 539 = .ok (.if_icmp .eq 5, 3) := by decide +kernel
theorem dL_law_542 : decode cL_law 542 = .ok (.iconst 0, 1) := by decide +kernel
theorem dL_law_543 : decode cL_law 543 = .ok (.ireturn, 1) := by decide +kernel
theorem dL_law_544 : decode cL_law 544 = .ok (.iload 5, 2) := by decide +kernel
theorem dL_law_546 : decode cL_law 546 = .ok (.ifCond .ne 15, 3) := by decide +kernel
theorem dL_law_549 : decode cL_law 549 = .ok (.aload_n 3, 1) := by decide +kernel
theorem dL_law_550 : decode cL_law 550 = .ok (.iconst 0, 1) := by decide +kernel
theorem dL_law_551 : decode cL_law 551 = .ok (.laload, 1) := by decide +kernel
theorem dL_law_552 : decode cL_law 552 = .ok (.iload 6, 2) := by decide +kernel
theorem dL_law_554 : decode cL_law 554 = .ok (.i2l, 1) := by decide +kernel
theorem dL_law_555 : decode cL_law 555 = .ok (.lcmp, 1) := by decide +kernel
theorem dL_law_556 : decode cL_law 556 = .ok (.ifCond .eq 5, 3) := by decide +kernel
theorem dL_law_559 : decode cL_law 559 = .ok (.iconst 0, 1) := by decide +kernel
theorem dL_law_560 : decode cL_law 560 = .ok (.ireturn, 1) := by decide +kernel
theorem dL_law_561 : decode cL_law 561 = .ok (.goto 905, 3) := by decide +kernel
theorem dL_law_564 : decode cL_law 564 = .ok (.aload_n 1, 1) := by decide +kernel
theorem dL_law_565 : decode cL_law 565 = .ok (.invokevirtual 105, 3) := by decide +kernel
theorem dL_law_568 : decode cL_law 568 = .ok (.aload_n 2, 1) := by decide +kernel
theorem dL_law_569 : decode cL_law 569 = .ok (.invokevirtual 108, 3) := by decide +kernel
theorem dL_law_572 : decode cL_law 572 = .ok (.if_icmp .eq 894, 3) := by decide +kernel
theorem dL_law_575 : decode cL_law 575 = .ok (.iconst 0, 1) := by decide +kernel
theorem dL_law_576 : decode cL_law 576 = .ok (.ireturn, 1) := by decide +kernel
theorem dL_law_577 : decode cL_law 577 = .ok (.aload_n 1, 1) := by decide +kernel
theorem dL_law_578 : decode cL_law 578 = .ok (.invokevirtual 109, 3) := by decide +kernel
theorem dL_law_581 : decode cL_law 581 = .ok (.aload_n 2, 1) := by decide +kernel
theorem dL_law_582 : decode cL_law 582 = .ok (.invokevirtual 112, 3) := by decide +kernel
theorem dL_law_585 : decode cL_law 585 = .ok (.if_icmp .eq 881, 3) := by decide +kernel
theorem dL_law_588 : decode cL_law 588 = .ok (.iconst 0, 1) := by decide +kernel
theorem dL_law_589 : decode cL_law 589 = .ok (.ireturn, 1) := by decide +kernel
theorem dL_law_590 : decode cL_law 590 = .ok (.aload_n 1, 1) := by decide +kernel
theorem dL_law_591 : decode cL_law 591 = .ok (.invokevirtual 113, 3) := by decide +kernel
theorem dL_law_594 : decode cL_law 594 = .ok (.aload_n 2, 1) := by decide +kernel
theorem dL_law_595 : decode cL_law 595 = .ok (.invokevirtual 116, 3) := by decide +kernel
theorem dL_law_598 : decode cL_law 598 = .ok (.if_icmp .eq 868, 3) := by decide +kernel
theorem dL_law_601 : decode cL_law 601 = .ok (.iconst 0, 1) := by decide +kernel
theorem dL_law_602 : decode cL_law 602 = .ok (.ireturn, 1) := by decide +kernel
theorem dL_law_603 : decode cL_law 603 = .ok (.aload_n 1, 1) := by decide +kernel
theorem dL_law_604 : decode cL_law 604 = .ok (.invokevirtual 117, 3) := by decide +kernel
theorem dL_law_607 : decode cL_law 607 = .ok (.aload_n 2, 1) := by decide +kernel
theorem dL_law_608 : decode cL_law 608 = .ok (.invokevirtual 120, 3) := by decide +kernel
theorem dL_law_611 : decode cL_law 611 = .ok (.if_icmp .eq 855, 3) := by decide +kernel
theorem dL_law_614 : decode cL_law 614 = .ok (.iconst 0, 1) := by decide +kernel
theorem dL_law_615 : decode cL_law 615 = .ok (.ireturn, 1) := by decide +kernel
theorem dL_law_616 : decode cL_law 616 = .ok (.aload_n 1, 1) := by decide +kernel
theorem dL_law_617 : decode cL_law 617 = .ok (.invokevirtual 121, 3) := by decide +kernel
theorem dL_law_620 : decode cL_law 620 = .ok (.aload_n 2, 1) := by decide +kernel
theorem dL_law_621 : decode cL_law 621 = .ok (.invokevirtual 124, 3) := by decide +kernel
theorem dL_law_624 : decode cL_law 624 = .ok (.if_icmp .eq 842, 3) := by decide +kernel
theorem dL_law_627 : decode cL_law 627 = .ok (.iconst 0, 1) := by decide +kernel
theorem dL_law_628 : decode cL_law 628 = .ok (.ireturn, 1) := by decide +kernel
theorem dL_law_629 : decode cL_law 629 = .ok (.aload_n 1, 1) := by decide +kernel
theorem dL_law_630 : decode cL_law 630 = .ok (.invokevirtual 125, 3) := by decide +kernel
theorem dL_law_633 : decode cL_law 633 = .ok (.aload_n 2, 1) := by decide +kernel
theorem dL_law_634 : decode cL_law 634 = .ok (.invokevirtual 128, 3) := by decide +kernel
theorem dL_law_637 : decode cL_law 637 = .ok (.if_icmp .eq 829, 3) := by decide +kernel
theorem dL_law_640 : decode cL_law 640 = .ok (.iconst 0, 1) := by decide +kernel
theorem dL_law_641 : decode cL_law 641 = .ok (.ireturn, 1) := by decide +kernel
theorem dL_law_642 : decode cL_law 642 = .ok (.aload_n 1, 1) := by decide +kernel
theorem dL_law_643 : decode cL_law 643 = .ok (.invokevirtual 129, 3) := by decide +kernel
theorem dL_law_646 : decode cL_law 646 = .ok (.aload_n 2, 1) := by decide +kernel
theorem dL_law_647 : decode cL_law 647 = .ok (.invokevirtual 132, 3) := by decide +kernel
theorem dL_law_650 : decode cL_law 650 = .ok (.if_icmp .eq 816, 3) := by decide +kernel
theorem dL_law_653 : decode cL_law 653 = .ok (.iconst 0, 1) := by decide +kernel
theorem dL_law_654 : decode cL_law 654 = .ok (.ireturn, 1) := by decide +kernel
theorem dL_law_655 : decode cL_law 655 = .ok (.aload_n 1, 1) := by decide +kernel
theorem dL_law_656 : decode cL_law 656 = .ok (.invokevirtual 133, 3) := by decide +kernel
theorem dL_law_659 : decode cL_law 659 = .ok (.aload_n 2, 1) := by decide +kernel
theorem dL_law_660 : decode cL_law 660 = .ok (.invokevirtual 136, 3) := by decide +kernel
theorem dL_law_663 : decode cL_law 663 = .ok (.if_icmp .eq 803, 3) := by decide +kernel
theorem dL_law_666 : decode cL_law 666 = .ok (.iconst 0, 1) := by decide +kernel
theorem dL_law_667 : decode cL_law 667 = .ok (.ireturn, 1) := by decide +kernel
theorem dL_law_668 : decode cL_law 668 = .ok (.aload_n 1, 1) := by decide +kernel
theorem dL_law_669 : decode cL_law 669 = .ok (.invokevirtual 137, 3) := by decide +kernel
theorem dL_law_672 : decode cL_law 672 = .ok (.aload_n 2, 1) := by decide +kernel
theorem dL_law_673 : decode cL_law 673 = .ok (.invokevirtual 140, 3) := by decide +kernel
theorem dL_law_676 : decode cL_law 676 = .ok (.if_icmp .eq 790, 3) := by decide +kernel
theorem dL_law_679 : decode cL_law 679 = .ok (.iconst 0, 1) := by decide +kernel
theorem dL_law_680 : decode cL_law 680 = .ok (.ireturn, 1) := by decide +kernel
theorem dL_law_681 : decode cL_law 681 = .ok (.aload_n 1, 1) := by decide +kernel
theorem dL_law_682 : decode cL_law 682 = .ok (.aload_n 0, 1) := by decide +kernel
theorem dL_law_683 : decode cL_law 683 = .ok (.iload 4, 2) := by decide +kernel
theorem dL_law_685 : decode cL_law 685 = .ok (.iconst 1, 1) := by decide +kernel
theorem dL_law_686 : decode cL_law 686 = .ok (.iadd, 1) := by decide +kernel
theorem dL_law_687 : decode cL_law 687 = .ok (.iaload, 1) := by decide +kernel
theorem dL_law_688 : decode cL_law 688 = .ok (.aload_n 3, 1) := by decide +kernel
theorem dL_law_689 : decode cL_law 689 = .ok (.invokestatic 141, 3) := by decide +kernel
theorem dL_law_692 : decode cL_law 692 = .ok (.istore 5, 2) := by decide +kernel
theorem dL_law_694 : decode cL_law 694 = .ok (.aload_n 2, 1) := by decide +kernel
theorem dL_law_695 : decode cL_law 695 = .ok (.aload_n 0, 1) := by decide +kernel
theorem dL_law_696 : decode cL_law 696 = .ok (.iload 4, 2) := by decide +kernel
theorem dL_law_698 : decode cL_law 698 = .ok (.iconst 1, 1) := by decide +kernel
theorem dL_law_699 : decode cL_law 699 = .ok (.iadd, 1) := by decide +kernel
theorem dL_law_700 : decode cL_law 700 = .ok (.iaload, 1) := by decide +kernel
theorem dL_law_701 : decode cL_law 701 = .ok (.invokevirtual 143, 3) := by decide +kernel
theorem dL_law_704 : decode cL_law 704 = .ok (.istore 6, 2) := by decide +kernel
theorem dL_law_706 : decode cL_law 706 = .ok (.aload_n 2, 1) := by decide +kernel
theorem dL_law_707 : decode cL_law 707 = .ok (.invokevirtual 84, 3) := by decide +kernel
theorem dL_law_710 : decode cL_law 710 = .ok (.iload 5, 2) := by decide +kernel
theorem dL_law_712 : decode cL_law 712 = .ok (.if_icmp .eq 5, 3) := by decide +kernel
theorem dL_law_715 : decode cL_law 715 = .ok (.iconst 0, 1) := by decide +kernel
theorem dL_law_716 : decode cL_law 716 = .ok (.ireturn, 1) := by decide +kernel
theorem dL_law_717 : decode cL_law 717 = .ok (.iload 5, 2) := by decide +kernel
theorem dL_law_719 : decode cL_law 719 = .ok (.ifCond .ne 15, 3) := by decide +kernel
theorem dL_law_722 : decode cL_law 722 = .ok (.aload_n 3, 1) := by decide +kernel
theorem dL_law_723 : decode cL_law 723 = .ok (.iconst 0, 1) := by decide +kernel
theorem dL_law_724 : decode cL_law 724 = .ok (.laload, 1) := by decide +kernel
theorem dL_law_725 : decode cL_law 725 = .ok (.iload 6, 2) := by decide +kernel
theorem dL_law_727 : decode cL_law 727 = .ok (.i2l, 1) := by decide +kernel
theorem dL_law_728 : decode cL_law 728 = .ok (.lcmp, 1) := by decide +kernel
theorem dL_law_729 : decode cL_law 729 = .ok (.ifCond .eq 5, 3) := by decide +kernel
theorem dL_law_732 : decode cL_law 732 = .ok (.iconst 0, 1) := by decide +kernel
theorem dL_law_733 : decode cL_law 733 = .ok (.ireturn, 1) := by decide +kernel
theorem dL_law_734 : decode cL_law 734 = .ok (.goto 732, 3) := by decide +kernel
theorem dL_law_737 : decode cL_law 737 = .ok (.aload_n 1, 1) := by decide +kernel
theorem dL_law_738 : decode cL_law 738 = .ok (.aload_n 0, 1) := by decide +kernel
theorem dL_law_739 : decode cL_law 739 = .ok (.iload 4, 2) := by decide +kernel
theorem dL_law_741 : decode cL_law 741 = .ok (.iconst 1, 1) := by decide +kernel
theorem dL_law_742 : decode cL_law 742 = .ok (.iadd, 1) := by decide +kernel
theorem dL_law_743 : decode cL_law 743 = .ok (.iaload, 1) := by decide +kernel
theorem dL_law_744 : decode cL_law 744 = .ok (.aload_n 3, 1) := by decide +kernel
theorem dL_law_745 : decode cL_law 745 = .ok (.invokestatic 144, 3) := by decide +kernel
theorem dL_law_748 : decode cL_law 748 = .ok (.istore 5, 2) := by decide +kernel
theorem dL_law_750 : decode cL_law 750 = .ok (.aload_n 2, 1) := by decide +kernel
theorem dL_law_751 : decode cL_law 751 = .ok (.aload_n 0, 1) := by decide +kernel
theorem dL_law_752 : decode cL_law 752 = .ok (.iload 4, 2) := by decide +kernel
theorem dL_law_754 : decode cL_law 754 = .ok (.iconst 1, 1) := by decide +kernel
theorem dL_law_755 : decode cL_law 755 = .ok (.iadd, 1) := by decide +kernel
theorem dL_law_756 : decode cL_law 756 = .ok (.iaload, 1) := by decide +kernel
theorem dL_law_757 : decode cL_law 757 = .ok (.invokevirtual 146, 3) := by decide +kernel
theorem dL_law_760 : decode cL_law 760 = .ok (.istore 6, 2) := by decide +kernel
theorem dL_law_762 : decode cL_law 762 = .ok (.aload_n 2, 1) := by decide +kernel
theorem dL_law_763 : decode cL_law 763 = .ok (.invokevirtual 84, 3) := by decide +kernel
theorem dL_law_766 : decode cL_law 766 = .ok (.iload 5, 2) := by decide +kernel
theorem dL_law_768 : decode cL_law 768 = .ok (.if_icmp .eq 5, 3) := by decide +kernel
theorem dL_law_771 : decode cL_law 771 = .ok (.iconst 0, 1) := by decide +kernel
theorem dL_law_772 : decode cL_law 772 = .ok (.ireturn, 1) := by decide +kernel
theorem dL_law_773 : decode cL_law 773 = .ok (.iload 5, 2) := by decide +kernel
theorem dL_law_775 : decode cL_law 775 = .ok (.ifCond .ne 15, 3) := by decide +kernel
theorem dL_law_778 : decode cL_law 778 = .ok (.aload_n 3, 1) := by decide +kernel
theorem dL_law_779 : decode cL_law 779 = .ok (.iconst 0, 1) := by decide +kernel
theorem dL_law_780 : decode cL_law 780 = .ok (.laload, 1) := by decide +kernel
theorem dL_law_781 : decode cL_law 781 = .ok (.iload 6, 2) := by decide +kernel
theorem dL_law_783 : decode cL_law 783 = .ok (.i2l, 1) := by decide +kernel
theorem dL_law_784 : decode cL_law 784 = .ok (.lcmp, 1) := by decide +kernel
theorem dL_law_785 : decode cL_law 785 = .ok (.ifCond .eq 5, 3) := by decide +kernel
theorem dL_law_788 : decode cL_law 788 = .ok (.iconst 0, 1) := by decide +kernel
theorem dL_law_789 : decode cL_law 789 = .ok (.ireturn, 1) := by decide +kernel
theorem dL_law_790 : decode cL_law 790 = .ok (.goto 676, 3) := by decide +kernel
theorem dL_law_793 : decode cL_law 793 = .ok (.aload_n 1, 1) := by decide +kernel
theorem dL_law_794 : decode cL_law 794 = .ok (.aload_n 0, 1) := by decide +kernel
theorem dL_law_795 : decode cL_law 795 = .ok (.iload 4, 2) := by decide +kernel
theorem dL_law_797 : decode cL_law 797 = .ok (.iconst 1, 1) := by decide +kernel
theorem dL_law_798 : decode cL_law 798 = .ok (.iadd, 1) := by decide +kernel
theorem dL_law_799 : decode cL_law 799 = .ok (.iaload, 1) := by decide +kernel
theorem dL_law_800 : decode cL_law 800 = .ok (.aload_n 3, 1) := by decide +kernel
theorem dL_law_801 : decode cL_law 801 = .ok (.invokestatic 147, 3) := by decide +kernel
theorem dL_law_804 : decode cL_law 804 = .ok (.istore 5, 2) := by decide +kernel
theorem dL_law_806 : decode cL_law 806 = .ok (.aload_n 2, 1) := by decide +kernel
theorem dL_law_807 : decode cL_law 807 = .ok (.aload_n 0, 1) := by decide +kernel
theorem dL_law_808 : decode cL_law 808 = .ok (.iload 4, 2) := by decide +kernel
theorem dL_law_810 : decode cL_law 810 = .ok (.iconst 1, 1) := by decide +kernel
theorem dL_law_811 : decode cL_law 811 = .ok (.iadd, 1) := by decide +kernel
theorem dL_law_812 : decode cL_law 812 = .ok (.iaload, 1) := by decide +kernel
theorem dL_law_813 : decode cL_law 813 = .ok (.invokevirtual 149, 3) := by decide +kernel
theorem dL_law_816 : decode cL_law 816 = .ok (.istore 6, 2) := by decide +kernel
theorem dL_law_818 : decode cL_law 818 = .ok (.aload_n 2, 1) := by decide +kernel
theorem dL_law_819 : decode cL_law 819 = .ok (.invokevirtual 84, 3) := by decide +kernel
theorem dL_law_822 : decode cL_law 822 = .ok (.iload 5, 2) := by decide +kernel
theorem dL_law_824 : decode cL_law 824 = .ok (.if_icmp .eq 5, 3) := by decide +kernel
theorem dL_law_827 : decode cL_law 827 = .ok (.iconst 0, 1) := by decide +kernel
theorem dL_law_828 : decode cL_law 828 = .ok (.ireturn, 1) := by decide +kernel
theorem dL_law_829 : decode cL_law 829 = .ok (.iload 5, 2) := by decide +kernel
theorem dL_law_831 : decode cL_law 831 = .ok (.ifCond .ne 15, 3) := by decide +kernel
theorem dL_law_834 : decode cL_law 834 = .ok (.aload_n 3, 1) := by decide +kernel
theorem dL_law_835 : decode cL_law 835 = .ok (.iconst 0, 1) := by decide +kernel
theorem dL_law_836 : decode cL_law 836 = .ok (.laload, 1) := by decide +kernel
theorem dL_law_837 : decode cL_law 837 = .ok (.iload 6, 2) := by decide +kernel
theorem dL_law_839 : decode cL_law 839 = .ok (.i2l, 1) := by decide +kernel
theorem dL_law_840 : decode cL_law 840 = .ok (.lcmp, 1) := by decide +kernel
theorem dL_law_841 : decode cL_law 841 = .ok (.ifCond .eq 5, 3) := by decide +kernel
theorem dL_law_844 : decode cL_law 844 = .ok (.iconst 0, 1) := by decide +kernel
theorem dL_law_845 : decode cL_law 845 = .ok (.ireturn, 1) := by decide +kernel
theorem dL_law_846 : decode cL_law 846 = .ok (.goto 620, 3) := by decide +kernel
theorem dL_law_849 : decode cL_law 849 = .ok (.aload_n 1, 1) := by decide +kernel
theorem dL_law_850 : decode cL_law 850 = .ok (.aload_n 0, 1) := by decide +kernel
theorem dL_law_851 : decode cL_law 851 = .ok (.iload 4, 2) := by decide +kernel
theorem dL_law_853 : decode cL_law 853 = .ok (.iconst 1, 1) := by decide +kernel
theorem dL_law_854 : decode cL_law 854 = .ok (.iadd, 1) := by decide +kernel
theorem dL_law_855 : decode cL_law 855 = .ok (.iaload, 1) := by decide +kernel
theorem dL_law_856 : decode cL_law 856 = .ok (.aload_n 3, 1) := by decide +kernel
theorem dL_law_857 : decode cL_law 857 = .ok (.invokestatic 150, 3) := by decide +kernel
theorem dL_law_860 : decode cL_law 860 = .ok (.istore 5, 2) := by decide +kernel
theorem dL_law_862 : decode cL_law 862 = .ok (.aload_n 2, 1) := by decide +kernel
theorem dL_law_863 : decode cL_law 863 = .ok (.aload_n 0, 1) := by decide +kernel
theorem dL_law_864 : decode cL_law 864 = .ok (.iload 4, 2) := by decide +kernel
theorem dL_law_866 : decode cL_law 866 = .ok (.iconst 1, 1) := by decide +kernel
theorem dL_law_867 : decode cL_law 867 = .ok (.iadd, 1) := by decide +kernel
theorem dL_law_868 : decode cL_law 868 = .ok (.iaload, 1) := by decide +kernel
theorem dL_law_869 : decode cL_law 869 = .ok (.invokevirtual 152, 3) := by decide +kernel
theorem dL_law_872 : decode cL_law 872 = .ok (.istore 6, 2) := by decide +kernel
theorem dL_law_874 : decode cL_law 874 = .ok (.aload_n 2, 1) := by decide +kernel
theorem dL_law_875 : decode cL_law 875 = .ok (.invokevirtual 84, 3) := by decide +kernel
theorem dL_law_878 : decode cL_law 878 = .ok (.iload 5, 2) := by decide +kernel
theorem dL_law_880 : decode cL_law 880 = .ok (.if_icmp .eq 5, 3) := by decide +kernel
theorem dL_law_883 : decode cL_law 883 = .ok (.iconst 0, 1) := by decide +kernel
theorem dL_law_884 : decode cL_law 884 = .ok (.ireturn, 1) := by decide +kernel
theorem dL_law_885 : decode cL_law 885 = .ok (.iload 5, 2) := by decide +kernel
theorem dL_law_887 : decode cL_law 887 = .ok (.ifCond .ne 15, 3) := by decide +kernel
theorem dL_law_890 : decode cL_law 890 = .ok (.aload_n 3, 1) := by decide +kernel
theorem dL_law_891 : decode cL_law 891 = .ok (.iconst 0, 1) := by decide +kernel
theorem dL_law_892 : decode cL_law 892 = .ok (.laload, 1) := by decide +kernel
theorem dL_law_893 : decode cL_law 893 = .ok (.iload 6, 2) := by decide +kernel
theorem dL_law_895 : decode cL_law 895 = .ok (.i2l, 1) := by decide +kernel
theorem dL_law_896 : decode cL_law 896 = .ok (.lcmp, 1) := by decide +kernel
theorem dL_law_897 : decode cL_law 897 = .ok (.ifCond .eq 5, 3) := by decide +kernel
theorem dL_law_900 : decode cL_law 900 = .ok (.iconst 0, 1) := by decide +kernel
theorem dL_law_901 : decode cL_law 901 = .ok (.ireturn, 1) := by decide +kernel
theorem dL_law_902 : decode cL_law 902 = .ok (.goto 564, 3) := by decide +kernel
theorem dL_law_905 : decode cL_law 905 = .ok (.aload_n 1, 1) := by decide +kernel
theorem dL_law_906 : decode cL_law 906 = .ok (.aload_n 0, 1) := by decide +kernel
theorem dL_law_907 : decode cL_law 907 = .ok (.iload 4, 2) := by decide +kernel
theorem dL_law_909 : decode cL_law 909 = .ok (.iconst 1, 1) := by decide +kernel
theorem dL_law_910 : decode cL_law 910 = .ok (.iadd, 1) := by decide +kernel
theorem dL_law_911 : decode cL_law 911 = .ok (.iaload, 1) := by decide +kernel
theorem dL_law_912 : decode cL_law 912 = .ok (.aload_n 3, 1) := by decide +kernel
theorem dL_law_913 : decode cL_law 913 = .ok (.invokestatic 153, 3) := by decide +kernel
theorem dL_law_916 : decode cL_law 916 = .ok (.istore 5, 2) := by decide +kernel
theorem dL_law_918 : decode cL_law 918 = .ok (.aload_n 2, 1) := by decide +kernel
theorem dL_law_919 : decode cL_law 919 = .ok (.aload_n 0, 1) := by decide +kernel
theorem dL_law_920 : decode cL_law 920 = .ok (.iload 4, 2) := by decide +kernel
theorem dL_law_922 : decode cL_law 922 = .ok (.iconst 1, 1) := by decide +kernel
theorem dL_law_923 : decode cL_law 923 = .ok (.iadd, 1) := by decide +kernel
theorem dL_law_924 : decode cL_law 924 = .ok (.iaload, 1) := by decide +kernel
theorem dL_law_925 : decode cL_law 925 = .ok (.invokevirtual 155, 3) := by decide +kernel
theorem dL_law_928 : decode cL_law 928 = .ok (.istore 6, 2) := by decide +kernel
theorem dL_law_930 : decode cL_law 930 = .ok (.aload_n 2, 1) := by decide +kernel
theorem dL_law_931 : decode cL_law 931 = .ok (.invokevirtual 84, 3) := by decide +kernel
theorem dL_law_934 : decode cL_law 934 = .ok (.iload 5, 2) := by decide +kernel
theorem dL_law_936 : decode cL_law 936 = .ok (.if_icmp .eq 5, 3) := by decide +kernel
theorem dL_law_939 : decode cL_law 939 = .ok (.iconst 0, 1) := by decide +kernel
theorem dL_law_940 : decode cL_law 940 = .ok (.ireturn, 1) := by decide +kernel
theorem dL_law_941 : decode cL_law 941 = .ok (.iload 5, 2) := by decide +kernel
theorem dL_law_943 : decode cL_law 943 = .ok (.ifCond .ne 15, 3) := by decide +kernel
theorem dL_law_946 : decode cL_law 946 = .ok (.aload_n 3, 1) := by decide +kernel
theorem dL_law_947 : decode cL_law 947 = .ok (.iconst 0, 1) := by decide +kernel
theorem dL_law_948 : decode cL_law 948 = .ok (.laload, 1) := by decide +kernel
theorem dL_law_949 : decode cL_law 949 = .ok (.iload 6, 2) := by decide +kernel
theorem dL_law_951 : decode cL_law 951 = .ok (.i2l, 1) := by decide +kernel
theorem dL_law_952 : decode cL_law 952 = .ok (.lcmp, 1) := by decide +kernel
theorem dL_law_953 : decode cL_law 953 = .ok (.ifCond .eq 5, 3) := by decide +kernel
theorem dL_law_956 : decode cL_law 956 = .ok (.iconst 0, 1) := by decide +kernel
theorem dL_law_957 : decode cL_law 957 = .ok (.ireturn, 1) := by decide +kernel
theorem dL_law_958 : decode cL_law 958 = .ok (.goto 508, 3) := by decide +kernel
theorem dL_law_961 : decode cL_law 961 = .ok (.aload_n 1, 1) := by decide +kernel
theorem dL_law_962 : decode cL_law 962 = .ok (.invokevirtual 156, 3) := by decide +kernel
theorem dL_law_965 : decode cL_law 965 = .ok (.aload_n 2, 1) := by decide +kernel
theorem dL_law_966 : decode cL_law 966 = .ok (.invokevirtual 159, 3) := by decide +kernel
theorem dL_law_969 : decode cL_law 969 = .ok (.if_icmp .eq 497, 3) := by decide +kernel
theorem dL_law_972 : decode cL_law 972 = .ok (.iconst 0, 1) := by decide +kernel
theorem dL_law_973 : decode cL_law 973 = .ok (.ireturn, 1) := by decide +kernel
theorem dL_law_974 : decode cL_law 974 = .ok (.aload_n 1, 1) := by decide +kernel
theorem dL_law_975 : decode cL_law 975 = .ok (.aload_n 0, 1) := by decide +kernel
theorem dL_law_976 : decode cL_law 976 = .ok (.iload 4, 2) := by decide +kernel
theorem dL_law_978 : decode cL_law 978 = .ok (.iconst 1, 1) := by decide +kernel
theorem dL_law_979 : decode cL_law 979 = .ok (.iadd, 1) := by decide +kernel
theorem dL_law_980 : decode cL_law 980 = .ok (.iaload, 1) := by decide +kernel
theorem dL_law_981 : decode cL_law 981 = .ok (.aload_n 3, 1) := by decide +kernel
theorem dL_law_982 : decode cL_law 982 = .ok (.invokestatic 160, 3) := by decide +kernel
theorem dL_law_985 : decode cL_law 985 = .ok (.istore 5, 2) := by decide +kernel
theorem dL_law_987 : decode cL_law 987 = .ok (.aload_n 2, 1) := by decide +kernel
theorem dL_law_988 : decode cL_law 988 = .ok (.aload_n 0, 1) := by decide +kernel
theorem dL_law_989 : decode cL_law 989 = .ok (.iload 4, 2) := by decide +kernel
theorem dL_law_991 : decode cL_law 991 = .ok (.iconst 1, 1) := by decide +kernel
theorem dL_law_992 : decode cL_law 992 = .ok (.iadd, 1) := by decide +kernel
theorem dL_law_993 : decode cL_law 993 = .ok (.iaload, 1) := by decide +kernel
theorem dL_law_994 : decode cL_law 994 = .ok (.invokevirtual 162, 3) := by decide +kernel
theorem dL_law_997 : decode cL_law 997 = .ok (.istore 6, 2) := by decide +kernel
theorem dL_law_999 : decode cL_law 999 = .ok (.aload_n 2, 1) := by decide +kernel
theorem dL_law_1000 : decode cL_law 1000 = .ok (.invokevirtual 84, 3) := by decide +kernel
theorem dL_law_1003 : decode cL_law 1003 = .ok (.iload 5, 2) := by decide +kernel
theorem dL_law_1005 : decode cL_law 1005 = .ok (.if_icmp .eq 5, 3) := by decide +kernel
theorem dL_law_1008 : decode cL_law 1008 = .ok (.iconst 0, 1) := by decide +kernel
theorem dL_law_1009 : decode cL_law 1009 = .ok (.ireturn, 1) := by decide +kernel
theorem dL_law_1010 : decode cL_law 1010 = .ok (.iload 5, 2) := by decide +kernel
theorem dL_law_1012 : decode cL_law 1012 = .ok (.ifCond .ne 15, 3) := by decide +kernel
theorem dL_law_1015 : decode cL_law 1015 = .ok (.aload_n 3, 1) := by decide +kernel
theorem dL_law_1016 : decode cL_law 1016 = .ok (.iconst 0, 1) := by decide +kernel
theorem dL_law_1017 : decode cL_law 1017 = .ok (.laload, 1) := by decide +kernel
theorem dL_law_1018 : decode cL_law 1018 = .ok (.iload 6, 2) := by decide +kernel
theorem dL_law_1020 : decode cL_law 1020 = .ok (.i2l, 1) := by decide +kernel
theorem dL_law_1021 : decode cL_law 1021 = .ok (.lcmp, 1) := by decide +kernel
theorem dL_law_1022 : decode cL_law 1022 = .ok (.ifCond .eq 5, 3) := by decide +kernel
theorem dL_law_1025 : decode cL_law 1025 = .ok (.iconst 0, 1) := by decide +kernel
theorem dL_law_1026 : decode cL_law 1026 = .ok (.ireturn, 1) := by decide +kernel
theorem dL_law_1027 : decode cL_law 1027 = .ok (.goto 439, 3) := by decide +kernel
theorem dL_law_1030 : decode cL_law 1030 = .ok (.aload_n 1, 1) := by decide +kernel
theorem dL_law_1031 : decode cL_law 1031 = .ok (.aload_n 0, 1) := by decide +kernel
theorem dL_law_1032 : decode cL_law 1032 = .ok (.iload 4, 2) := by decide +kernel
theorem dL_law_1034 : decode cL_law 1034 = .ok (.iconst 1, 1) := by decide +kernel
theorem dL_law_1035 : decode cL_law 1035 = .ok (.iadd, 1) := by decide +kernel
theorem dL_law_1036 : decode cL_law 1036 = .ok (.iaload, 1) := by decide +kernel
theorem dL_law_1037 : decode cL_law 1037 = .ok (.aload_n 3, 1) := by decide +kernel
theorem dL_law_1038 : decode cL_law 1038 = .ok (.invokestatic 163, 3) := by decide +kernel
theorem dL_law_1041 : decode cL_law 1041 = .ok (.istore 5, 2) := by decide +kernel
theorem dL_law_1043 : decode cL_law 1043 = .ok (.aload_n 2, 1) := by decide +kernel
theorem dL_law_1044 : decode cL_law 1044 = .ok (.aload_n 0, 1) := by decide +kernel
theorem dL_law_1045 : decode cL_law 1045 = .ok (.iload 4, 2) := by decide +kernel
theorem dL_law_1047 : decode cL_law 1047 = .ok (.iconst 1, 1) := by decide +kernel
theorem dL_law_1048 : decode cL_law 1048 = .ok (.iadd, 1) := by decide +kernel
theorem dL_law_1049 : decode cL_law 1049 = .ok (.iaload, 1) := by decide +kernel
theorem dL_law_1050 : decode cL_law 1050 = .ok (.invokevirtual 165, 3) := by decide +kernel
theorem dL_law_1053 : decode cL_law 1053 = .ok (.istore 6, 2) := by decide +kernel
theorem dL_law_1055 : decode cL_law 1055 = .ok (.aload_n 2, 1) := by decide +kernel
theorem dL_law_1056 : decode cL_law 1056 = .ok (.invokevirtual 84, 3) := by decide +kernel
theorem dL_law_1059 : decode cL_law 1059 = .ok (.iload 5, 2) := by decide +kernel
theorem dL_law_1061 : decode cL_law 1061 = .ok (.if_icmp .eq 5, 3) := by decide +kernel
theorem dL_law_1064 : decode cL_law 1064 = .ok (.iconst 0, 1) := by decide +kernel
theorem dL_law_1065 : decode cL_law 1065 = .ok (.ireturn, 1) := by decide +kernel
theorem dL_law_1066 : decode cL_law 1066 = .ok (.iload 5, 2) := by decide +kernel
theorem dL_law_1068 : decode cL_law 1068 = .ok (.ifCond .ne 15, 3) := by decide +kernel
theorem dL_law_1071 : decode cL_law 1071 = .ok (.aload_n 3, 1) := by decide +kernel
theorem dL_law_1072 : decode cL_law 1072 = .ok (.iconst 0, 1) := by decide +kernel
theorem dL_law_1073 : decode cL_law 1073 = .ok (.laload, 1) := by decide +kernel
theorem dL_law_1074 : decode cL_law 1074 = .ok (.iload 6, 2) := by decide +kernel
theorem dL_law_1076 : decode cL_law 1076 = .ok (.i2l, 1) := by decide +kernel
theorem dL_law_1077 : decode cL_law 1077 = .ok (.lcmp, 1) := by decide +kernel
theorem dL_law_1078 : decode cL_law 1078 = .ok (.ifCond .eq 5, 3) := by decide +kernel
theorem dL_law_1081 : decode cL_law 1081 = .ok (.iconst 0, 1) := by decide +kernel
theorem dL_law_1082 : decode cL_law 1082 = .ok (.ireturn, 1) := by decide +kernel
theorem dL_law_1083 : decode cL_law 1083 = .ok (.goto 383, 3) := by decide +kernel
theorem dL_law_1086 : decode cL_law 1086 = .ok (.aload_n 1, 1) := by decide +kernel
theorem dL_law_1087 : decode cL_law 1087 = .ok (.aload_n 0, 1) := by decide +kernel
theorem dL_law_1088 : decode cL_law 1088 = .ok (.iload 4, 2) := by decide +kernel
theorem dL_law_1090 : decode cL_law 1090 = .ok (.iconst 1, 1) := by decide +kernel
theorem dL_law_1091 : decode cL_law 1091 = .ok (.iadd, 1) := by decide +kernel
theorem dL_law_1092 : decode cL_law 1092 = .ok (.iaload, 1) := by decide +kernel
theorem dL_law_1093 : decode cL_law 1093 = .ok (.aload_n 3, 1) := by decide +kernel
theorem dL_law_1094 : decode cL_law 1094 = .ok (.invokestatic 166, 3) := by decide +kernel
theorem dL_law_1097 : decode cL_law 1097 = .ok (.istore 5, 2) := by decide +kernel
theorem dL_law_1099 : decode cL_law 1099 = .ok (.aload_n 2, 1) := by decide +kernel
theorem dL_law_1100 : decode cL_law 1100 = .ok (.aload_n 0, 1) := by decide +kernel
theorem dL_law_1101 : decode cL_law 1101 = .ok (.iload 4, 2) := by decide +kernel
theorem dL_law_1103 : decode cL_law 1103 = .ok (.iconst 1, 1) := by decide +kernel
theorem dL_law_1104 : decode cL_law 1104 = .ok (.iadd, 1) := by decide +kernel
theorem dL_law_1105 : decode cL_law 1105 = .ok (.iaload, 1) := by decide +kernel
theorem dL_law_1106 : decode cL_law 1106 = .ok (.invokevirtual 168, 3) := by decide +kernel
theorem dL_law_1109 : decode cL_law 1109 = .ok (.istore 6, 2) := by decide +kernel
theorem dL_law_1111 : decode cL_law 1111 = .ok (.aload_n 2, 1) := by decide +kernel
theorem dL_law_1112 : decode cL_law 1112 = .ok (.invokevirtual 84, 3) := by decide +kernel
theorem dL_law_1115 : decode cL_law 1115 = .ok (.iload 5, 2) := by decide +kernel
theorem dL_law_1117 : decode cL_law 1117 = .ok (.if_icmp .eq 5, 3) := by decide +kernel
theorem dL_law_1120 : decode cL_law 1120 = .ok (.iconst 0, 1) := by decide +kernel
theorem dL_law_1121 : decode cL_law 1121 = .ok (.ireturn, 1) := by decide +kernel
theorem dL_law_1122 : decode cL_law 1122 = .ok (.iload 5, 2) := by decide +kernel
theorem dL_law_1124 : decode cL_law 1124 = .ok (.ifCond .ne 15, 3) := by decide +kernel
theorem dL_law_1127 : decode cL_law 1127 = .ok (.aload_n 3, 1) := by decide +kernel
theorem dL_law_1128 : decode cL_law 1128 = .ok (.iconst 0, 1) := by decide +kernel
theorem dL_law_1129 : decode cL_law 1129 = .ok (.laload, 1) := by decide +kernel
theorem dL_law_1130 : decode cL_law 1130 = .ok (.iload 6, 2) := by decide +kernel
theorem dL_law_1132 : decode cL_law 1132 = .ok (.i2l, 1) := by decide +kernel
theorem dL_law_1133 : decode cL_law 1133 = .ok (.lcmp, 1) := by decide +kernel
theorem dL_law_1134 : decode cL_law 1134 = .ok (.ifCond .eq 5, 3) := by decide +kernel
theorem dL_law_1137 : decode cL_law 1137 = .ok (.iconst 0, 1) := by decide +kernel
theorem dL_law_1138 : decode cL_law 1138 = .ok (.ireturn, 1) := by decide +kernel
theorem dL_law_1139 : decode cL_law 1139 = .ok (.goto 327, 3) := by decide +kernel
theorem dL_law_1142 : decode cL_law 1142 = .ok (.aload_n 1, 1) := by decide +kernel
theorem dL_law_1143 : decode cL_law 1143 = .ok (.aload_n 0, 1) := by decide +kernel
theorem dL_law_1144 : decode cL_law 1144 = .ok (.iload 4, 2) := by decide +kernel
theorem dL_law_1146 : decode cL_law 1146 = .ok (.iconst 1, 1) := by decide +kernel
theorem dL_law_1147 : decode cL_law 1147 = .ok (.iadd, 1) := by decide +kernel
theorem dL_law_1148 : decode cL_law 1148 = .ok (.iaload, 1) := by decide +kernel
theorem dL_law_1149 : decode cL_law 1149 = .ok (.aload_n 0, 1) := by decide +kernel
theorem dL_law_1150 : decode cL_law 1150 = .ok (.iload 4, 2) := by decide +kernel
theorem dL_law_1152 : decode cL_law 1152 = .ok (.iconst 2, 1) := by decide +kernel
theorem dL_law_1153 : decode cL_law 1153 = .ok (.iadd, 1) := by decide +kernel
theorem dL_law_1154 : decode cL_law 1154 = .ok (.iaload, 1) := by decide +kernel
theorem dL_law_1155 : decode cL_law 1155 = .ok (.aload_n 3, 1) := by decide +kernel
theorem dL_law_1156 : decode cL_law 1156 = .ok (.invokestatic 169, 3) := by decide +kernel
theorem dL_law_1159 : decode cL_law 1159 = .ok (.istore 5, 2) := by decide +kernel
theorem dL_law_1161 : decode cL_law 1161 = .ok (.aload_n 2, 1) := by decide +kernel
theorem dL_law_1162 : decode cL_law 1162 = .ok (.aload_n 0, 1) := by decide +kernel
theorem dL_law_1163 : decode cL_law 1163 = .ok (.iload 4, 2) := by decide +kernel
theorem dL_law_1165 : decode cL_law 1165 = .ok (.iconst 1, 1) := by decide +kernel
theorem dL_law_1166 : decode cL_law 1166 = .ok (.iadd, 1) := by decide +kernel
theorem dL_law_1167 : decode cL_law 1167 = .ok (.iaload, 1) := by decide +kernel
theorem dL_law_1168 : decode cL_law 1168 = .ok (.aload_n 0, 1) := by decide +kernel
theorem dL_law_1169 : decode cL_law 1169 = .ok (.iload 4, 2) := by decide +kernel
theorem dL_law_1171 : decode cL_law 1171 = .ok (.iconst 2, 1) := by decide +kernel
theorem dL_law_1172 : decode cL_law 1172 = .ok (.iadd, 1) := by decide +kernel
theorem dL_law_1173 : decode cL_law 1173 = .ok (.iaload, 1) := by decide +kernel
theorem dL_law_1174 : decode cL_law 1174 = .ok (.invokevirtual 171, 3) := by decide +kernel
theorem dL_law_1177 : decode cL_law 1177 = .ok (.istore 6, 2) := by decide +kernel
theorem dL_law_1179 : decode cL_law 1179 = .ok (.aload_n 2, 1) := by decide +kernel
theorem dL_law_1180 : decode cL_law 1180 = .ok (.invokevirtual 84, 3) := by decide +kernel
theorem dL_law_1183 : decode cL_law 1183 = .ok (.iload 5, 2) := by decide +kernel
theorem dL_law_1185 : decode cL_law 1185 = .ok (.if_icmp .eq 5, 3) := by decide +kernel
theorem dL_law_1188 : decode cL_law 1188 = .ok (.iconst 0, 1) := by decide +kernel
theorem dL_law_1189 : decode cL_law 1189 = .ok (.ireturn, 1) := by decide +kernel
theorem dL_law_1190 : decode cL_law 1190 = .ok (.iload 5, 2) := by decide +kernel
theorem dL_law_1192 : decode cL_law 1192 = .ok (.ifCond .ne 22, 3) := by decide +kernel
theorem dL_law_1195 : decode cL_law 1195 = .ok (.aload_n 3, 1) := by decide +kernel
theorem dL_law_1196 : decode cL_law 1196 = .ok (.iconst 0, 1) := by decide +kernel
theorem dL_law_1197 : decode cL_law 1197 = .ok (.laload, 1) := by decide +kernel
theorem dL_law_1198 : decode cL_law 1198 = .ok (.iload 6, 2) := by decide +kernel
theorem dL_law_1200 : decode cL_law 1200 = .ok (.ifCond .eq 7, 3) := by decide +kernel
theorem dL_law_1203 : decode cL_law 1203 = .ok (.lconst 1, 1) := by decide +kernel
theorem dL_law_1204 : decode cL_law 1204 = .ok (.goto 4, 3) := by decide +kernel
theorem dL_law_1207 : decode cL_law 1207 = .ok (.lconst 0, 1) := by decide +kernel
theorem dL_law_1208 : decode cL_law 1208 = .ok (.lcmp, 1) := by decide +kernel
theorem dL_law_1209 : decode cL_law 1209 = .ok (.ifCond .eq 5, 3) := by decide +kernel
theorem dL_law_1212 : decode cL_law 1212 = .ok (.iconst 0, 1) := by decide +kernel
theorem dL_law_1213 : decode cL_law 1213 = .ok (.ireturn, 1) := by decide +kernel
theorem dL_law_1214 : decode cL_law 1214 = .ok (.goto 252, 3) := by decide +kernel
theorem dL_law_1217 : decode cL_law 1217 = .ok (.aload_n 1, 1) := by decide +kernel
theorem dL_law_1218 : decode cL_law 1218 = .ok (.invokevirtual 172, 3) := by decide +kernel
theorem dL_law_1221 : decode cL_law 1221 = .ok (.aload_n 2, 1) := by decide +kernel
theorem dL_law_1222 : decode cL_law 1222 = .ok (.invokevirtual 175, 3) := by decide +kernel
theorem dL_law_1225 : decode cL_law 1225 = .ok (.if_icmp .eq 241, 3) := by decide +kernel
theorem dL_law_1228 : decode cL_law 1228 = .ok (.iconst 0, 1) := by decide +kernel
theorem dL_law_1229 : decode cL_law 1229 = .ok (.ireturn, 1) := by decide +kernel
theorem dL_law_1230 : decode cL_law 1230 = .ok (.aload_n 1, 1) := by decide +kernel
theorem dL_law_1231 : decode cL_law 1231 = .ok (.aload_n 0, 1) := by decide +kernel
theorem dL_law_1232 : decode cL_law 1232 = .ok (.iload 4, 2) := by decide +kernel
theorem dL_law_1234 : decode cL_law 1234 = .ok (.iconst 1, 1) := by decide +kernel
theorem dL_law_1235 : decode cL_law 1235 = .ok (.iadd, 1) := by decide +kernel
theorem dL_law_1236 : decode cL_law 1236 = .ok (.iaload, 1) := by decide +kernel
theorem dL_law_1237 : decode cL_law 1237 = .ok (.aload_n 3, 1) := by decide +kernel
theorem dL_law_1238 : decode cL_law 1238 = .ok (.invokestatic 176, 3) := by decide +kernel
theorem dL_law_1241 : decode cL_law 1241 = .ok (.istore 5, 2) := by decide +kernel
theorem dL_law_1243 : decode cL_law 1243 = .ok (.aload_n 2, 1) := by decide +kernel
theorem dL_law_1244 : decode cL_law 1244 = .ok (.aload_n 0, 1) := by decide +kernel
theorem dL_law_1245 : decode cL_law 1245 = .ok (.iload 4, 2) := by decide +kernel
theorem dL_law_1247 : decode cL_law 1247 = .ok (.iconst 1, 1) := by decide +kernel
theorem dL_law_1248 : decode cL_law 1248 = .ok (.iadd, 1) := by decide +kernel
theorem dL_law_1249 : decode cL_law 1249 = .ok (.iaload, 1) := by decide +kernel
theorem dL_law_1250 : decode cL_law 1250 = .ok (.invokevirtual 178, 3) := by decide +kernel
theorem dL_law_1253 : decode cL_law 1253 = .ok (.istore 6, 2) := by decide +kernel
theorem dL_law_1255 : decode cL_law 1255 = .ok (.aload_n 2, 1) := by decide +kernel
theorem dL_law_1256 : decode cL_law 1256 = .ok (.invokevirtual 84, 3) := by decide +kernel
theorem dL_law_1259 : decode cL_law 1259 = .ok (.iload 5, 2) := by decide +kernel
theorem dL_law_1261 : decode cL_law 1261 = .ok (.if_icmp .eq 5, 3) := by decide +kernel
theorem dL_law_1264 : decode cL_law 1264 = .ok (.iconst 0, 1) := by decide +kernel
theorem dL_law_1265 : decode cL_law 1265 = .ok (.ireturn, 1) := by decide +kernel
theorem dL_law_1266 : decode cL_law 1266 = .ok (.iload 5, 2) := by decide +kernel
theorem dL_law_1268 : decode cL_law 1268 = .ok (.ifCond .ne 15, 3) := by decide +kernel
theorem dL_law_1271 : decode cL_law 1271 = .ok (.aload_n 3, 1) := by decide +kernel
theorem dL_law_1272 : decode cL_law 1272 = .ok (.iconst 0, 1) := by decide +kernel
theorem dL_law_1273 : decode cL_law 1273 = .ok (.laload, 1) := by decide +kernel
theorem dL_law_1274 : decode cL_law 1274 = .ok (.iload 6, 2) := by decide +kernel
theorem dL_law_1276 : decode cL_law 1276 = .ok (.i2l, 1) := by decide +kernel
theorem dL_law_1277 : decode cL_law 1277 = .ok (.lcmp, 1) := by decide +kernel
theorem dL_law_1278 : decode cL_law 1278 = .ok (.ifCond .eq 5, 3) := by decide +kernel
theorem dL_law_1281 : decode cL_law 1281 = .ok (.iconst 0, 1) := by decide +kernel
theorem dL_law_1282 : decode cL_law 1282 = .ok (.ireturn, 1) := by decide +kernel
theorem dL_law_1283 : decode cL_law 1283 = .ok (.goto 183, 3) := by decide +kernel
theorem dL_law_1286 : decode cL_law 1286 = .ok (.aload_n 1, 1) := by decide +kernel
theorem dL_law_1287 : decode cL_law 1287 = .ok (.aload_n 0, 1) := by decide +kernel
theorem dL_law_1288 : decode cL_law 1288 = .ok (.iload 4, 2) := by decide +kernel
theorem dL_law_1290 : decode cL_law 1290 = .ok (.iconst 1, 1) := by decide +kernel
theorem dL_law_1291 : decode cL_law 1291 = .ok (.iadd, 1) := by decide +kernel
theorem dL_law_1292 : decode cL_law 1292 = .ok (.iaload, 1) := by decide +kernel
theorem dL_law_1293 : decode cL_law 1293 = .ok (.aload_n 3, 1) := by decide +kernel
theorem dL_law_1294 : decode cL_law 1294 = .ok (.invokestatic 179, 3) := by decide +kernel
theorem dL_law_1297 : decode cL_law 1297 = .ok (.istore 5, 2) := by decide +kernel
theorem dL_law_1299 : decode cL_law 1299 = .ok (.aload_n 2, 1) := by decide +kernel
theorem dL_law_1300 : decode cL_law 1300 = .ok (.aload_n 0, 1) := by decide +kernel
theorem dL_law_1301 : decode cL_law 1301 = .ok (.iload 4, 2) := by decide +kernel
theorem dL_law_1303 : decode cL_law 1303 = .ok (.iconst 1, 1) := by decide +kernel
theorem dL_law_1304 : decode cL_law 1304 = .ok (.iadd, 1) := by decide +kernel
theorem dL_law_1305 : decode cL_law 1305 = .ok (.iaload, 1) := by decide +kernel
theorem dL_law_1306 : decode cL_law 1306 = .ok (.invokevirtual 181, 3) := by decide +kernel
theorem dL_law_1309 : decode cL_law 1309 = .ok (.istore 6, 2) := by decide +kernel
theorem dL_law_1311 : decode cL_law 1311 = .ok (.aload_n 2, 1) := by decide +kernel
theorem dL_law_1312 : decode cL_law 1312 = .ok (.invokevirtual 84, 3) := by decide +kernel
theorem dL_law_1315 : decode cL_law 1315 = .ok (.iload 5, 2) := by decide +kernel
theorem dL_law_1317 : decode cL_law 1317 = .ok (.if_icmp .eq 5, 3) := by decide +kernel
theorem dL_law_1320 : decode cL_law 1320 = .ok (.iconst 0, 1) := by decide +kernel
theorem dL_law_1321 : decode cL_law 1321 = .ok (.ireturn, 1) := by decide +kernel
theorem dL_law_1322 : decode cL_law 1322 = .ok (.iload 5, 2) := by decide +kernel
theorem dL_law_1324 : decode cL_law 1324 = .ok (.ifCond .ne 15, 3) := by decide +kernel
theorem dL_law_1327 : decode cL_law 1327 = .ok (.aload_n 3, 1) := by decide +kernel
theorem dL_law_1328 : decode cL_law 1328 = .ok (.iconst 0, 1) := by decide +kernel
theorem dL_law_1329 : decode cL_law 1329 = .ok (.laload, 1) := by decide +kernel
theorem dL_law_1330 : decode cL_law 1330 = .ok (.iload 6, 2) := by decide +kernel
theorem dL_law_1332 : decode cL_law 1332 = .ok (.i2l, 1) := by decide +kernel
theorem dL_law_1333 : decode cL_law 1333 = .ok (.lcmp, 1) := by decide +kernel
theorem dL_law_1334 : decode cL_law 1334 = .ok (.ifCond .eq 5, 3) := by decide +kernel
theorem dL_law_1337 : decode cL_law 1337 = .ok (.iconst 0, 1) := by decide +kernel
theorem dL_law_1338 : decode cL_law 1338 = .ok (.ireturn, 1) := by decide +kernel
theorem dL_law_1339 : decode cL_law 1339 = .ok (.goto 127, 3) := by decide +kernel
theorem dL_law_1342 : decode cL_law 1342 = .ok (.aload_n 1, 1) := by decide +kernel
theorem dL_law_1343 : decode cL_law 1343 = .ok (.aload_n 0, 1) := by decide +kernel
theorem dL_law_1344 : decode cL_law 1344 = .ok (.iload 4, 2) := by decide +kernel
theorem dL_law_1346 : decode cL_law 1346 = .ok (.iconst 1, 1) := by decide +kernel
theorem dL_law_1347 : decode cL_law 1347 = .ok (.iadd, 1) := by decide +kernel
theorem dL_law_1348 : decode cL_law 1348 = .ok (.iaload, 1) := by decide +kernel
theorem dL_law_1349 : decode cL_law 1349 = .ok (.aload_n 3, 1) := by decide +kernel
theorem dL_law_1350 : decode cL_law 1350 = .ok (.invokestatic 182, 3) := by decide +kernel
theorem dL_law_1353 : decode cL_law 1353 = .ok (.istore 5, 2) := by decide +kernel
theorem dL_law_1355 : decode cL_law 1355 = .ok (.aload_n 2, 1) := by decide +kernel
theorem dL_law_1356 : decode cL_law 1356 = .ok (.aload_n 0, 1) := by decide +kernel
theorem dL_law_1357 : decode cL_law 1357 = .ok (.iload 4, 2) := by decide +kernel
theorem dL_law_1359 : decode cL_law 1359 = .ok (.iconst 1, 1) := by decide +kernel
theorem dL_law_1360 : decode cL_law 1360 = .ok (.iadd, 1) := by decide +kernel
theorem dL_law_1361 : decode cL_law 1361 = .ok (.iaload, 1) := by decide +kernel
theorem dL_law_1362 : decode cL_law 1362 = .ok (.invokevirtual 184, 3) := by decide +kernel
theorem dL_law_1365 : decode cL_law 1365 = .ok (.istore 6, 2) := by decide +kernel
theorem dL_law_1367 : decode cL_law 1367 = .ok (.aload_n 2, 1) := by decide +kernel
theorem dL_law_1368 : decode cL_law 1368 = .ok (.invokevirtual 84, 3) := by decide +kernel
theorem dL_law_1371 : decode cL_law 1371 = .ok (.iload 5, 2) := by decide +kernel
theorem dL_law_1373 : decode cL_law 1373 = .ok (.if_icmp .eq 5, 3) := by decide +kernel
theorem dL_law_1376 : decode cL_law 1376 = .ok (.iconst 0, 1) := by decide +kernel
theorem dL_law_1377 : decode cL_law 1377 = .ok (.ireturn, 1) := by decide +kernel
theorem dL_law_1378 : decode cL_law 1378 = .ok (.iload 5, 2) := by decide +kernel
theorem dL_law_1380 : decode cL_law 1380 = .ok (.ifCond .ne 15, 3) := by decide +kernel
theorem dL_law_1383 : decode cL_law 1383 = .ok (.aload_n 3, 1) := by decide +kernel
theorem dL_law_1384 : decode cL_law 1384 = .ok (.iconst 0, 1) := by decide +kernel
theorem dL_law_1385 : decode cL_law 1385 = .ok (.laload, 1) := by decide +kernel
theorem dL_law_1386 : decode cL_law 1386 = .ok (.iload 6, 2) := by decide +kernel
theorem dL_law_1388 : decode cL_law 1388 = .ok (.i2l, 1) := by decide +kernel
theorem dL_law_1389 : decode cL_law 1389 = .ok (.lcmp, 1) := by decide +kernel
theorem dL_law_1390 : decode cL_law 1390 = .ok (.ifCond .eq 5, 3) := by decide +kernel
theorem dL_law_1393 : decode cL_law 1393 = .ok (.iconst 0, 1) := by decide +kernel
theorem dL_law_1394 : decode cL_law 1394 = .ok (.ireturn, 1) := by decide +kernel
theorem dL_law_1395 : decode cL_law 1395 = .ok (.goto 71, 3) := by decide +kernel
theorem dL_law_1398 : decode cL_law 1398 = .ok (.aload_n 1, 1) := by decide +kernel
theorem dL_law_1399 : decode cL_law 1399 = .ok (.invokevirtual 185, 3) := by decide +kernel
theorem dL_law_1402 : decode cL_law 1402 = .ok (.aload_n 2, 1) := by decide +kernel
theorem dL_law_1403 : decode cL_law 1403 = .ok (.invokevirtual 188, 3) := by decide +kernel
theorem dL_law_1406 : decode cL_law 1406 = .ok (.if_icmp .eq 60, 3) := by decide +kernel
theorem dL_law_1409 : decode cL_law 1409 = .ok (.iconst 0, 1) := by decide +kernel
theorem dL_law_1410 : decode cL_law 1410 = .ok (.ireturn, 1) := by decide +kernel
theorem dL_law_1411 : decode cL_law 1411 = .ok (.aload_n 1, 1) := by decide +kernel
theorem dL_law_1412 : decode cL_law 1412 = .ok (.invokevirtual 189, 3) := by decide +kernel
theorem dL_law_1415 : decode cL_law 1415 = .ok (.dstore 5, 2) := by decide +kernel
theorem dL_law_1417 : decode cL_law 1417 = .ok (.aload_n 2, 1) := by decide +kernel
theorem dL_law_1418 : decode cL_law 1418 = .ok (.invokevirtual 193, 3) := by decide +kernel
theorem dL_law_1421 : decode cL_law 1421 = .ok (.dstore 7, 2) := by decide +kernel
theorem dL_law_1423 : decode cL_law 1423 = .ok (.dload 5, 2) := by decide +kernel
theorem dL_law_1425 : decode cL_law 1425 = .ok (.dload 7, 2) := by decide +kernel
theorem dL_law_1427 : decode cL_law 1427 = .ok (.dcmp .l, 1) := by decide +kernel
theorem dL_law_1428 : decode cL_law 1428 = .ok (.ifCond .eq 21, 3) := by decide +kernel
theorem dL_law_1431 : decode cL_law 1431 = .ok (.dload 5, 2) := by decide +kernel
theorem dL_law_1433 : decode cL_law 1433 = .ok (.dload 5, 2) := by decide +kernel
theorem dL_law_1435 : decode cL_law 1435 = .ok (.dcmp .l, 1) := by decide +kernel
theorem dL_law_1436 : decode cL_law 1436 = .ok (.ifCond .eq 11, 3) := by decide +kernel
theorem dL_law_1439 : decode cL_law 1439 = .ok (.dload 7, 2) := by decide +kernel
theorem dL_law_1441 : decode cL_law 1441 = .ok (.dload 7, 2) := by decide +kernel
theorem dL_law_1443 : decode cL_law 1443 = .ok (.dcmp .l, 1) := by decide +kernel
theorem dL_law_1444 : decode cL_law 1444 = .ok (.ifCond .ne 5, 3) := by decide +kernel
theorem dL_law_1447 : decode cL_law 1447 = .ok (.iconst 0, 1) := by decide +kernel
theorem dL_law_1448 : decode cL_law 1448 = .ok (.ireturn, 1) := by decide +kernel
theorem dL_law_1449 : decode cL_law 1449 = .ok (.goto 17, 3) := by decide +kernel
theorem dL_law_1452 : decode cL_law 1452 = .ok (.aload_n 1, 1) := by decide +kernel
theorem dL_law_1453 : decode cL_law 1453 = .ok (.invokevirtual 194, 3) := by decide +kernel
theorem dL_law_1456 : decode cL_law 1456 = .ok (.aload_n 2, 1) := by decide +kernel
theorem dL_law_1457 : decode cL_law 1457 = .ok (.invokevirtual 198, 3) := by decide +kernel
theorem dL_law_1460 : decode cL_law 1460 = .ok (.lcmp, 1) := by decide +kernel
theorem dL_law_1461 : decode cL_law 1461 = .ok (.ifCond .eq 5, 3) := by decide +kernel
theorem dL_law_1464 : decode cL_law 1464 = .ok (.iconst 0, 1) := by decide +kernel
theorem dL_law_1465 : decode cL_law 1465 = .ok (.ireturn, 1) := by decide +kernel
theorem dL_law_1466 : decode cL_law 1466 = .ok (.iinc 4 5, 3) := by decide +kernel
theorem dL_law_1469 : decode cL_law 1469 = .ok (.goto (-1446), 3) := by decide +kernel
theorem dL_law_1472 : decode cL_law 1472 = .ok (.iconst 1, 1) := by decide +kernel
theorem dL_law_1473 : decode cL_law 1473 = .ok (.ireturn, 1) := by decide +kernel
end
section
/-! BASE: closed judgements over moving worlds (Gq: at an instruction; Gx: with an exception over it), contracts (Ct), a row an instruction. -/
theorem vpm {D : va_G} {cl : List vw_C} {ws : va_W} {H : Heap} : va_P D cl ws H ↔ ∀ q ∈ ws, va_at D cl q H := by
  constructor
  · intro h q hq
    obtain ⟨k, hk⟩ := List.getElem?_of_mem hq
    exact h k q hk
  · intro h k q hk
    exact h q (List.mem_of_getElem? hk)
theorem vdm {A : Nat → Prop} {ws : va_W} : va_D A ws ↔ (ws.map (fun q => q.1)).Nodup ∧ ∀ q ∈ ws, A q.1 := by
  constructor
  · intro h
    refine ⟨?_, fun q hq => ?_⟩
    · rw [List.Nodup, List.pairwise_iff_getElem]
      intro i j hi hj hij he
      rw [List.getElem_map, List.getElem_map] at he
      have hi' : i < ws.length := by simpa using hi
      have hj' : j < ws.length := by simpa using hj
      have := h.1 i j _ _ (List.getElem?_eq_getElem hi') (List.getElem?_eq_getElem hj') he
      omega
    · obtain ⟨k, hk⟩ := List.getElem?_of_mem hq
      exact h.2 k q hk
  · intro h
    refine ⟨fun i j p q hi hj he => ?_, fun k q hk => h.2 q (List.mem_of_getElem? hk)⟩
    obtain ⟨hi1, hi2⟩ := List.getElem?_eq_some_iff.mp hi
    obtain ⟨hj1, hj2⟩ := List.getElem?_eq_some_iff.mp hj
    have hn := h.1
    rw [List.Nodup, List.pairwise_iff_getElem] at hn
    rcases Nat.lt_trichotomy i j with g | g | g
    · exact absurd (by rw [List.getElem_map, List.getElem_map, hi2, hj2]; exact he) (hn i j (by simpa using hi1) (by simpa using hj1) g)
    · exact g
    · exact absurd (by rw [List.getElem_map, List.getElem_map, hi2, hj2]; exact he.symm) (hn j i (by simpa using hj1) (by simpa using hi1) g)
theorem vp_app {D : va_G} {cl : List vw_C} {a b : va_W} {H : Heap} : va_P D cl (a ++ b) H ↔ va_P D cl a H ∧ va_P D cl b H := by
  simp only [vpm, List.mem_append]
  exact ⟨fun h => ⟨fun q hq => h q (Or.inl hq), fun q hq => h q (Or.inr hq)⟩, fun h q hq => hq.elim (h.1 q) (h.2 q)⟩
theorem vd_app {A : Nat → Prop} {a b : va_W} : va_D A (a ++ b) ↔ va_D A a ∧ va_D A b ∧ ∀ p ∈ a, ∀ q ∈ b, p.1 ≠ q.1 := by
  simp only [vdm, List.map_append, List.nodup_append, List.mem_append, List.mem_map]
  constructor
  · rintro ⟨⟨h1, h2, h3⟩, h4⟩
    exact ⟨⟨h1, fun q hq => h4 q (Or.inl hq)⟩, ⟨h2, fun q hq => h4 q (Or.inr hq)⟩, fun p hp q hq => h3 _ ⟨p, hp, rfl⟩ _ ⟨q, hq, rfl⟩⟩
  · rintro ⟨⟨h1, h2⟩, ⟨h3, h4⟩, h5⟩
    refine ⟨⟨h1, h3, ?_⟩, fun q hq => hq.elim (h2 q) (h4 q)⟩
    rintro x ⟨p, hp, rfl⟩ y ⟨q, hq, rfl⟩
    exact h5 p hp q hq
theorem va_Am {ws : va_W} {sz q : Nat} : va_A ws sz q ↔ (∃ e ∈ ws, e.1 = q) ∨ sz ≤ q := by
  constructor
  · rintro (⟨k, e, h⟩ | h)
    · exact Or.inl ⟨_, List.mem_of_getElem? h, rfl⟩
    · exact Or.inr h
  · rintro (⟨e, h, rfl⟩ | h)
    · obtain ⟨k, hk⟩ := List.getElem?_of_mem h
      exact Or.inl ⟨k, e.2, hk⟩
    · exact Or.inr h
/-- behind a call: the callee's cells stand between the caller's others -/
theorem jn {A : Nat → Prop} {D : va_G} {cl : List vw_C} {wl wc wr w1 : va_W} {H H1 : Heap} (hP : va_P D cl (wl ++ (wc ++ wr)) H) (hD : va_D A (wl ++ (wc ++ wr)))
    (hk : ∀ q : Nat, q < H.size → ¬ va_A wc H.size q → H1[q]? = H[q]?) (hF : ∀ q, va_A wc H.size q → A q) (hP1 : va_P D cl w1 H1) (hD1 : va_D (va_A wc H.size) w1) : va_P D cl (wl ++ (w1 ++ wr)) H1 ∧ va_D A (wl ++ (w1 ++ wr)) := by
  obtain ⟨pl, pcr⟩ := vp_app.mp hP
  obtain ⟨pc, pr⟩ := vp_app.mp pcr
  obtain ⟨dl, dcr, dx⟩ := vd_app.mp hD
  obtain ⟨dc, dr, dy⟩ := vd_app.mp dcr
  have lt : ∀ {w : va_W}, va_P D cl w H → ∀ q ∈ w, q.1 < H.size := fun h q hq => (vpm.mp h q hq).lt
  have nl : ∀ q ∈ wl, ¬ va_A wc H.size q.1 := by
    intro q hq h
    rcases va_Am.mp h with ⟨e, he, h1⟩ | h
    · exact dx q hq e (List.mem_append_left _ he) h1.symm
    · exact absurd (lt pl q hq) (by omega)
  have nr : ∀ q ∈ wr, ¬ va_A wc H.size q.1 := by
    intro q hq h
    rcases va_Am.mp h with ⟨e, he, h1⟩ | h
    · exact dy e he q hq h1
    · exact absurd (lt pr q hq) (by omega)
  have kp : ∀ {w : va_W}, va_P D cl w H → (∀ q ∈ w, ¬ va_A wc H.size q.1) → va_P D cl w H1 := by
    intro w h hn
    rw [vpm] at h ⊢
    intro q hq
    exact (h q hq).kept (hk q.1 (h q hq).lt (hn q hq))
  have in1 : ∀ q ∈ w1, va_A wc H.size q.1 := (vdm.mp hD1).2
  refine ⟨vp_app.mpr ⟨kp pl nl, vp_app.mpr ⟨hP1, kp pr nr⟩⟩, vd_app.mpr ⟨dl, vd_app.mpr ⟨vdm.mpr ⟨(vdm.mp hD1).1, fun q hq => hF _ (in1 q hq)⟩, dr, ?_⟩, ?_⟩⟩
  · intro p hp q hq he
    exact nr q hq (by rw [← he]; exact in1 p hp)
  · intro p hp q hq he
    rcases List.mem_append.mp hq with h | h
    · exact nl p hp (by rw [he]; exact in1 q h)
    · exact dx p hp q (List.mem_append_right _ h) he
/-- the exceptions that the class throws, by a number -/
def xn (n : Nat) : String := match n with
  | 1 => "java/lang/IllegalStateException"
  | 2 => "java/lang/IllegalArgumentException"
  | _ => "java/lang/IndexOutOfBoundsException"
/-- what of the tables doesn't keep by itself, and what a throw needs of the heap -/
def ev_w : List Cond := [.castable (xn 1) (xn 1), .castable (xn 2) (xn 2), .castable (xn 3) (xn 3), .methodLinkNest RX1 9 yX0_init RX1]
def ev_n : List (String × String) := [(xn 1, xn 2), (xn 1, xn 3), (xn 2, xn 1), (xn 2, xn 3), (xn 3, xn 1), (xn 3, xn 2)]
def Env9 (ss : List (String × Nat × String)) (A : Nat → Prop) (U : State) : Prop :=
  vx_Zq Bundle.tN "UNASSIGNED_STACK" Bundle.steD A U U.heap ∧ vx_Zq Bundle.tN "SUPPRESSED_SENTINEL" Bundle.listD A U U.heap ∧ (∀ w ∈ ev_w, va_Nw w U) ∧ (∀ q ∈ ss, ∃ a, vk_R q.1 q.2.1 q.2.2 a U) ∧ (∀ q ∈ ev_n, va_Nc q.1 q.2 U)
theorem ev_on : ∀ w ∈ ev_w, w.onTables = true := by decide +kernel
theorem Env9.same {ss : List (String × Nat × String)} {A : Nat → Prop} {u U : State} (hv : u.vm = U.vm) (hh : u.heap = U.heap) (h : Env9 ss A u) : Env9 ss A U := by
  obtain ⟨h1, h2, h3, h4, h5⟩ := h
  have al : u.vm.Alike U.vm := by rw [hv]; exact Vm.Alike.refl _
  refine ⟨by rw [← hh]; exact h1.moved al, by rw [← hh]; exact h2.moved al, fun w hw => (h3 w hw).same (ev_on w hw) hv, fun q hq => ?_, fun q hq => (h5 q hq).moved al⟩
  obtain ⟨a, ha⟩ := h4 q hq
  exact ⟨a, vk_R.same hv.symm ha⟩
theorem ev_warm {s U : State} (hW : s.WarmedH U.vm) : ∀ w ∈ ev_w, va_Nw w s → va_Nw w U := by
  intro w hw
  simp only [ev_w, List.mem_cons, List.not_mem_nil, or_false] at hw
  rcases hw with rfl | rfl | rfl | rfl
  · exact va_Nw.warmC hW
  · exact va_Nw.warmC hW
  · exact va_Nw.warmC hW
  · exact va_Nw.warmM hW
theorem Env9.call {ss : List (String × Nat × String)} {A B : Nat → Prop} {s U : State} {H : Heap} {locs : List Loc} (h : Env9 ss A s) (hS : va_S A s.heap H locs) (hU : U.heap = H) (hW : s.WarmedH U.vm) (hF : ∀ q, B q → A q) : Env9 ss B U := by
  obtain ⟨h1, h2, h3, h4, h5⟩ := h
  refine ⟨?_, ?_, fun w hw => ev_warm hW w hw (h3 w hw), fun q hq => ?_, fun q hq => (h5 q hq).moved hW.alike⟩
  · rw [hU]
    exact ((h1.kept (fun a ha hn => hS.2.1 a ha hn)).narrow hF).moved hW.alike
  · rw [hU]
    exact ((h2.kept (fun a ha hn => hS.2.1 a ha hn)).narrow hF).moved hW.alike
  · obtain ⟨a, ha⟩ := h4 q hq
    exact ⟨a, vk_R.warm hW ha⟩
/-- what a call may come to: an exception by its number, or an answer and a world -/
abbrev Oc : Type := Nat ⊕ (Option Value × va_W)
def CtR (D : va_G) (Rr : Oc → Prop) (A : Nat → Prop) : Array Value → State → Outcome → State → Prop := fun _ st oc t => (∃ rv W1, Rr (.inr (rv, W1)) ∧ oc = .returned rv ∧ va_P D vwCl W1 t.heap ∧ va_D A W1) ∧ va_F A st t
def CtX (D : va_G) (W0 : va_W) (Rr : Oc → Prop) (A : Nat → Prop) : String → State → State → Prop := fun E st t => (∃ n, Rr (.inl n) ∧ E = xn n ∧ va_P D vwCl W0 t.heap ∧ va_D A W0) ∧ va_F A st t
def CtP (ss : List (String × Nat × String)) (D : va_G) (tys : List (ClassId × FieldType)) (W0 : va_W) (sz : Nat) (U : State) : Prop := U.heap.size = sz ∧ va_P D vwCl W0 U.heap ∧ va_K D vwCl tys U ∧ va_D (fun _ => True) W0 ∧ Env9 ss (va_A W0 sz) U
/-- a method's contract: from the world W0 it comes to an outcome of which Rr holds -/
def Ct (ss : List (String × Nat × String)) (l : Launch) (y : MethodName) (ws : List Cond) (rm : Room) (D : va_G) (tys : List (ClassId × FieldType)) (As : List Value) (W0 : va_W) (Rr : Oc → Prop) (mc ms : Nat) : Prop :=
  ∀ sz, vx_Met l y ws rm (va_Pc As (CtP ss D tys W0 sz)) (CtR D Rr (va_A W0 sz)) (CtX D W0 Rr (va_A W0 sz)) mc ms (va_A W0 sz)
/-- a method's plain facts, for its callers -/
def CF (y : MethodName) (ws : List Cond) (rm : Room) (bytes : ByteArray) (maxL : Nat) (ret : Option FieldType) (n mc ms : Nat) (Cn : String) : Prop :=
  (∃ ws', ws = Cond.code y bytes maxL ret :: ws') ∧ rm.cells = mc ∧ rm.slots = ms ∧ y.cls = Cn ∧ y.cls ≠ "java/lang/invoke/MethodHandle" ∧ y.cls ≠ "java/lang/invoke/VarHandle" ∧ (parseMethodDescriptor y.desc).map (fun d => d.parameters.length) = some n
section GB
variable {ss : List (String × Nat × String)} {p : Program} {l : Launch} {e : Env} {R : Room} {s : State} {m : MethodId} {args : Array Value} {below : List Frame} {meth : Method} {c : Code} {Q : State → Prop}
variable {D : va_G} {A : Nat → Prop} {tys : List (ClassId × FieldType)} {Ts : List Cond} {own : String} {cc : ByteArray} {nL : Nat} {tb : List ExceptionTableEntry} {ws ws' : va_W} {cells slots pc q : Nat} {lv lv' : List (Nat × Value)} {st : List Value}
/-- at an instruction, the world and the known locals -/
def Gq (p : Program) (l : Launch) (e : Env) (R : Room) (s : State) (m : MethodId) (args : Array Value) (below : List Frame) (meth : Method) (c : Code) (D : va_G) (A : Nat → Prop) (nL : Nat) (Q : State → Prop) (ws : va_W) (cells slots pc : Nat) (lv : List (Nat × Value)) (st : List Value) : Prop :=
  ∀ (H : Heap) (locs : List Loc) (ls : Array Slot), va_P D vwCl ws H → va_D A ws → va_S A s.heap H locs → lv_has ls nL lv → W p l e R s m args below meth c H locs cells slots Q (F0 m pc ls st)
/-- .. with the exception n thrown there -/
def Gx (p : Program) (l : Launch) (e : Env) (R : Room) (s : State) (m : MethodId) (args : Array Value) (below : List Frame) (meth : Method) (c : Code) (D : va_G) (A : Nat → Prop) (nL : Nat) (Q : State → Prop) (ws : va_W) (cells slots pc : Nat) (lv : List (Nat × Value)) (n : Nat) : Prop :=
  ∀ (H : Heap) (locs : List Loc) (ls : Array Slot) (rest : List Value) (q : Nat) (ce : Cell), va_P D vwCl ws H → va_D A ws → va_S A s.heap H locs → lv_has ls nL lv → H[q]? = some ce → ce.vm = .none → s.vm.findClass (xn n) = some ce.cls → vx_W p l e R s m args below meth c H locs cells slots Q (F0 m pc ls rest) q
/-- what stays in a method's walk -/
def Cx (ss : List (String × Nat × String)) (p : Program) (l : Launch) (s : State) (m : MethodId) (args : Array Value) (meth : Method) (c : Code) (cc : ByteArray) (nL : Nat) (Ts : List Cond) (own : String) (D : va_G) (tys : List (ClassId × FieldType)) (A : Nat → Prop) (tb : List ExceptionTableEntry) : Prop :=
  p.tables.exec = Jvm.exec ∧ c.code = cc ∧ c.maxLocals = nL ∧ s.vm.findClass own = some m.cls ∧ (∀ w ∈ Ts, w.before args s = true) ∧ va_K D vwCl tys s ∧ (∀ q, s.heap.size ≤ q → A q) ∧ meth.locks = false ∧ Env9 ss A s ∧ c.exceptionTable.toList = tb ∧ l.stackTraces = false
theorem Cx.w (C : Cx ss p l s m args meth c cc nL Ts own D tys A tb) (w : Cond) (h : w ∈ Ts) : w.before args s = true := C.2.2.2.2.1 w h
/-- what a body owes at its end -/
def CQ (below : List Frame) (D : va_G) (W0 : va_W) (Rr : Oc → Prop) (args : Array Value) (s : State) (mc ms : Nat) (A : Nat → Prop) : State → Prop := vx_MQ below (CtR D Rr A) (CtX D W0 Rr A) args s mc ms A
theorem ct_of {y : MethodName} {ws ws' : List Cond} {rm : Room} {As : List Value} {W0 : va_W} {Rr : Oc → Prop} {mc ms : Nat} {ret : Option FieldType} (hfl : l.stackTraces = false) (hy : plainName y.cls = true) (ho : y.cls = own) (hw : ws = Cond.code y cc nL ret :: ws') (hn : (lg_sl As).length ≤ nL)
    (k : ∀ (p : Program) (e : Env) (s : State) (m : MethodId) (args : Array Value) (below : List Frame) (meth : Method) (c : Code) (A : Nat → Prop), Cx ss p l s m args meth c cc nL ws own D tys A [] → meth.sig.returnType = ret → meth.name = y.name →
      Gq p l e rm s m args below meth c D A nL (CQ below D W0 Rr args s mc ms A) W0 0 0 0 (lv_args 0 As) []) : Ct ss l y ws rm D tys As W0 Rr mc ms := by
  intro sz
  refine vx_ofW (cc := cc) (maxL := nL) (ret := ret) hy hw ?_
  intro p e s m args below meth c s₁ B hml hxt hv
  obtain ⟨rfl, hsz, hP, hK, hD0, hE⟩ := hv
  subst hsz
  subst ho
  have hts := atoms_spec (ws := ws) B.pre
  have hown : s.vm.findClass y.cls = some m.cls := findClass_of_methodNamed B.named
  have hxl : c.exceptionTable.toList = [] := List.eq_nil_iff_forall_not_mem.mpr (fun x hx => hxt x hx)
  have C : Cx ss p l s m As.toArray meth c cc nL ws y.cls D tys (va_A W0 s.heap.size) [] := ⟨B.exec, B.bytes, hml, hown, hts, hK, fun q h => Or.inr h, B.notSynchronized, hE, hxl, hfl⟩
  have hl := lv_entry As (n := nL) hn
  rw [lg_entry_eq]
  exact k p e s m As.toArray below meth c _ C B.returns (name_of_methodNamed B.named B.method).1 s.heap [] _ hP hD0.self va_S.rf hl
theorem ct_ofH {y : MethodName} {ws ws' : List Cond} {rm : Room} {As : List Value} {W0 : va_W} {Rr : Oc → Prop} {mc ms : Nat} {ret : Option FieldType} {hh : List (Nat × Nat × Nat × Nat)} (hfl : l.stackTraces = false) (hy : plainName y.cls = true) (ho : y.cls = own) (hw : ws = Cond.codeWith y cc nL ret hh :: ws') (hn : (lg_sl As).length ≤ nL)
    (k : ∀ (p : Program) (e : Env) (s : State) (m : MethodId) (args : Array Value) (below : List Frame) (meth : Method) (c : Code) (A : Nat → Prop), Cx ss p l s m args meth c cc nL ws own D tys A (tableOf hh) → meth.sig.returnType = ret → meth.name = y.name →
      Gq p l e rm s m args below meth c D A nL (CQ below D W0 Rr args s mc ms A) W0 0 0 0 (lv_args 0 As) []) : Ct ss l y ws rm D tys As W0 Rr mc ms := by
  intro sz
  refine vx_ofWH (cc := cc) (maxL := nL) (ret := ret) (hh := hh) hy hw ?_
  intro p e s m args below meth c s₁ B hml hv
  obtain ⟨rfl, hsz, hP, hK, hD0, hE⟩ := hv
  subst hsz
  subst ho
  have hts := atoms_spec (ws := ws) B.pre
  have hown : s.vm.findClass y.cls = some m.cls := findClass_of_methodNamed B.named
  have hxl : c.exceptionTable.toList = tableOf hh := vx_table (x := y) B (hts _ (by rw [hw]; exact List.mem_cons_self))
  have C : Cx ss p l s m As.toArray meth c cc nL ws y.cls D tys (va_A W0 s.heap.size) (tableOf hh) := ⟨B.exec, B.bytes, hml, hown, hts, hK, fun q h => Or.inr h, B.notSynchronized, hE, hxl, hfl⟩
  have hl := lv_entry As (n := nL) hn
  rw [lg_entry_eq]
  exact k p e s m As.toArray below meth c _ C B.returns (name_of_methodNamed B.named B.method).1 s.heap [] _ hP hD0.self va_S.rf hl
/-! rows: constants, locals, arithmetic -/
theorem g_lv (ks : List Nat) (hk : lv_pick lv ks = lv') (kk : Gq p l e R s m args below meth c D A nL Q ws cells slots pc lv' st) : Gq p l e R s m args below meth c D A nL Q ws cells slots pc lv st := fun H locs ls hP hD hS hl => kk H locs ls hP hD hS (lv_sub hl ks hk)
theorem g_pc (h : pc = q) (kk : Gq p l e R s m args below meth c D A nL Q ws cells slots q lv st) : Gq p l e R s m args below meth c D A nL Q ws cells slots pc lv st := h ▸ kk
theorem g_wide {c2 s2 : Nat} (h1 : cells ≤ c2) (h2 : slots ≤ s2) (kk : Gq p l e R s m args below meth c D A nL Q ws c2 s2 pc lv st) : Gq p l e R s m args below meth c D A nL Q ws cells slots pc lv st := fun H locs ls hP hD hS hl => W.widen h1 h2 (kk H locs ls hP hD hS hl)
theorem g_left {wr : va_W} (hw : ws = ws' ++ wr) (kk : Gq p l e R s m args below meth c D A nL Q ws' cells slots pc lv st) : Gq p l e R s m args below meth c D A nL Q ws cells slots pc lv st := by
  subst hw
  exact fun H locs ls hP hD hS hl => kk H locs ls (vp_app.mp hP).1 (vd_app.mp hD).1 hS hl
theorem g_iconst (C : Cx ss p l s m args meth c cc nL Ts own D tys A tb) {n : Int} {v : Int32} (d : decode cc pc = .ok (.iconst n, 1)) (q : Nat) (hq : pc + 1 = q) (hv : Int32.ofInt n = v) (kk : Gq p l e R s m args below meth c D A nL Q ws cells slots q lv (.int v :: st)) : Gq p l e R s m args below meth c D A nL Q ws cells slots pc lv st := by
  subst hq
  exact fun H locs ls hP hD hS hl => lv_iconst C.1 C.2.1 d hv (kk H locs ls hP hD hS hl)
theorem g_bipush (C : Cx ss p l s m args meth c cc nL Ts own D tys A tb) {n : Int} {v : Int32} (d : decode cc pc = .ok (.bipush n, 2)) (q : Nat) (hq : pc + 2 = q) (hv : (Int8.ofInt n).toInt32 = v) (kk : Gq p l e R s m args below meth c D A nL Q ws cells slots q lv (.int v :: st)) : Gq p l e R s m args below meth c D A nL Q ws cells slots pc lv st := by
  subst hq
  exact fun H locs ls hP hD hS hl => lv_bipush C.1 C.2.1 d hv (kk H locs ls hP hD hS hl)
theorem g_lconst (C : Cx ss p l s m args meth c cc nL Ts own D tys A tb) {n : Fin 2} {v : Int64} (d : decode cc pc = .ok (.lconst n, 1)) (q : Nat) (hq : pc + 1 = q) (hv : Int64.ofNat (n : Nat) = v) (kk : Gq p l e R s m args below meth c D A nL Q ws cells slots q lv (.long v :: st)) : Gq p l e R s m args below meth c D A nL Q ws cells slots pc lv st := by
  subst hq
  exact fun H locs ls hP hD hS hl => lv_lconst C.1 C.2.1 d hv (kk H locs ls hP hD hS hl)
theorem g_dconst0 (C : Cx ss p l s m args meth c cc nL Ts own D tys A tb) (d : decode cc pc = .ok (.dconst 0, 1)) (q : Nat) (hq : pc + 1 = q) (kk : Gq p l e R s m args below meth c D A nL Q ws cells slots q lv (.double FP.dconst0 :: st)) : Gq p l e R s m args below meth c D A nL Q ws cells slots pc lv st := by
  subst hq
  exact fun H locs ls hP hD hS hl => lv_dconst0 C.1 C.2.1 d (kk H locs ls hP hD hS hl)
theorem g_ldc2 (C : Cx ss p l s m args meth c cc nL Ts own D tys A tb) {i : Nat} {v : Int64} (hw : (Cond.constantLong own i v).before args s = true) (d : decode cc pc = .ok (.ldc2_w i, 3)) (q : Nat) (hq : pc + 3 = q) (kk : Gq p l e R s m args below meth c D A nL Q ws cells slots q lv (.long v :: st)) : Gq p l e R s m args below meth c D A nL Q ws cells slots pc lv st := by
  subst hq
  exact fun H locs ls hP hD hS hl => lv_ldc2 C.1 C.2.1 C.2.2.2.1 hw d (kk H locs ls hP hD hS hl)
theorem g_iload_n (C : Cx ss p l s m args meth c cc nL Ts own D tys A tb) {k : Fin 4} {x : Int32} (d : decode cc pc = .ok (.iload_n k, 1)) (q : Nat) (hq : pc + 1 = q) (j : Nat) (hj : lv[j]? = some ((k : Nat), .int x)) (kk : Gq p l e R s m args below meth c D A nL Q ws cells slots q lv (.int x :: st)) : Gq p l e R s m args below meth c D A nL Q ws cells slots pc lv st := by
  subst hq
  exact fun H locs ls hP hD hS hl => lv_iload_n C.1 C.2.1 d rfl (lv_at hl j hj) (kk H locs ls hP hD hS hl)
theorem g_iload (C : Cx ss p l s m args meth c cc nL Ts own D tys A tb) {i : Nat} {x : Int32} (d : decode cc pc = .ok (.iload i, 2)) (q : Nat) (hq : pc + 2 = q) (j : Nat) (hj : lv[j]? = some (i, .int x)) (kk : Gq p l e R s m args below meth c D A nL Q ws cells slots q lv (.int x :: st)) : Gq p l e R s m args below meth c D A nL Q ws cells slots pc lv st := by
  subst hq
  exact fun H locs ls hP hD hS hl => lv_iload C.1 C.2.1 d (lv_at hl j hj) (kk H locs ls hP hD hS hl)
theorem g_aload_n (C : Cx ss p l s m args meth c cc nL Ts own D tys A tb) {k : Fin 4} {x : Nat} (d : decode cc pc = .ok (.aload_n k, 1)) (q : Nat) (hq : pc + 1 = q) (j : Nat) (hj : lv[j]? = some ((k : Nat), .ref x)) (kk : Gq p l e R s m args below meth c D A nL Q ws cells slots q lv (.ref x :: st)) : Gq p l e R s m args below meth c D A nL Q ws cells slots pc lv st := by
  subst hq
  exact fun H locs ls hP hD hS hl => lv_aload_n C.1 C.2.1 d rfl (lv_at hl j hj) (kk H locs ls hP hD hS hl)
theorem g_aload (C : Cx ss p l s m args meth c cc nL Ts own D tys A tb) {i : Nat} {x : Nat} (d : decode cc pc = .ok (.aload i, 2)) (q : Nat) (hq : pc + 2 = q) (j : Nat) (hj : lv[j]? = some (i, .ref x)) (kk : Gq p l e R s m args below meth c D A nL Q ws cells slots q lv (.ref x :: st)) : Gq p l e R s m args below meth c D A nL Q ws cells slots pc lv st := by
  subst hq
  exact fun H locs ls hP hD hS hl => lv_aload C.1 C.2.1 d (lv_at hl j hj) (kk H locs ls hP hD hS hl)
theorem g_lload_n (C : Cx ss p l s m args meth c cc nL Ts own D tys A tb) {k : Fin 4} {x : Int64} (d : decode cc pc = .ok (.lload_n k, 1)) (q : Nat) (hq : pc + 1 = q) (j : Nat) (hj : lv[j]? = some ((k : Nat), .long x)) (kk : Gq p l e R s m args below meth c D A nL Q ws cells slots q lv (.long x :: st)) : Gq p l e R s m args below meth c D A nL Q ws cells slots pc lv st := by
  subst hq
  exact fun H locs ls hP hD hS hl => lv_lload_n C.1 C.2.1 d rfl (lv_at hl j hj) (kk H locs ls hP hD hS hl)
theorem g_dload (C : Cx ss p l s m args meth c cc nL Ts own D tys A tb) {i : Nat} {x : UInt64} (d : decode cc pc = .ok (.dload i, 2)) (q : Nat) (hq : pc + 2 = q) (j : Nat) (hj : lv[j]? = some (i, .double x)) (kk : Gq p l e R s m args below meth c D A nL Q ws cells slots q lv (.double x :: st)) : Gq p l e R s m args below meth c D A nL Q ws cells slots pc lv st := by
  subst hq
  exact fun H locs ls hP hD hS hl => lv_dload C.1 C.2.1 d (lv_at hl j hj) (kk H locs ls hP hD hS hl)
theorem g_istore_n (C : Cx ss p l s m args meth c cc nL Ts own D tys A tb) {k : Fin 4} {x : Int32} (d : decode cc pc = .ok (.istore_n k, 1)) (q : Nat) (hq : pc + 1 = q) (hn : (k : Nat) < nL) (hl' : ((k : Nat), Value.int x) :: lv.filter (fun q => !(q.1 == (k : Nat)) && !(q.1 + 1 == (k : Nat) && q.2.category == 2)) = lv') (kk : Gq p l e R s m args below meth c D A nL Q ws cells slots q lv' st) : Gq p l e R s m args below meth c D A nL Q ws cells slots pc lv (.int x :: st) := by
  subst hq
  exact fun H locs ls hP hD hS hl => lv_istore_n C.1 C.2.1 d rfl hl hn hl' (fun ls hl => kk H locs ls hP hD hS hl)
theorem g_istore (C : Cx ss p l s m args meth c cc nL Ts own D tys A tb) {i : Nat} {x : Int32} (d : decode cc pc = .ok (.istore i, 2)) (q : Nat) (hq : pc + 2 = q) (hn : i < nL) (hl' : (i, Value.int x) :: lv.filter (fun q => !(q.1 == i) && !(q.1 + 1 == i && q.2.category == 2)) = lv') (kk : Gq p l e R s m args below meth c D A nL Q ws cells slots q lv' st) : Gq p l e R s m args below meth c D A nL Q ws cells slots pc lv (.int x :: st) := by
  subst hq
  exact fun H locs ls hP hD hS hl => lv_istore C.1 C.2.1 d hl hn hl' (fun ls hl => kk H locs ls hP hD hS hl)
theorem g_astore_n (C : Cx ss p l s m args meth c cc nL Ts own D tys A tb) {k : Fin 4} {x : Nat} (d : decode cc pc = .ok (.astore_n k, 1)) (q : Nat) (hq : pc + 1 = q) (hn : (k : Nat) < nL) (hl' : ((k : Nat), Value.ref x) :: lv.filter (fun q => !(q.1 == (k : Nat)) && !(q.1 + 1 == (k : Nat) && q.2.category == 2)) = lv') (kk : Gq p l e R s m args below meth c D A nL Q ws cells slots q lv' st) : Gq p l e R s m args below meth c D A nL Q ws cells slots pc lv (.ref x :: st) := by
  subst hq
  exact fun H locs ls hP hD hS hl => lv_astore_n C.1 C.2.1 d rfl hl hn hl' (fun ls hl => kk H locs ls hP hD hS hl)
theorem g_astore (C : Cx ss p l s m args meth c cc nL Ts own D tys A tb) {i : Nat} {x : Nat} (d : decode cc pc = .ok (.astore i, 2)) (q : Nat) (hq : pc + 2 = q) (hn : i < nL) (hl' : (i, Value.ref x) :: lv.filter (fun q => !(q.1 == i) && !(q.1 + 1 == i && q.2.category == 2)) = lv') (kk : Gq p l e R s m args below meth c D A nL Q ws cells slots q lv' st) : Gq p l e R s m args below meth c D A nL Q ws cells slots pc lv (.ref x :: st) := by
  subst hq
  exact fun H locs ls hP hD hS hl => lv_astore C.1 C.2.1 d hl hn hl' (fun ls hl => kk H locs ls hP hD hS hl)
theorem g_lstore_n (C : Cx ss p l s m args meth c cc nL Ts own D tys A tb) {k : Fin 4} {x : Int64} (d : decode cc pc = .ok (.lstore_n k, 1)) (q : Nat) (hq : pc + 1 = q) (hn : (k : Nat) + 1 < nL) (hl' : ((k : Nat), Value.long x) :: lv.filter (fun q => !(q.1 == (k : Nat)) && (!(q.1 == (k : Nat) + 1) && !(q.1 + 1 == (k : Nat) && q.2.category == 2))) = lv') (kk : Gq p l e R s m args below meth c D A nL Q ws cells slots q lv' st) : Gq p l e R s m args below meth c D A nL Q ws cells slots pc lv (.long x :: st) := by
  subst hq
  exact fun H locs ls hP hD hS hl => lv_lstore_n C.1 C.2.1 d rfl hl hn hl' (fun ls hl => kk H locs ls hP hD hS hl)
theorem g_dstore (C : Cx ss p l s m args meth c cc nL Ts own D tys A tb) {i : Nat} {x : UInt64} (d : decode cc pc = .ok (.dstore i, 2)) (q : Nat) (hq : pc + 2 = q) (hn : i + 1 < nL) (hl' : (i, Value.double x) :: lv.filter (fun q => !(q.1 == i) && (!(q.1 == i + 1) && !(q.1 + 1 == i && q.2.category == 2))) = lv') (kk : Gq p l e R s m args below meth c D A nL Q ws cells slots q lv' st) : Gq p l e R s m args below meth c D A nL Q ws cells slots pc lv (.double x :: st) := by
  subst hq
  exact fun H locs ls hP hD hS hl => lv_dstore C.1 C.2.1 d hl hn hl' (fun ls hl => kk H locs ls hP hD hS hl)
theorem g_iinc (C : Cx ss p l s m args meth c cc nL Ts own D tys A tb) {i : Nat} {n : Int} {x v : Int32} (d : decode cc pc = .ok (.iinc i n, 3)) (q : Nat) (hq : pc + 3 = q) (j : Nat) (hj : lv[j]? = some (i, .int x)) (hv : x + Int32.ofInt n = v) (hn : i < nL) (hl' : (i, Value.int v) :: lv.filter (fun q => !(q.1 == i) && !(q.1 + 1 == i && q.2.category == 2)) = lv') (kk : Gq p l e R s m args below meth c D A nL Q ws cells slots q lv' st) : Gq p l e R s m args below meth c D A nL Q ws cells slots pc lv st := by
  subst hq
  exact fun H locs ls hP hD hS hl => lv_iinc C.1 C.2.1 d hl hj hv hn hl' (fun ls hl => kk H locs ls hP hD hS hl)
theorem g_iadd (C : Cx ss p l s m args meth c cc nL Ts own D tys A tb) {x y : Int32} (d : decode cc pc = .ok (.iadd, 1)) (q : Nat) (hq : pc + 1 = q) (kk : Gq p l e R s m args below meth c D A nL Q ws cells slots q lv (.int (x + y) :: st)) : Gq p l e R s m args below meth c D A nL Q ws cells slots pc lv (.int y :: .int x :: st) := by
  subst hq
  exact fun H locs ls hP hD hS hl => lv_iadd C.1 C.2.1 d (kk H locs ls hP hD hS hl)
theorem g_isub (C : Cx ss p l s m args meth c cc nL Ts own D tys A tb) {x y : Int32} (d : decode cc pc = .ok (.isub, 1)) (q : Nat) (hq : pc + 1 = q) (kk : Gq p l e R s m args below meth c D A nL Q ws cells slots q lv (.int (x - y) :: st)) : Gq p l e R s m args below meth c D A nL Q ws cells slots pc lv (.int y :: .int x :: st) := by
  subst hq
  exact fun H locs ls hP hD hS hl => lv_isub C.1 C.2.1 d (kk H locs ls hP hD hS hl)
theorem g_imul (C : Cx ss p l s m args meth c cc nL Ts own D tys A tb) {x y : Int32} (d : decode cc pc = .ok (.imul, 1)) (q : Nat) (hq : pc + 1 = q) (kk : Gq p l e R s m args below meth c D A nL Q ws cells slots q lv (.int (x * y) :: st)) : Gq p l e R s m args below meth c D A nL Q ws cells slots pc lv (.int y :: .int x :: st) := by
  subst hq
  exact fun H locs ls hP hD hS hl => lv_imul C.1 C.2.1 d (kk H locs ls hP hD hS hl)
theorem g_idiv (C : Cx ss p l s m args meth c cc nL Ts own D tys A tb) {x y : Int32} (hy : ¬ y = 0) (d : decode cc pc = .ok (.idiv, 1)) (q : Nat) (hq : pc + 1 = q) (kk : Gq p l e R s m args below meth c D A nL Q ws cells slots q lv (.int (x / y) :: st)) : Gq p l e R s m args below meth c D A nL Q ws cells slots pc lv (.int y :: .int x :: st) := by
  subst hq
  exact fun H locs ls hP hD hS hl => lv_idiv C.1 C.2.1 d hy (kk H locs ls hP hD hS hl)
theorem g_iand (C : Cx ss p l s m args meth c cc nL Ts own D tys A tb) {x y : Int32} (d : decode cc pc = .ok (.iand, 1)) (q : Nat) (hq : pc + 1 = q) (kk : Gq p l e R s m args below meth c D A nL Q ws cells slots q lv (.int (x &&& y) :: st)) : Gq p l e R s m args below meth c D A nL Q ws cells slots pc lv (.int y :: .int x :: st) := by
  subst hq
  exact fun H locs ls hP hD hS hl => lv_iand C.1 C.2.1 d (kk H locs ls hP hD hS hl)
theorem g_ladd (C : Cx ss p l s m args meth c cc nL Ts own D tys A tb) {x y : Int64} (d : decode cc pc = .ok (.ladd, 1)) (q : Nat) (hq : pc + 1 = q) (kk : Gq p l e R s m args below meth c D A nL Q ws cells slots q lv (.long (x + y) :: st)) : Gq p l e R s m args below meth c D A nL Q ws cells slots pc lv (.long y :: .long x :: st) := by
  subst hq
  exact fun H locs ls hP hD hS hl => lv_ladd C.1 C.2.1 d (kk H locs ls hP hD hS hl)
theorem g_lmul (C : Cx ss p l s m args meth c cc nL Ts own D tys A tb) {x y : Int64} (d : decode cc pc = .ok (.lmul, 1)) (q : Nat) (hq : pc + 1 = q) (kk : Gq p l e R s m args below meth c D A nL Q ws cells slots q lv (.long (x * y) :: st)) : Gq p l e R s m args below meth c D A nL Q ws cells slots pc lv (.long y :: .long x :: st) := by
  subst hq
  exact fun H locs ls hP hD hS hl => lv_lmul C.1 C.2.1 d (kk H locs ls hP hD hS hl)
theorem g_lcmp (C : Cx ss p l s m args meth c cc nL Ts own D tys A tb) {x y : Int64} (d : decode cc pc = .ok (.lcmp, 1)) (q : Nat) (hq : pc + 1 = q) (kk : Gq p l e R s m args below meth c D A nL Q ws cells slots q lv (.int (lg_cmp x y) :: st)) : Gq p l e R s m args below meth c D A nL Q ws cells slots pc lv (.long y :: .long x :: st) := by
  subst hq
  exact fun H locs ls hP hD hS hl => W.lcmp C.1 C.2.1 d (kk H locs ls hP hD hS hl)
theorem g_dcmp (C : Cx ss p l s m args meth c cc nL Ts own D tys A tb) {x y : UInt64} {op : CmpOp} (d : decode cc pc = .ok (.dcmp op, 1)) (q : Nat) (hq : pc + 1 = q) (kk : Gq p l e R s m args below meth c D A nL Q ws cells slots q lv (.int (Op.cmpValue (FP.dcmp x y) op) :: st)) : Gq p l e R s m args below meth c D A nL Q ws cells slots pc lv (.double y :: .double x :: st) := by
  subst hq
  exact fun H locs ls hP hD hS hl => lv_dcmp C.1 C.2.1 d (kk H locs ls hP hD hS hl)
theorem g_ddiv (C : Cx ss p l s m args meth c cc nL Ts own D tys A tb) {x y : UInt64} (hne : vf_n64 (FP.ddiv x y)) (d : decode cc pc = .ok (.ddiv, 1)) (q : Nat) (hq : pc + 1 = q) (kk : Gq p l e R s m args below meth c D A nL Q ws cells slots q lv (.double (FP.ddiv x y) :: st)) : Gq p l e R s m args below meth c D A nL Q ws cells slots pc lv (.double y :: .double x :: st) := by
  subst hq
  exact fun H locs ls hP hD hS hl => lv_ddiv C.1 C.2.1 d hne (kk H locs ls hP hD hS hl)
theorem g_i2l (C : Cx ss p l s m args meth c cc nL Ts own D tys A tb) {x : Int32} (d : decode cc pc = .ok (.i2l, 1)) (q : Nat) (hq : pc + 1 = q) (kk : Gq p l e R s m args below meth c D A nL Q ws cells slots q lv (.long x.toInt64 :: st)) : Gq p l e R s m args below meth c D A nL Q ws cells slots pc lv (.int x :: st) := by
  subst hq
  exact fun H locs ls hP hD hS hl => lv_i2l C.1 C.2.1 d rfl (kk H locs ls hP hD hS hl)
theorem g_i2d (C : Cx ss p l s m args meth c cc nL Ts own D tys A tb) {x : Int32} (d : decode cc pc = .ok (.i2d, 1)) (q : Nat) (hq : pc + 1 = q) (kk : Gq p l e R s m args below meth c D A nL Q ws cells slots q lv (.double (FP.i2d x) :: st)) : Gq p l e R s m args below meth c D A nL Q ws cells slots pc lv (.int x :: st) := by
  subst hq
  exact fun H locs ls hP hD hS hl => lv_i2d C.1 C.2.1 d (kk H locs ls hP hD hS hl)
theorem g_dup (C : Cx ss p l s m args meth c cc nL Ts own D tys A tb) {va : Value} (d : decode cc pc = .ok (.dup, 1)) (q : Nat) (hq : pc + 1 = q) (hva : va.category = 1) (kk : Gq p l e R s m args below meth c D A nL Q ws cells slots q lv (va :: va :: st)) : Gq p l e R s m args below meth c D A nL Q ws cells slots pc lv (va :: st) := by
  subst hq
  exact fun H locs ls hP hD hS hl => lv_dup C.1 C.2.1 d hva (kk H locs ls hP hD hS hl)
theorem g_dup2 (C : Cx ss p l s m args meth c cc nL Ts own D tys A tb) {va vb : Value} (d : decode cc pc = .ok (.dup2, 1)) (q : Nat) (hq : pc + 1 = q) (hva : va.category = 1) (hvb : vb.category = 1) (kk : Gq p l e R s m args below meth c D A nL Q ws cells slots q lv (va :: vb :: va :: vb :: st)) : Gq p l e R s m args below meth c D A nL Q ws cells slots pc lv (va :: vb :: st) := by
  subst hq
  exact fun H locs ls hP hD hS hl => lv_dup2_11 C.1 C.2.1 d hva hvb (kk H locs ls hP hD hS hl)
/-! rows: branches -/
theorem g_goto (C : Cx ss p l s m args meth c cc nL Ts own D tys A tb) {off : Int} (d : decode cc pc = .ok (.goto off, 3)) (tgt : Nat) (ht : (pc : Int) + off = (tgt : Int)) (kk : Gq p l e R s m args below meth c D A nL Q ws cells slots tgt lv st) : Gq p l e R s m args below meth c D A nL Q ws cells slots pc lv st := fun H locs ls hP hD hS hl => lv_goto C.1 C.2.1 d ht (kk H locs ls hP hD hS hl)
theorem g_icmp_ge (C : Cx ss p l s m args meth c cc nL Ts own D tys A tb) {x y : Int32} {off : Int} (d : decode cc pc = .ok (.if_icmp .ge off, 3)) (tgt q : Nat) (ht : (pc : Int) + off = (tgt : Int)) (hq : pc + 3 = q) (kt : y ≤ x → Gq p l e R s m args below meth c D A nL Q ws cells slots tgt lv st) (kf : ¬ y ≤ x → Gq p l e R s m args below meth c D A nL Q ws cells slots q lv st) : Gq p l e R s m args below meth c D A nL Q ws cells slots pc lv (.int y :: .int x :: st) := by
  subst hq
  exact fun H locs ls hP hD hS hl => lv_icmp_ge C.1 C.2.1 d ht (fun h => kt h H locs ls hP hD hS hl) (fun h => kf h H locs ls hP hD hS hl)
theorem g_icmp_lt (C : Cx ss p l s m args meth c cc nL Ts own D tys A tb) {x y : Int32} {off : Int} (d : decode cc pc = .ok (.if_icmp .lt off, 3)) (tgt q : Nat) (ht : (pc : Int) + off = (tgt : Int)) (hq : pc + 3 = q) (kt : x < y → Gq p l e R s m args below meth c D A nL Q ws cells slots tgt lv st) (kf : ¬ x < y → Gq p l e R s m args below meth c D A nL Q ws cells slots q lv st) : Gq p l e R s m args below meth c D A nL Q ws cells slots pc lv (.int y :: .int x :: st) := by
  subst hq
  exact fun H locs ls hP hD hS hl => lv_icmp_lt C.1 C.2.1 d ht (fun h => kt h H locs ls hP hD hS hl) (fun h => kf h H locs ls hP hD hS hl)
theorem g_icmp_gt (C : Cx ss p l s m args meth c cc nL Ts own D tys A tb) {x y : Int32} {off : Int} (d : decode cc pc = .ok (.if_icmp .gt off, 3)) (tgt q : Nat) (ht : (pc : Int) + off = (tgt : Int)) (hq : pc + 3 = q) (kt : y < x → Gq p l e R s m args below meth c D A nL Q ws cells slots tgt lv st) (kf : ¬ y < x → Gq p l e R s m args below meth c D A nL Q ws cells slots q lv st) : Gq p l e R s m args below meth c D A nL Q ws cells slots pc lv (.int y :: .int x :: st) := by
  subst hq
  exact fun H locs ls hP hD hS hl => lv_icmp_gt C.1 C.2.1 d ht (fun h => kt h H locs ls hP hD hS hl) (fun h => kf h H locs ls hP hD hS hl)
theorem g_icmp_le (C : Cx ss p l s m args meth c cc nL Ts own D tys A tb) {x y : Int32} {off : Int} (d : decode cc pc = .ok (.if_icmp .le off, 3)) (tgt q : Nat) (ht : (pc : Int) + off = (tgt : Int)) (hq : pc + 3 = q) (kt : x ≤ y → Gq p l e R s m args below meth c D A nL Q ws cells slots tgt lv st) (kf : ¬ x ≤ y → Gq p l e R s m args below meth c D A nL Q ws cells slots q lv st) : Gq p l e R s m args below meth c D A nL Q ws cells slots pc lv (.int y :: .int x :: st) := by
  subst hq
  exact fun H locs ls hP hD hS hl => lv_icmp_le C.1 C.2.1 d ht (fun h => kt h H locs ls hP hD hS hl) (fun h => kf h H locs ls hP hD hS hl)
theorem g_icmp_eq (C : Cx ss p l s m args meth c cc nL Ts own D tys A tb) {x y : Int32} {off : Int} (d : decode cc pc = .ok (.if_icmp .eq off, 3)) (tgt q : Nat) (ht : (pc : Int) + off = (tgt : Int)) (hq : pc + 3 = q) (kt : x = y → Gq p l e R s m args below meth c D A nL Q ws cells slots tgt lv st) (kf : ¬ x = y → Gq p l e R s m args below meth c D A nL Q ws cells slots q lv st) : Gq p l e R s m args below meth c D A nL Q ws cells slots pc lv (.int y :: .int x :: st) := by
  subst hq
  exact fun H locs ls hP hD hS hl => lv_icmp_eq C.1 C.2.1 d ht (fun h => kt h H locs ls hP hD hS hl) (fun h => kf h H locs ls hP hD hS hl)
theorem g_icmp_ne (C : Cx ss p l s m args meth c cc nL Ts own D tys A tb) {x y : Int32} {off : Int} (d : decode cc pc = .ok (.if_icmp .ne off, 3)) (tgt q : Nat) (ht : (pc : Int) + off = (tgt : Int)) (hq : pc + 3 = q) (kt : ¬ x = y → Gq p l e R s m args below meth c D A nL Q ws cells slots tgt lv st) (kf : x = y → Gq p l e R s m args below meth c D A nL Q ws cells slots q lv st) : Gq p l e R s m args below meth c D A nL Q ws cells slots pc lv (.int y :: .int x :: st) := by
  subst hq
  exact fun H locs ls hP hD hS hl => lv_icmp_ne C.1 C.2.1 d ht (fun h => kt h H locs ls hP hD hS hl) (fun h => kf h H locs ls hP hD hS hl)
theorem g_if_eq (C : Cx ss p l s m args meth c cc nL Ts own D tys A tb) {x : Int32} {off : Int} (d : decode cc pc = .ok (.ifCond .eq off, 3)) (tgt q : Nat) (ht : (pc : Int) + off = (tgt : Int)) (hq : pc + 3 = q) (kt : x = 0 → Gq p l e R s m args below meth c D A nL Q ws cells slots tgt lv st) (kf : ¬ x = 0 → Gq p l e R s m args below meth c D A nL Q ws cells slots q lv st) : Gq p l e R s m args below meth c D A nL Q ws cells slots pc lv (.int x :: st) := by
  subst hq
  exact fun H locs ls hP hD hS hl => lv_if_eq C.1 C.2.1 d ht (fun h => kt h H locs ls hP hD hS hl) (fun h => kf h H locs ls hP hD hS hl)
theorem g_if_ne (C : Cx ss p l s m args meth c cc nL Ts own D tys A tb) {x : Int32} {off : Int} (d : decode cc pc = .ok (.ifCond .ne off, 3)) (tgt q : Nat) (ht : (pc : Int) + off = (tgt : Int)) (hq : pc + 3 = q) (kt : ¬ x = 0 → Gq p l e R s m args below meth c D A nL Q ws cells slots tgt lv st) (kf : x = 0 → Gq p l e R s m args below meth c D A nL Q ws cells slots q lv st) : Gq p l e R s m args below meth c D A nL Q ws cells slots pc lv (.int x :: st) := by
  subst hq
  exact fun H locs ls hP hD hS hl => lv_if_ne C.1 C.2.1 d ht (fun h => kt h H locs ls hP hD hS hl) (fun h => kf h H locs ls hP hD hS hl)
theorem g_if_lt (C : Cx ss p l s m args meth c cc nL Ts own D tys A tb) {x : Int32} {off : Int} (d : decode cc pc = .ok (.ifCond .lt off, 3)) (tgt q : Nat) (ht : (pc : Int) + off = (tgt : Int)) (hq : pc + 3 = q) (kt : x < 0 → Gq p l e R s m args below meth c D A nL Q ws cells slots tgt lv st) (kf : ¬ x < 0 → Gq p l e R s m args below meth c D A nL Q ws cells slots q lv st) : Gq p l e R s m args below meth c D A nL Q ws cells slots pc lv (.int x :: st) := by
  subst hq
  exact fun H locs ls hP hD hS hl => lv_if_lt C.1 C.2.1 d ht (fun h => kt h H locs ls hP hD hS hl) (fun h => kf h H locs ls hP hD hS hl)
theorem g_if_le (C : Cx ss p l s m args meth c cc nL Ts own D tys A tb) {x : Int32} {off : Int} (d : decode cc pc = .ok (.ifCond .le off, 3)) (tgt q : Nat) (ht : (pc : Int) + off = (tgt : Int)) (hq : pc + 3 = q) (kt : x ≤ 0 → Gq p l e R s m args below meth c D A nL Q ws cells slots tgt lv st) (kf : ¬ x ≤ 0 → Gq p l e R s m args below meth c D A nL Q ws cells slots q lv st) : Gq p l e R s m args below meth c D A nL Q ws cells slots pc lv (.int x :: st) := by
  subst hq
  exact fun H locs ls hP hD hS hl => lv_if_le C.1 C.2.1 d ht (fun h => kt h H locs ls hP hD hS hl) (fun h => kf h H locs ls hP hD hS hl)
theorem g_if_gt (C : Cx ss p l s m args meth c cc nL Ts own D tys A tb) {x : Int32} {off : Int} (d : decode cc pc = .ok (.ifCond .gt off, 3)) (tgt q : Nat) (ht : (pc : Int) + off = (tgt : Int)) (hq : pc + 3 = q) (kt : 0 < x → Gq p l e R s m args below meth c D A nL Q ws cells slots tgt lv st) (kf : ¬ 0 < x → Gq p l e R s m args below meth c D A nL Q ws cells slots q lv st) : Gq p l e R s m args below meth c D A nL Q ws cells slots pc lv (.int x :: st) := by
  subst hq
  exact fun H locs ls hP hD hS hl => lv_if_gt C.1 C.2.1 d ht (fun h => kt h H locs ls hP hD hS hl) (fun h => kf h H locs ls hP hD hS hl)
/-! rows: fields and arrays -/
theorem g_get (C : Cx ss p l s m args meth c cc nL Ts own D tys A tb) {ref Cn : String} {T : u_T} {N ci i a : Nat} {fs : List Value} {v : Value} (hin : ∀ w ∈ u_ws Cn T N, w ∈ Ts) (q0 : Nat) (he : ws[q0]? = some (a, .inr (ci, fs))) (hc : vwCl[ci]? = some (Cn, T, N)) (k : Nat) (hk : k < N) (hlink : (Cond.fieldLink own i ref (T k).2.1 (T k).2.2.1).before args s = true) (hsame : (T k).1 = ref) (hv : fs[k]? = some v) (d : decode cc pc = .ok (.getfield i, 3)) (q : Nat) (hq : pc + 3 = q)
    (kk : Gq p l e R s m args below meth c D A nL Q ws cells slots q lv (v :: st)) : Gq p l e R s m args below meth c D A nL Q ws cells slots pc lv (.ref a :: st) := by
  subst hq
  exact fun H locs ls hP hD hS hl => va_get C.1 C.2.1 C.2.2.2.2.1 hin C.2.2.2.1 C.2.2.2.2.2.1 hP q0 he hc k hk hlink (fun x h => by rw [← hsame]; exact h) hv d (kk H locs ls hP hD hS hl)
theorem g_put (C : Cx ss p l s m args meth c cc nL Ts own D tys A tb) {ref Cn : String} {T : u_T} {N ci i a : Nat} {fs : List Value} {x : Int32} (hin : ∀ w ∈ u_ws Cn T N, w ∈ Ts) (ty0 : Nat → FieldType) (hty : ∀ k, k < N → parseFieldDescriptor (T k).2.2.1 = some (ty0 k)) (hnm : ∀ a, a < N → ∀ b, b < N → a ≠ b → (T a).2.1 ≠ (T b).2.1) (q0 : Nat) (he : ws[q0]? = some (a, .inr (ci, fs))) (hc : vwCl[ci]? = some (Cn, T, N)) (k : Nat) (hk : k < N) (hlink : (Cond.fieldLink own i ref (T k).2.1 (T k).2.2.1).before args s = true) (hsame : (T k).1 = ref) (hfl : (T k).2.2.2 = false) (hti : ty0 k = .int) (hl0 : k < fs.length) (hw : ws.set q0 (a, .inr (ci, fs.set k (.int x))) = ws') (d : decode cc pc = .ok (.putfield i, 3)) (q : Nat) (hq : pc + 3 = q)
    (kk : Gq p l e R s m args below meth c D A nL Q ws' cells slots q lv st) : Gq p l e R s m args below meth c D A nL Q ws cells slots pc lv (.int x :: .ref a :: st) := by
  subst hq
  subst hw
  refine fun H locs ls hP hD hS hl => va_put (v := .int x) (ty := .int) C.1 C.2.1 C.2.2.2.2.1 hin ty0 hty hnm C.2.2.2.1 C.2.2.2.2.2.1 hP hD hS q0 he hc k hk hlink (fun x h => by rw [← hsame]; exact h) hfl ?_ ?_ ?_ hl0 d (fun H locs hP hD hS => kk H locs ls hP hD hS hl)
  all_goals first | exact hti | rfl | (rw [hti]; rfl) | (rw [hty k hk, hti]; done)
theorem g_newa (C : Cx ss p l s m args meth c cc nL Ts own D tys A tb) {atype : ArrayType} {ty : FieldType} {cA : ClassId} {a0 : vp_A} {n : Int32} (harr : (Cond.arrayClass (newarray.typeOf atype)).before args s = true) (hty : newarray.typeOf atype = ty) (hobj : ∀ C, ty ≠ .object C) (t0 : Nat) (ht : tys[t0]? = some (cA, ty)) (N : Nat) (ha : ∀ cA : ClassId, vp_cell cA a0 = arrV cA N (fun _ => defaultValue ty)) (hn : ¬ n < 0) (hN : n.toNatClampNeg = N) (hby : N * componentBytes ty ≤ 536870912) {c2 s2 : Nat} (hc2 : cells + 1 = c2) (hs2 : slots + N = s2) (hcells : c2 ≤ R.cells) (hslots : s2 ≤ R.slots) (d : decode cc pc = .ok (.newarray atype, 2)) (q : Nat) (hq : pc + 2 = q)
    (kk : ∀ z : Nat, Gq p l e R s m args below meth c D A nL Q (ws ++ [(z, .inl (cA, a0))]) c2 s2 q lv (.ref z :: st)) : Gq p l e R s m args below meth c D A nL Q ws cells slots pc lv (.int n :: st) := by
  subst hq; subst hc2; subst hs2
  refine fun H locs ls hP hD hS hl => va_newa C.1 C.2.1 (atype := atype) harr hty C.2.2.2.2.2.1 hP hD hS C.2.2.2.2.2.2.1 (n := n) (N' := N) (a0 := a0) ha hn hN hby hcells hslots d (fun z cB H1 hK1 hP1 hD1 hS1 => ?_)
  have h1 := (hK1.2 tys.length (cB, ty) (by rw [List.getElem?_append_right (Nat.le_refl _)]; simp)).2
  have h2 := (C.2.2.2.2.2.1.2 t0 _ ht).2
  have e : cB = cA := by
    cases ty with
    | object C => exact absurd rfl (hobj C)
    | _ => exact Option.some.inj (h1.symm.trans h2)
  subst e
  exact kk z H1 locs ls hP1 hD1 hS1 hl
def ldA (f : Nat → Int32) (n : Nat) (i : Int32) : Option Int32 := if i < 0 ∨ n ≤ i.toNatClampNeg then none else some (f i.toNatClampNeg)
def ldL (f : Nat → Int64) (n : Nat) (i : Int32) : Option Int64 := if i < 0 ∨ n ≤ i.toNatClampNeg then none else some (f i.toNatClampNeg)
theorem ldA_s {f : Nat → Int32} {n : Nat} {i x : Int32} (h : ldA f n i = some x) : vp_in i n ∧ f i.toNatClampNeg = x := by
  unfold ldA at h
  split at h
  · cases h
  · exact ⟨by assumption, Option.some.inj h⟩
theorem ldL_s {f : Nat → Int64} {n : Nat} {i : Int32} {x : Int64} (h : ldL f n i = some x) : vp_in i n ∧ f i.toNatClampNeg = x := by
  unfold ldL at h
  split at h
  · cases h
  · exact ⟨by assumption, Option.some.inj h⟩
theorem g_iald (C : Cx ss p l s m args meth c cc nL Ts own D tys A tb) {a n : Nat} {cA : ClassId} {f : Nat → Int32} {i x : Int32} (q0 t0 : Nat) (ha : ws[q0]? = some (a, .inl (cA, n, .inl f))) (ht : tys[t0]? = some (cA, .int)) (hld : ldA f n i = some x) (d : decode cc pc = .ok (.iaload, 1)) (q : Nat) (hq : pc + 1 = q) (kk : Gq p l e R s m args below meth c D A nL Q ws cells slots q lv (.int x :: st)) : Gq p l e R s m args below meth c D A nL Q ws cells slots pc lv (.int i :: .ref a :: st) := by
  subst hq
  obtain ⟨hin, rfl⟩ := ldA_s hld
  exact fun H locs ls hP hD hS hl => va_iald C.1 C.2.1 C.2.2.2.2.2.1 hP q0 t0 ha ht hin d (kk H locs ls hP hD hS hl)
theorem g_zald (C : Cx ss p l s m args meth c cc nL Ts own D tys A tb) {a n : Nat} {cA : ClassId} {f : Nat → Int32} {i x : Int32} (q0 t0 : Nat) (ha : ws[q0]? = some (a, .inl (cA, n, .inl f))) (ht : tys[t0]? = some (cA, .boolean)) (hld : ldA f n i = some x) (d : decode cc pc = .ok (.baload, 1)) (q : Nat) (hq : pc + 1 = q) (kk : Gq p l e R s m args below meth c D A nL Q ws cells slots q lv (.int x :: st)) : Gq p l e R s m args below meth c D A nL Q ws cells slots pc lv (.int i :: .ref a :: st) := by
  subst hq
  obtain ⟨hin, rfl⟩ := ldA_s hld
  exact fun H locs ls hP hD hS hl => va_zald C.1 C.2.1 C.2.2.2.2.2.1 hP q0 t0 ha ht hin d (kk H locs ls hP hD hS hl)
theorem g_lald (C : Cx ss p l s m args meth c cc nL Ts own D tys A tb) {a n : Nat} {cA : ClassId} {f : Nat → Int64} {i : Int32} {x : Int64} (q0 t0 : Nat) (ha : ws[q0]? = some (a, .inl (cA, n, .inr (.inl f)))) (ht : tys[t0]? = some (cA, .long)) (hld : ldL f n i = some x) (d : decode cc pc = .ok (.laload, 1)) (q : Nat) (hq : pc + 1 = q) (kk : Gq p l e R s m args below meth c D A nL Q ws cells slots q lv (.long x :: st)) : Gq p l e R s m args below meth c D A nL Q ws cells slots pc lv (.int i :: .ref a :: st) := by
  subst hq
  obtain ⟨hin, rfl⟩ := ldL_s hld
  exact fun H locs ls hP hD hS hl => va_lald C.1 C.2.1 C.2.2.2.2.2.1 hP q0 t0 ha ht hin d (kk H locs ls hP hD hS hl)
theorem g_iast (C : Cx ss p l s m args meth c cc nL Ts own D tys A tb) {a n : Nat} {cA : ClassId} {f : Nat → Int32} {i x : Int32} (q0 t0 : Nat) (ha : ws[q0]? = some (a, .inl (cA, n, .inl f))) (ht : tys[t0]? = some (cA, .int)) (hin : vp_in i n) (hw : ws.set q0 (a, .inl (cA, n, .inl (upd f i.toNatClampNeg x))) = ws') (d : decode cc pc = .ok (.iastore, 1)) (q : Nat) (hq : pc + 1 = q) (kk : Gq p l e R s m args below meth c D A nL Q ws' cells slots q lv st) : Gq p l e R s m args below meth c D A nL Q ws cells slots pc lv (.int x :: .int i :: .ref a :: st) := by
  subst hq; subst hw
  exact fun H locs ls hP hD hS hl => va_iast C.1 C.2.1 C.2.2.2.2.2.1 hP hD hS q0 t0 ha ht hin d (fun H locs hP hD hS => kk H locs ls hP hD hS hl)
theorem g_zast (C : Cx ss p l s m args meth c cc nL Ts own D tys A tb) {a n : Nat} {cA : ClassId} {f : Nat → Int32} {i x : Int32} (q0 t0 : Nat) (ha : ws[q0]? = some (a, .inl (cA, n, .inl f))) (ht : tys[t0]? = some (cA, .boolean)) (hin : vp_in i n) (hx : vp_nar .boolean x = x) (hw : ws.set q0 (a, .inl (cA, n, .inl (upd f i.toNatClampNeg x))) = ws') (d : decode cc pc = .ok (.bastore, 1)) (q : Nat) (hq : pc + 1 = q) (kk : Gq p l e R s m args below meth c D A nL Q ws' cells slots q lv st) : Gq p l e R s m args below meth c D A nL Q ws cells slots pc lv (.int x :: .int i :: .ref a :: st) := by
  subst hq; subst hw
  exact fun H locs ls hP hD hS hl => va_zast C.1 C.2.1 C.2.2.2.2.2.1 hP hD hS q0 t0 ha ht hin d (fun H locs hP hD hS => by
    rw [hx] at hP hD
    exact kk H locs ls hP hD hS hl)
theorem g_last (C : Cx ss p l s m args meth c cc nL Ts own D tys A tb) {a n : Nat} {cA : ClassId} {f : Nat → Int64} {i : Int32} {x : Int64} (q0 t0 : Nat) (ha : ws[q0]? = some (a, .inl (cA, n, .inr (.inl f)))) (ht : tys[t0]? = some (cA, .long)) (hin : vp_in i n) (hw : ws.set q0 (a, .inl (cA, n, .inr (.inl (vp_updL f i.toNatClampNeg x)))) = ws') (d : decode cc pc = .ok (.lastore, 1)) (q : Nat) (hq : pc + 1 = q) (kk : Gq p l e R s m args below meth c D A nL Q ws' cells slots q lv st) : Gq p l e R s m args below meth c D A nL Q ws cells slots pc lv (.long x :: .int i :: .ref a :: st) := by
  subst hq; subst hw
  exact fun H locs ls hP hD hS hl => va_last C.1 C.2.1 C.2.2.2.2.2.1 hP hD hS q0 t0 ha ht hin d (fun H locs hP hD hS => kk H locs ls hP hD hS hl)
theorem g_alen (C : Cx ss p l s m args meth c cc nL Ts own D tys A tb) {a : Nat} {cA : ClassId} {x : vp_A} {ty : FieldType} {v : Int32} (q0 t0 : Nat) (ha : ws[q0]? = some (a, .inl (cA, x))) (ht : tys[t0]? = some (cA, ty)) (hv : Int32.ofNat x.1 = v) (d : decode cc pc = .ok (.arraylength, 1)) (q : Nat) (hq : pc + 1 = q) (kk : Gq p l e R s m args below meth c D A nL Q ws cells slots q lv (.int v :: st)) : Gq p l e R s m args below meth c D A nL Q ws cells slots pc lv (.ref a :: st) := by
  subst hq
  exact fun H locs ls hP hD hS hl => va_alen C.1 C.2.1 C.2.2.2.2.2.1 hP q0 t0 ha ht hv d (kk H locs ls hP hD hS hl)
theorem g_mmax (C : Cx ss p l s m args meth c cc nL Ts own D tys A tb) {i : Nat} {x y : Int32} (h1 : (Cond.methodLink own i Lib.Math.max.name).before args s = true) (h2 : (Cond.static Lib.Math.max.name).before args s = true) (h3 : (Cond.initialized "java/lang/Math").before args s = true) (h4 : (Cond.code Lib.Math.max.name Lib.Math.max.code 2 (some .int)).before args s = true) (hf : 1 ≤ R.frames) (hlo : (st.map fun v => v.category).sum + 13 ≤ R.locals) (hc : cells ≤ R.cells) (hs : slots ≤ R.slots) (d : decode cc pc = .ok (.invokestatic i, 3)) (q : Nat) (hq : pc + 3 = q) (kk : Gq p l e R s m args below meth c D A nL Q ws cells slots q lv (.int (if x < y then y else x) :: st)) : Gq p l e R s m args below meth c D A nL Q ws cells slots pc lv (.int y :: .int x :: st) := by
  subst hq
  exact fun H locs ls hP hD hS hl => va_mmax C.1 C.2.1 (C.2.2.1.trans hl.1.symm) C.2.2.2.1 h1 h2 h3 h4 hf hlo hc hs d (kk H locs ls hP hD hS hl)
theorem g_mmin (C : Cx ss p l s m args meth c cc nL Ts own D tys A tb) {i : Nat} {x y : Int32} (h1 : (Cond.methodLink own i Lib.Math.min.name).before args s = true) (h2 : (Cond.static Lib.Math.min.name).before args s = true) (h3 : (Cond.initialized "java/lang/Math").before args s = true) (h4 : (Cond.code Lib.Math.min.name Lib.Math.min.code 2 (some .int)).before args s = true) (hf : 1 ≤ R.frames) (hlo : (st.map fun v => v.category).sum + 13 ≤ R.locals) (hc : cells ≤ R.cells) (hs : slots ≤ R.slots) (d : decode cc pc = .ok (.invokestatic i, 3)) (q : Nat) (hq : pc + 3 = q) (kk : Gq p l e R s m args below meth c D A nL Q ws cells slots q lv (.int (if y < x then y else x) :: st)) : Gq p l e R s m args below meth c D A nL Q ws cells slots pc lv (.int y :: .int x :: st) := by
  subst hq
  exact fun H locs ls hP hD hS hl => va_mmin C.1 C.2.1 (C.2.2.1.trans hl.1.symm) C.2.2.2.1 h1 h2 h3 h4 hf hlo hc hs d (kk H locs ls hP hD hS hl)
theorem g_copy (C : Cx ss p l s m args meth c cc nL Ts own D tys A tb) {i : Nat} {a a0 n0 n1 : Nat} {c0 c1 : ClassId} {f g : Nat → Int32} {sp dp n : Int32} (h1 : (Cond.methodLink own i arraycopyName).before args s = true) (h2 : (Cond.native arraycopyName).before args s = true) (h3 : (Cond.static arraycopyName).before args s = true) (h4 : (Cond.initialized "java/lang/System").before args s = true) (q0 q1 t0 t1 : Nat) (ha0 : ws[q0]? = some (a0, .inl (c0, n0, .inl f))) (ha1 : ws[q1]? = some (a, .inl (c1, n1, .inl g))) (ht0 : tys[t0]? = some (c0, .int)) (ht1 : tys[t1]? = some (c1, .int)) (b1 : ¬ sp < 0) (b2 : ¬ dp < 0) (b3 : ¬ n < 0) (b4 : sp.toNatClampNeg + n.toNatClampNeg ≤ n0) (b5 : dp.toNatClampNeg + n.toNatClampNeg ≤ n1) (hf : 1 ≤ R.frames) (hlo : (st.map fun v => v.category).sum + (nativeFrameWords "java/lang/System" "arraycopy" 5 + 11) ≤ R.locals) (hw : ws.set q1 (a, .inl (c1, n1, .inl (va_cpy f g sp.toNatClampNeg dp.toNatClampNeg n.toNatClampNeg))) = ws') (d : decode cc pc = .ok (.invokestatic i, 3)) (q : Nat) (hq : pc + 3 = q) (kk : Gq p l e R s m args below meth c D A nL Q ws' cells slots q lv st) : Gq p l e R s m args below meth c D A nL Q ws cells slots pc lv (.int n :: .int dp :: .ref a :: .int sp :: .ref a0 :: st) := by
  subst hq; subst hw
  exact fun H locs ls hP hD hS hl => va_copyi C.1 C.2.1 (C.2.2.1.trans hl.1.symm) C.2.2.2.1 h1 h2 h3 h4 C.2.2.2.2.2.1 hP hD hS q0 q1 t0 t1 ha0 ha1 ht0 ht1 rfl b1 b2 b3 b4 b5 (fun _ _ => rfl) hf hlo d (fun H locs hP hD hS => kk H locs ls hP hD hS hl)
/-! rows: ends -/
theorem g_iret (C : Cx ss p l s m args meth c cc nL Ts own D tys A tb) {W0 : va_W} {Rr : Oc → Prop} {mc ms : Nat} {v : Int32} (hr : meth.sig.returnType = some .int) (hR : Rr (.inr (some (.int v), ws))) (h1 : cells ≤ mc) (h2 : slots ≤ ms) (d : decode cc pc = .ok (.ireturn, 1)) : Gq p l e R s m args below meth c D A nL (CQ below D W0 Rr args s mc ms A) ws cells slots pc lv [.int v] :=
  fun H locs ls hP hD hS hl => W.widen h1 h2 (vx_ret (W.iret C.1 C.2.1 hr (fun t ht hW => ⟨⟨_, _, hR, rfl, by rw [ht]; exact hP, hD⟩, hS.F ht⟩) hS.2.2 d C.2.2.2.2.2.2.2.1))
theorem g_zret (C : Cx ss p l s m args meth c cc nL Ts own D tys A tb) {W0 : va_W} {Rr : Oc → Prop} {mc ms : Nat} {v : Int32} (hr : meth.sig.returnType = some .boolean) (hv : v = 0 ∨ v = 1) (hR : Rr (.inr (some (.int v), ws))) (h1 : cells ≤ mc) (h2 : slots ≤ ms) (d : decode cc pc = .ok (.ireturn, 1)) : Gq p l e R s m args below meth c D A nL (CQ below D W0 Rr args s mc ms A) ws cells slots pc lv [.int v] :=
  fun H locs ls hP hD hS hl => W.widen h1 h2 (vx_ret (W.zret C.1 C.2.1 hr (by rcases hv with rfl | rfl <;> rfl) (fun t ht hW => ⟨⟨_, _, hR, rfl, by rw [ht]; exact hP, hD⟩, hS.F ht⟩) hS.2.2 d C.2.2.2.2.2.2.2.1))
theorem g_lret (C : Cx ss p l s m args meth c cc nL Ts own D tys A tb) {W0 : va_W} {Rr : Oc → Prop} {mc ms : Nat} {v : Int64} (hr : meth.sig.returnType = some .long) (hR : Rr (.inr (some (.long v), ws))) (h1 : cells ≤ mc) (h2 : slots ≤ ms) (d : decode cc pc = .ok (.lreturn, 1)) : Gq p l e R s m args below meth c D A nL (CQ below D W0 Rr args s mc ms A) ws cells slots pc lv [.long v] :=
  fun H locs ls hP hD hS hl => W.widen h1 h2 (vx_ret (W.lret C.1 C.2.1 hr (fun t ht hW => ⟨⟨_, _, hR, rfl, by rw [ht]; exact hP, hD⟩, hS.F ht⟩) hS.2.2 d C.2.2.2.2.2.2.2.1))
theorem g_dret (C : Cx ss p l s m args meth c cc nL Ts own D tys A tb) {W0 : va_W} {Rr : Oc → Prop} {mc ms : Nat} {v : UInt64} (hr : meth.sig.returnType = some .double) (hR : Rr (.inr (some (.double v), ws))) (h1 : cells ≤ mc) (h2 : slots ≤ ms) (d : decode cc pc = .ok (.dreturn, 1)) : Gq p l e R s m args below meth c D A nL (CQ below D W0 Rr args s mc ms A) ws cells slots pc lv [.double v] :=
  fun H locs ls hP hD hS hl => W.widen h1 h2 (vx_ret (W.dret C.1 C.2.1 hr (fun t ht hW => ⟨⟨_, _, hR, rfl, by rw [ht]; exact hP, hD⟩, hS.F ht⟩) hS.2.2 d C.2.2.2.2.2.2.2.1))
theorem g_vret (C : Cx ss p l s m args meth c cc nL Ts own D tys A tb) {W0 : va_W} {Rr : Oc → Prop} {mc ms : Nat} (hr : meth.sig.returnType = none) (hR : Rr (.inr (none, ws))) (h1 : cells ≤ mc) (h2 : slots ≤ ms) (d : decode cc pc = .ok (.return_, 1)) : Gq p l e R s m args below meth c D A nL (CQ below D W0 Rr args s mc ms A) ws cells slots pc lv [] :=
  fun H locs ls hP hD hS hl => W.widen h1 h2 (vx_ret (W.vret C.1 C.2.1 hr (fun t ht hW => ⟨⟨_, _, hR, rfl, by rw [ht]; exact hP, hD⟩, hS.F ht⟩) hS.2.2 d C.2.2.2.2.2.2.2.1))
def nms : List String := ["java/lang/RuntimeException", "java/lang/Exception"]
theorem g_throw (C : Cx ss p l s m args meth c cc nL Ts own D tys A []) {W0 : va_W} {Rr : Oc → Prop} {mc ms ik is ic n : Nat} {text : String} (hss : (own, is, text) ∈ ss) (hk : (Cond.classLink own ik (xn n)).before args s = true) (hini : (Cond.initialized (xn n)).before args s = true) (hat : ∀ w ∈ (vx_atS own ic (xn n) nms).filter goodWord, w.before args s = true) (h2 : ∀ w ∈ (vx_atS own ic (xn n) nms).filter (fun w => !goodWord w), w ∈ ev_w) (hgood : ∀ w ∈ Cond.classLink own ik (xn n) :: Cond.initialized (xn n) :: vx_atS own ic (xn n) nms, vx_ot w = true) (hfit : Bundle.fit (xn n) = true) (hR : Rr (.inl n)) (hW0 : ws = W0) (hRf : 5 < R.frames) (hRl : (st.map fun v => v.category).sum + 82 ≤ R.locals) (hc : cells + 1 ≤ R.cells) (hs : slots + 6 ≤ R.slots) (hc1 : cells + 1 ≤ mc) (hs1 : slots + 6 ≤ ms)
    (d0 : decode cc pc = .ok (.new ik, 3)) (d3 : decode cc (pc + 3) = .ok (.dup, 1)) (d4 : decode cc (pc + 4) = .ok (.ldc is, 2)) (d6 : decode cc (pc + 6) = .ok (.invokespecial ic, 3)) (d9 : decode cc (pc + 9) = .ok (.athrow, 1)) : Gq p l e R s m args below meth c D A nL (CQ below D W0 Rr args s mc ms A) ws cells slots pc lv st := by
  subst hW0
  intro H locs ls hP hD hS hl
  obtain ⟨sa, hsa⟩ := C.2.2.2.2.2.2.2.2.1.2.2.2.1 _ hss
  have E := C.2.2.2.2.2.2.2.2.1
  have hxl : ∀ x ∈ c.exceptionTable.toList, covers x (pc + 9) = false := by
    rw [C.2.2.2.2.2.2.2.2.2.1]
    intro x hx
    cases hx
  refine vx_throwS (names := nms) C.1 C.2.1 C.2.2.2.2.2.2.2.2.2.2 C.2.2.2.1 hfit (by decide +kernel) hk hini hsa (vx_hat (B := ev_w) hat h2 (fun w hw => (E.2.2.1 w hw).use (ev_on w hw))) hgood E.1 E.2.1 hS (hl.1.trans C.2.2.1.symm) d0 d3 d4 d6 d9 hxl hRf hRl hc hs C.2.2.2.2.2.2.2.1 ?_ hS.2.2 hc1 hs1
  intro t hal hsz hk
  refine ⟨⟨n, hR, rfl, ?_, hD⟩, Nat.le_trans hS.1 hsz, fun q h1 h2 => by rw [hk q (Nat.lt_of_lt_of_le h1 hS.1)]; exact hS.2.1 q h1 h2⟩
  rw [vpm] at hP ⊢
  exact fun q hq => (hP q hq).kept (hk q.1 (hP q hq).lt)
/-- not caught: it goes on -/
theorem g_xout (C : Cx ss p l s m args meth c cc nL Ts own D tys A []) {W0 : va_W} {Rr : Oc → Prop} {mc ms n : Nat} (hR : Rr (.inl n)) (hW0 : ws = W0) (hc1 : cells ≤ mc) (hs1 : slots ≤ ms) : Gx p l e R s m args below meth c D A nL (CQ below D W0 Rr args s mc ms A) ws cells slots pc lv n := by
  subst hW0
  intro H locs ls rest q ce hP hD hS hl hce hcv hcl
  have hxl : ∀ x ∈ c.exceptionTable.toList, covers x pc = false := by
    rw [C.2.2.2.2.2.2.2.2.2.1]
    intro x hx
    cases hx
  exact vx_out hxl C.2.2.2.2.2.2.2.1 hce hcv hcl (fun t ht hal => ⟨⟨n, hR, rfl, by rw [ht]; exact hP, hD⟩, hS.F ht⟩) hS.2.2 hc1 hs1
/-- caught by the row x of the table -/
theorem g_xcatch (C : Cx ss p l s m args meth c cc nL Ts own D tys A tb) {n : Nat} (pre : List ExceptionTableEntry) (x : ExceptionTableEntry) (suf : List ExceptionTableEntry) (hsplit : tb = pre ++ x :: suf) (hpass : ∀ z ∈ pre, z.catchType ≠ 0 ∧ ∃ nm : String, (Cond.classLink own z.catchType nm).before args s = true ∧ (xn n, nm) ∈ ev_n) (hx : covers x pc = true) (h0 : x.catchType ≠ 0) (hlink : (Cond.classLink own x.catchType (xn n)).before args s = true) (hcast : Cond.castable (xn n) (xn n) ∈ ev_w) (q : Nat) (hq : x.handlerPc = q)
    (kk : ∀ z, Gq p l e R s m args below meth c D A nL Q ws cells slots q lv [.ref z]) : Gx p l e R s m args below meth c D A nL Q ws cells slots pc lv n := by
  subst hq
  intro H locs ls rest z ce hP hD hS hl hce hcv hcl
  have E := C.2.2.2.2.2.2.2.2.1
  exact vx_catch C.2.2.2.1 pre x suf (by rw [C.2.2.2.2.2.2.2.2.2.1]; exact hsplit) (fun y hy => Or.inr ⟨(hpass y hy).1, by
    obtain ⟨nm, h1, h2⟩ := (hpass y hy).2
    exact ⟨nm, h1, E.2.2.2.2 _ h2⟩⟩) hx h0 hlink ((E.2.2.1 _ hcast).use rfl) hce hcv hcl (kk z H locs ls hP hD hS hl)
/-! rows: calls -/
theorem ct_blind {As : List Value} {W0 : va_W} {sz : Nat} : FrameBlind (va_Pc As (CtP ss D tys W0 sz)) := by
  intro a U g mk h
  obtain ⟨h1, h2, h3, h4, h5, h6⟩ := h
  exact ⟨h1, h2, h3, va_K.moved (u := U) (U := U.calling g mk a) (Vm.Alike.refl U.vm) h4, h5, Env9.same (u := U) (U := U.calling g mk a) rfl rfl h6⟩
theorem ct_pre (C : Cx ss p l s m args meth c cc nL Ts own D tys A tb) {As : List Value} {W0 : va_W} {H : Heap} {locs : List Loc} (hP : va_P D vwCl W0 H) (hD : va_D A W0) (hS : va_S A s.heap H locs) (hF : ∀ q, va_A W0 H.size q → A q) (U : State) (hU : U.heap = H) (hW : s.WarmedH U.vm) : va_Pc As (CtP ss D tys W0 H.size) As.toArray U :=
  ⟨rfl, by rw [hU], by rw [hU]; exact hP, va_K.moved hW.alike C.2.2.2.2.2.1, hD.weaken (fun _ _ _ _ => trivial), C.2.2.2.2.2.2.2.2.1.call hS hU hW hF⟩
theorem ct_free (C : Cx ss p l s m args meth c cc nL Ts own D tys A tb) {W0 : va_W} {H : Heap} {locs : List Loc} (hD : va_D A W0) (hS : va_S A s.heap H locs) : ∀ q, va_A W0 H.size q → A q := by
  intro q h
  rcases va_Am.mp h with ⟨e, he, rfl⟩ | h
  · exact (vdm.mp hD).2 e he
  · exact C.2.2.2.2.2.2.1 q (Nat.le_trans hS.1 h)
/-- behind any run of a callee's contract -/
theorem g_run (C : Cx ss p l s m args meth c cc nL Ts own D tys A tb) {rest : List Value} {W0 wl wr : va_W} {Rr : Oc → Prop} {mc ms c2 s2 : Nat} {a : Array Value} {H : Heap} {locs : List Loc} {ls : Array Slot}
    (hP : va_P D vwCl (wl ++ (W0 ++ wr)) H) (hD : va_D A (wl ++ (W0 ++ wr))) (hS : va_S A s.heap H locs) (hl : lv_has ls nL lv) (hc2 : cells + mc = c2) (hs2 : slots + ms = s2) (hq : pc + 3 = q)
    (hr : vx_Run p l e R s m args below meth c H locs cells slots mc ms (F0 m pc ls st) rest (CtR D Rr (va_A W0 H.size) a) (CtX D W0 Rr (va_A W0 H.size)) (va_A W0 H.size))
    (kx : ∀ n, Rr (.inl n) → Gx p l e R s m args below meth c D A nL Q (wl ++ (W0 ++ wr)) c2 s2 pc lv n)
    (kk : ∀ rv W1, Rr (.inr (rv, W1)) → Gq p l e R s m args below meth c D A nL Q (wl ++ (W1 ++ wr)) c2 s2 q lv (rv.toList ++ rest)) : W p l e R s m args below meth c H locs cells slots Q (F0 m pc ls st) := by
  subst hc2; subst hs2; subst hq
  have hF := ct_free C (vd_app.mp (vd_app.mp hD).2.1).1 hS
  intro T hT X
  rcases hr T hT X with ⟨v, st₀, t, T', L, h0, X', hL, e1, e2, ⟨⟨rv, W1, hRr, hv, hP1, hD1⟩, hFr⟩, hgo⟩ | ⟨z, st₀, t, T', L, E, ce, h0, X', hL, e1, e2, ⟨⟨n, hRr, rfl, hP1, hD1⟩, hFr⟩, hce, hcv, hcl, hst⟩
  · obtain ⟨k1, k2, k3⟩ := vx_keep h0 e1 hS (fun q _ h => hF q h) hF hL hFr
    cases hv
    obtain ⟨hP2, hD2⟩ := jn hP hD k2 hF (by rw [e1]; exact hP1) hD1
    obtain ⟨t2, a1, b1⟩ := kk v W1 hRr T'.heap (locs ++ L) ls hP2 hD2 k3 hl T' rfl X'
    exact ⟨t2, hgo t2 a1, b1⟩
  · obtain ⟨k1, k2, k3⟩ := vx_keep h0 e1 hS (fun q _ h => hF q h) hF hL hFr
    obtain ⟨hP2, hD2⟩ := jn hP hD k2 hF (by rw [e1]; exact hP1) hD1
    obtain ⟨t2, a1, b1⟩ := kx n hRr T'.heap (locs ++ L) ls rest z ce hP2 hD2 k3 hl (by rw [e1]; exact hce) hcv hcl T' rfl X'
    exact ⟨t2, hst.trans a1, b1⟩
theorem g_callV (C : Cx ss p l s m args meth c cc nL Ts own D tys A tb) {y : MethodName} {w0 : List Cond} {rm : Room} {bytes : ByteArray} {maxL n mc ms i b ci q0 : Nat} {ret : Option FieldType} {Cn : String} {As rest : List Value} {W0 wl wr : va_W} {Rr : Oc → Prop} {fs : List Value} {qc : vw_C} {c2 s2 : Nat}
    (hct : Ct ss l y w0 rm D tys (.ref b :: As) W0 Rr mc ms) (cf : CF y w0 rm bytes maxL ret n mc ms Cn) (hg : GoodIn Ts (wsV own i Cn y w0)) (hR : rm.frames + 1 ≤ R.frames ∧ 8 + (maxL + 11) + rm.locals ≤ R.locals)
    (he : W0[q0]? = some (b, .inr (ci, fs))) (hc : vwCl[ci]? = some qc) (hcn : qc.1 = Cn) (hws : ws = wl ++ (W0 ++ wr)) (hst : st = As.reverse ++ .ref b :: rest) (hn : As.length = n) (hrest : (rest.map fun v => v.category).sum ≤ 8) (hc2 : cells + mc = c2) (hs2 : slots + ms = s2) (hf : c2 ≤ R.cells ∧ s2 ≤ R.slots) (d : decode cc pc = .ok (.invokevirtual i, 3)) (q : Nat) (hq : pc + 3 = q)
    (kx : ∀ n, Rr (.inl n) → Gx p l e R s m args below meth c D A nL Q ws c2 s2 pc lv n)
    (kk : ∀ rv W1, Rr (.inr (rv, W1)) → Gq p l e R s m args below meth c D A nL Q (wl ++ (W1 ++ wr)) c2 s2 q lv (rv.toList ++ rest)) : Gq p l e R s m args below meth c D A nL Q ws cells slots pc lv st := by
  subst hws
  intro H locs ls hP hD hS hl
  obtain ⟨⟨ws', hw⟩, hrc, hrs, hy, hy1, hy2, hdesc⟩ := cf
  have hP0 : va_P D vwCl W0 H := (vp_app.mp (vp_app.mp hP).2).1
  have hD0 : va_D A W0 := (vd_app.mp (vd_app.mp hD).2.1).1
  have hF := ct_free C hD0 hS
  have cw := cwV (R := R) (s := s) (args := args) (own := own) (index := i) (C := Cn) (y := y) (ret := ret) (maxL := maxL) (bytes := bytes) (rm := rm) (mc := mc) (ms := ms) n C.2.2.2.2.1 hg hw hrc hrs ⟨hy, hy1, hy2, hdesc⟩ hR
  have hrcv := va_recv C.2.2.2.2.2.1 hP0 hc he
  rw [hcn] at hrcv
  exact g_run C hP hD hS hl hc2 hs2 hq (vx_runV (As := As) (rest := rest) ⟨C.1, C.2.1, C.2.2.1, C.2.2.2.1, C.2.2.2.2.1⟩ (hct H.size) cw ⟨ct_blind, hrcv, fun U hU hW => ct_pre C hP0 hD0 hS hF U hU hW⟩ rfl hn hl.1 hst (lv_room hrest) d ⟨by omega, by omega⟩) kx kk
theorem g_callS (C : Cx ss p l s m args meth c cc nL Ts own D tys A tb) {y : MethodName} {w0 : List Cond} {rm : Room} {bytes : ByteArray} {maxL n mc ms i : Nat} {ret : Option FieldType} {Cn : String} {As rest : List Value} {W0 wl wr : va_W} {Rr : Oc → Prop} {c2 s2 : Nat}
    (hct : Ct ss l y w0 rm D tys As W0 Rr mc ms) (cf : CF y w0 rm bytes maxL ret n mc ms Cn) (hg : GoodIn Ts (va_wsS own i y w0)) (hR : rm.frames + 1 ≤ R.frames ∧ 8 + (maxL + 11) + rm.locals ≤ R.locals)
    (hws : ws = wl ++ (W0 ++ wr)) (hst : st = As.reverse ++ rest) (hn : As.length = n) (hrest : (rest.map fun v => v.category).sum ≤ 8) (hc2 : cells + mc = c2) (hs2 : slots + ms = s2) (hf : c2 ≤ R.cells ∧ s2 ≤ R.slots) (d : decode cc pc = .ok (.invokestatic i, 3)) (q : Nat) (hq : pc + 3 = q)
    (kx : ∀ n, Rr (.inl n) → Gx p l e R s m args below meth c D A nL Q ws c2 s2 pc lv n)
    (kk : ∀ rv W1, Rr (.inr (rv, W1)) → Gq p l e R s m args below meth c D A nL Q (wl ++ (W1 ++ wr)) c2 s2 q lv (rv.toList ++ rest)) : Gq p l e R s m args below meth c D A nL Q ws cells slots pc lv st := by
  subst hws
  intro H locs ls hP hD hS hl
  obtain ⟨⟨ws', hw⟩, hrc, hrs, hy, hy1, hy2, hdesc⟩ := cf
  have hP0 : va_P D vwCl W0 H := (vp_app.mp (vp_app.mp hP).2).1
  have hD0 : va_D A W0 := (vd_app.mp (vd_app.mp hD).2.1).1
  have hF := ct_free C hD0 hS
  have cw := va_cwS (R := R) (s := s) (args := args) (own := own) (index := i) (y := y) (ret := ret) (maxL := maxL) (bytes := bytes) (rm := rm) (mc := mc) (ms := ms) n C.2.2.2.2.1 hg hw hrc hrs ⟨hy1, hy2, hdesc⟩ hR
  exact g_run C hP hD hS hl hc2 hs2 hq (vx_runS (As := As) (rest := rest) ⟨C.1, C.2.1, C.2.2.1, C.2.2.2.1, C.2.2.2.2.1⟩ (hct H.size) cw ⟨ct_blind, fun U hU hW => ct_pre C hP0 hD0 hS hF U hU hW⟩ rfl hn hl.1 hst (lv_room hrest) d ⟨by omega, by omega⟩) kx kk
/-- of a method with a table -/
def CFH (y : MethodName) (ws : List Cond) (rm : Room) (bytes : ByteArray) (maxL : Nat) (ret : Option FieldType) (hh : List (Nat × Nat × Nat × Nat)) (n mc ms : Nat) : Prop :=
  (∃ ws', ws = Cond.codeWith y bytes maxL ret hh :: ws') ∧ rm.cells = mc ∧ rm.slots = ms ∧ y.cls ≠ "java/lang/invoke/MethodHandle" ∧ y.cls ≠ "java/lang/invoke/VarHandle" ∧ (parseMethodDescriptor y.desc).map (fun d => d.parameters.length) = some n
theorem g_callSH (C : Cx ss p l s m args meth c cc nL Ts own D tys A tb) {y : MethodName} {w0 : List Cond} {rm : Room} {bytes : ByteArray} {maxL n mc ms i : Nat} {ret : Option FieldType} {hh : List (Nat × Nat × Nat × Nat)} {As rest : List Value} {W0 wl wr : va_W} {Rr : Oc → Prop} {c2 s2 : Nat}
    (hct : Ct ss l y w0 rm D tys As W0 Rr mc ms) (cf : CFH y w0 rm bytes maxL ret hh n mc ms) (hg : GoodIn Ts (va_wsS own i y w0)) (hR : rm.frames + 1 ≤ R.frames ∧ 8 + (maxL + 11) + rm.locals ≤ R.locals)
    (hws : ws = wl ++ (W0 ++ wr)) (hst : st = As.reverse ++ rest) (hn : As.length = n) (hrest : (rest.map fun v => v.category).sum ≤ 8) (hc2 : cells + mc = c2) (hs2 : slots + ms = s2) (hf : c2 ≤ R.cells ∧ s2 ≤ R.slots) (d : decode cc pc = .ok (.invokestatic i, 3)) (q : Nat) (hq : pc + 3 = q)
    (kx : ∀ n, Rr (.inl n) → Gx p l e R s m args below meth c D A nL Q ws c2 s2 pc lv n)
    (kk : ∀ rv W1, Rr (.inr (rv, W1)) → Gq p l e R s m args below meth c D A nL Q (wl ++ (W1 ++ wr)) c2 s2 q lv (rv.toList ++ rest)) : Gq p l e R s m args below meth c D A nL Q ws cells slots pc lv st := by
  subst hws
  intro H locs ls hP hD hS hl
  obtain ⟨⟨ws', hw⟩, hrc, hrs, hy1, hy2, hdesc⟩ := cf
  have hP0 : va_P D vwCl W0 H := (vp_app.mp (vp_app.mp hP).2).1
  have hD0 : va_D A W0 := (vd_app.mp (vd_app.mp hD).2.1).1
  have hF := ct_free C hD0 hS
  have cw := vx_cwSW (R := R) (s := s) (args := args) (own := own) (index := i) (y := y) (ret := ret) (hh := hh) (maxL := maxL) (bytes := bytes) (rm := rm) (mc := mc) (ms := ms) n C.2.2.2.2.1 hg hw hrc hrs ⟨hy1, hy2, hdesc⟩ hR
  exact g_run C hP hD hS hl hc2 hs2 hq (vx_runSX (As := As) (rest := rest) ⟨C.1, C.2.1, C.2.2.1, C.2.2.2.1, C.2.2.2.2.1⟩ (hct H.size) cw ⟨ct_blind, fun U hU hW => ct_pre C hP0 hD0 hS hF U hU hW⟩ rfl hn hl.1 hst (lv_room hrest) d ⟨by omega, by omega⟩) kx kk
theorem g_callV1 (C : Cx ss p l s m args meth c cc nL Ts own D tys A tb) {y : MethodName} {w0 : List Cond} {rm : Room} {bytes : ByteArray} {maxL n mc ms i b ci q0 : Nat} {ret : Option FieldType} {Cn : String} {As rest : List Value} {W0 wl wr : va_W} {rv : Option Value} {W1 ws2 : va_W} {st2 : List Value} {fs : List Value} {qc : vw_C} {c2 s2 : Nat}
    (hct : Ct ss l y w0 rm D tys (.ref b :: As) W0 (fun o => o = .inr (rv, W1)) mc ms) (cf : CF y w0 rm bytes maxL ret n mc ms Cn) (hg : GoodIn Ts (wsV own i Cn y w0)) (hR : rm.frames + 1 ≤ R.frames ∧ 8 + (maxL + 11) + rm.locals ≤ R.locals)
    (he : W0[q0]? = some (b, .inr (ci, fs))) (hc : vwCl[ci]? = some qc) (hcn : qc.1 = Cn) (hws : ws = wl ++ (W0 ++ wr)) (hst : st = As.reverse ++ .ref b :: rest) (hn : As.length = n) (hrest : (rest.map fun v => v.category).sum ≤ 8) (hc2 : cells + mc = c2) (hs2 : slots + ms = s2) (hf : c2 ≤ R.cells ∧ s2 ≤ R.slots) (d : decode cc pc = .ok (.invokevirtual i, 3)) (q : Nat) (hq : pc + 3 = q)
    (hw2 : wl ++ (W1 ++ wr) = ws2) (hs3 : rv.toList ++ rest = st2) (kk : Gq p l e R s m args below meth c D A nL Q ws2 c2 s2 q lv st2) : Gq p l e R s m args below meth c D A nL Q ws cells slots pc lv st := by
  subst hw2; subst hs3
  exact g_callV C hct cf hg hR he hc hcn hws hst hn hrest hc2 hs2 hf d q hq (fun _ h => by cases h) (fun rv W1 h => by cases h; exact kk)
theorem g_callVx (C : Cx ss p l s m args meth c cc nL Ts own D tys A tb) {y : MethodName} {w0 : List Cond} {rm : Room} {bytes : ByteArray} {maxL n mc ms i b ci q0 : Nat} {ret : Option FieldType} {Cn : String} {As rest : List Value} {W0 wl wr : va_W} {ne : Nat} {fs : List Value} {qc : vw_C} {c2 s2 : Nat}
    (hct : Ct ss l y w0 rm D tys (.ref b :: As) W0 (fun o => o = .inl ne) mc ms) (cf : CF y w0 rm bytes maxL ret n mc ms Cn) (hg : GoodIn Ts (wsV own i Cn y w0)) (hR : rm.frames + 1 ≤ R.frames ∧ 8 + (maxL + 11) + rm.locals ≤ R.locals)
    (he : W0[q0]? = some (b, .inr (ci, fs))) (hc : vwCl[ci]? = some qc) (hcn : qc.1 = Cn) (hws : ws = wl ++ (W0 ++ wr)) (hst : st = As.reverse ++ .ref b :: rest) (hn : As.length = n) (hrest : (rest.map fun v => v.category).sum ≤ 8) (hc2 : cells + mc = c2) (hs2 : slots + ms = s2) (hf : c2 ≤ R.cells ∧ s2 ≤ R.slots) (d : decode cc pc = .ok (.invokevirtual i, 3)) (q : Nat) (hq : pc + 3 = q)
    (kx : Gx p l e R s m args below meth c D A nL Q ws c2 s2 pc lv ne) : Gq p l e R s m args below meth c D A nL Q ws cells slots pc lv st := by
  exact g_callV C hct cf hg hR he hc hcn hws hst hn hrest hc2 hs2 hf d q hq (fun n h => by cases h; exact kx) (fun _ _ h => by cases h)
theorem g_callS1 (C : Cx ss p l s m args meth c cc nL Ts own D tys A tb) {y : MethodName} {w0 : List Cond} {rm : Room} {bytes : ByteArray} {maxL n mc ms i : Nat} {ret : Option FieldType} {Cn : String} {As rest : List Value} {W0 wl wr : va_W} {rv : Option Value} {W1 ws2 : va_W} {st2 : List Value} {c2 s2 : Nat}
    (hct : Ct ss l y w0 rm D tys As W0 (fun o => o = .inr (rv, W1)) mc ms) (cf : CF y w0 rm bytes maxL ret n mc ms Cn) (hg : GoodIn Ts (va_wsS own i y w0)) (hR : rm.frames + 1 ≤ R.frames ∧ 8 + (maxL + 11) + rm.locals ≤ R.locals)
    (hws : ws = wl ++ (W0 ++ wr)) (hst : st = As.reverse ++ rest) (hn : As.length = n) (hrest : (rest.map fun v => v.category).sum ≤ 8) (hc2 : cells + mc = c2) (hs2 : slots + ms = s2) (hf : c2 ≤ R.cells ∧ s2 ≤ R.slots) (d : decode cc pc = .ok (.invokestatic i, 3)) (q : Nat) (hq : pc + 3 = q)
    (hw2 : wl ++ (W1 ++ wr) = ws2) (hs3 : rv.toList ++ rest = st2) (kk : Gq p l e R s m args below meth c D A nL Q ws2 c2 s2 q lv st2) : Gq p l e R s m args below meth c D A nL Q ws cells slots pc lv st := by
  subst hw2; subst hs3
  exact g_callS C hct cf hg hR hws hst hn hrest hc2 hs2 hf d q hq (fun _ h => by cases h) (fun rv W1 h => by cases h; exact kk)
theorem g_callSx (C : Cx ss p l s m args meth c cc nL Ts own D tys A tb) {y : MethodName} {w0 : List Cond} {rm : Room} {bytes : ByteArray} {maxL n mc ms i : Nat} {ret : Option FieldType} {Cn : String} {As rest : List Value} {W0 wl wr : va_W} {ne : Nat} {c2 s2 : Nat}
    (hct : Ct ss l y w0 rm D tys As W0 (fun o => o = .inl ne) mc ms) (cf : CF y w0 rm bytes maxL ret n mc ms Cn) (hg : GoodIn Ts (va_wsS own i y w0)) (hR : rm.frames + 1 ≤ R.frames ∧ 8 + (maxL + 11) + rm.locals ≤ R.locals)
    (hws : ws = wl ++ (W0 ++ wr)) (hst : st = As.reverse ++ rest) (hn : As.length = n) (hrest : (rest.map fun v => v.category).sum ≤ 8) (hc2 : cells + mc = c2) (hs2 : slots + ms = s2) (hf : c2 ≤ R.cells ∧ s2 ≤ R.slots) (d : decode cc pc = .ok (.invokestatic i, 3)) (q : Nat) (hq : pc + 3 = q)
    (kx : Gx p l e R s m args below meth c D A nL Q ws c2 s2 pc lv ne) : Gq p l e R s m args below meth c D A nL Q ws cells slots pc lv st := by
  exact g_callS C hct cf hg hR hws hst hn hrest hc2 hs2 hf d q hq (fun n h => by cases h; exact kx) (fun _ _ h => by cases h)
theorem g_callSH1 (C : Cx ss p l s m args meth c cc nL Ts own D tys A tb) {y : MethodName} {w0 : List Cond} {rm : Room} {bytes : ByteArray} {maxL n mc ms i : Nat} {ret : Option FieldType} {hh : List (Nat × Nat × Nat × Nat)} {As rest : List Value} {W0 wl wr : va_W} {rv : Option Value} {W1 ws2 : va_W} {st2 : List Value} {c2 s2 : Nat}
    (hct : Ct ss l y w0 rm D tys As W0 (fun o => o = .inr (rv, W1)) mc ms) (cf : CFH y w0 rm bytes maxL ret hh n mc ms) (hg : GoodIn Ts (va_wsS own i y w0)) (hR : rm.frames + 1 ≤ R.frames ∧ 8 + (maxL + 11) + rm.locals ≤ R.locals)
    (hws : ws = wl ++ (W0 ++ wr)) (hst : st = As.reverse ++ rest) (hn : As.length = n) (hrest : (rest.map fun v => v.category).sum ≤ 8) (hc2 : cells + mc = c2) (hs2 : slots + ms = s2) (hf : c2 ≤ R.cells ∧ s2 ≤ R.slots) (d : decode cc pc = .ok (.invokestatic i, 3)) (q : Nat) (hq : pc + 3 = q)
    (hw2 : wl ++ (W1 ++ wr) = ws2) (hs3 : rv.toList ++ rest = st2) (kk : Gq p l e R s m args below meth c D A nL Q ws2 c2 s2 q lv st2) : Gq p l e R s m args below meth c D A nL Q ws cells slots pc lv st := by
  subst hw2; subst hs3
  exact g_callSH C hct cf hg hR hws hst hn hrest hc2 hs2 hf d q hq (fun _ h => by cases h) (fun rv W1 h => by cases h; exact kk)
theorem g_callSHx (C : Cx ss p l s m args meth c cc nL Ts own D tys A tb) {y : MethodName} {w0 : List Cond} {rm : Room} {bytes : ByteArray} {maxL n mc ms i : Nat} {ret : Option FieldType} {hh : List (Nat × Nat × Nat × Nat)} {As rest : List Value} {W0 wl wr : va_W} {ne : Nat} {c2 s2 : Nat}
    (hct : Ct ss l y w0 rm D tys As W0 (fun o => o = .inl ne) mc ms) (cf : CFH y w0 rm bytes maxL ret hh n mc ms) (hg : GoodIn Ts (va_wsS own i y w0)) (hR : rm.frames + 1 ≤ R.frames ∧ 8 + (maxL + 11) + rm.locals ≤ R.locals)
    (hws : ws = wl ++ (W0 ++ wr)) (hst : st = As.reverse ++ rest) (hn : As.length = n) (hrest : (rest.map fun v => v.category).sum ≤ 8) (hc2 : cells + mc = c2) (hs2 : slots + ms = s2) (hf : c2 ≤ R.cells ∧ s2 ≤ R.slots) (d : decode cc pc = .ok (.invokestatic i, 3)) (q : Nat) (hq : pc + 3 = q)
    (kx : Gx p l e R s m args below meth c D A nL Q ws c2 s2 pc lv ne) : Gq p l e R s m args below meth c D A nL Q ws cells slots pc lv st := by
  exact g_callSH C hct cf hg hR hws hst hn hrest hc2 hs2 hf d q hq (fun n h => by cases h; exact kx) (fun _ _ h => by cases h)
end GB
end
