/-! the methods as functions (laid by wip/whole/gen) -/
def X0_become_L142 (b1 : S2) : Nat → Int32 → S2 → Option S2
  | 0, _, _ => none
  | n + 1, l2, b2 => (if (b2 0 4) ≤ l2 then some b2 else bd1 (ldA (b1 8) 8 l2) fun x14 => bd1 (stA b2 8 8 l2 x14) fun b2_16 => bd1 (ldA (b1 9) 8 l2) fun x18 => bd1 (stA b2_16 9 8 l2 x18) fun b2_20 => bd1 (ldA (b1 10) 8 l2) fun x22 => bd1 (stA b2_20 10 8 l2 x22) fun b2_24 => X0_become_L142 b1 n (l2 + 1) b2_24)
def X0_become_L34 (b1 : S2) : Nat → Int32 → S2 → Option S2
  | 0, _, _ => none
  | n + 1, l2, b2 => (if (b2 0 3) ≤ l2 then bd1 (some (up2 b2 0 4 (b1 0 4))) fun b2_11 => X0_become_L142 b1 200 0 b2_11 else bd1 (ldA (b1 1) 24 l2) fun x26 => bd1 (stA b2 1 24 l2 x26) fun b2_28 => bd1 (ldA (b1 2) 24 l2) fun x30 => bd1 (stA b2_28 2 24 l2 x30) fun b2_32 => bd1 (ldA (b1 3) 24 l2) fun x34 => bd1 (stA b2_32 3 24 l2 x34) fun b2_36 => bd1 (ldA (b1 4) 24 l2) fun x38 => bd1 (stA b2_36 4 24 l2 x38) fun b2_40 => bd1 (ldA (b1 5) 24 l2) fun x42 => bd1 (stA b2_40 5 24 l2 x42) fun b2_44 => bd1 (ldA (b1 6) 24 l2) fun x46 => bd1 (stA b2_44 6 24 l2 x46) fun b2_48 => bd1 (ldA (b1 7) 24 l2) fun x50 => bd1 (stA b2_48 7 24 l2 x50) fun b2_52 => X0_become_L34 b1 n (l2 + 1) b2_52)
def X0_become (b1 : S2) (b2 : S2) : Option S2 := bd1 (some (up2 b2 0 0 (b1 0 0))) fun b2_2 => bd1 (some (up2 b2_2 0 1 (b1 0 1))) fun b2_4 => bd1 (some (up2 b2_4 0 2 (b1 0 2))) fun b2_6 => bd1 (some (up2 b2_6 0 3 (b1 0 3))) fun b2_8 => X0_become_L34 b1 200 0 b2_8
def X0_admitGuard (b : S2) : Option S2 := (if (b 0 4) < 8 then bd1 (stA b 8 8 (b 0 4) 9) fun b_3 => bd1 (stA b_3 9 8 (b_3 0 4) (-1)) fun b_5 => bd1 (stA b_5 10 8 (b_5 0 4) 0) fun b_7 => bd1 (some (up2 b_7 0 4 ((b_7 0 4) + 1))) fun b_9 => some b_9 else some b)
def X0_admitTraveller (b : S2) (a0 : Int32) (a1 : Int32) (a2 : Int32) (a3 : Int32) : Option S2 := (if (b 0 3) < 24 then bd1 (stA b 1 24 (b 0 3) a0) fun b_3 => bd1 (stA b_3 2 24 (b_3 0 3) a1) fun b_5 => bd1 (stA b_5 3 24 (b_5 0 3) a2) fun b_7 => bd1 (stA b_7 4 24 (b_7 0 3) a3) fun b_9 => bd1 (stA b_9 5 24 (b_9 0 3) 0) fun b_11 => bd1 (some (up2 b_11 0 3 ((b_11 0 3) + 1))) fun b_13 => some b_13 else some b)
def X0_isTraveller (b : S2) (a0 : Int32) : Option Int32 := (if a0 < 0 then some 0 else (if (b 0 3) ≤ a0 then some 0 else some 1))
def X0_isGuard (b : S2) (a0 : Int32) : Option Int32 := (if a0 < 0 then some 0 else (if (b 0 4) ≤ a0 then some 0 else some 1))
def X0_countIn_L4 (l1 : Int32) (b : S2) : Nat → Int32 → Int32 → Option Int32
  | 0, _, _ => none
  | n + 1, l2, l3 => (if (b 0 3) ≤ l3 then some l2 else bd1 (ldA (b 5) 24 l3) fun x3 => (if x3 = l1 then X0_countIn_L4 l1 b n (l2 + 1) (l3 + 1) else X0_countIn_L4 l1 b n l2 (l3 + 1)))
def X0_countIn (b : S2) (a0 : Int32) : Option Int32 := X0_countIn_L4 a0 b 200 0 0
def X0_waitingAhead_L4 (l1 : Int32) (b : S2) : Nat → Int32 → Int32 → Option Int32
  | 0, _, _ => none
  | n + 1, l2, l3 => (if (b 0 3) ≤ l3 then some l2 else (if l1 ≤ l3 then some l2 else bd1 (ldA (b 5) 24 l3) fun x4 => (if x4 = 0 then X0_waitingAhead_L4 l1 b n (l2 + 1) (l3 + 1) else X0_waitingAhead_L4 l1 b n l2 (l3 + 1))))
def X0_waitingAhead (b : S2) (a0 : Int32) : Option Int32 := X0_waitingAhead_L4 a0 b 200 0 0
def X0_firstWaiting_L2 (b : S2) : Nat → Int32 → Option Int32
  | 0, _ => none
  | n + 1, l1 => (if (b 0 3) ≤ l1 then some (-1) else bd1 (ldA (b 5) 24 l1) fun x3 => (if x3 = 0 then some l1 else X0_firstWaiting_L2 b n (l1 + 1)))
def X0_firstWaiting (b : S2) : Option Int32 := X0_firstWaiting_L2 b 200 0
def X0_addedSnores_L4 (b : S2) : Nat → Int32 → Int32 → Option Int32
  | 0, _, _ => none
  | n + 1, l1, l2 => (if (b 0 3) ≤ l2 then some l1 else bd1 (ldA (b 5) 24 l2) fun x3 => (if x3 = 2 then bd1 (ldA (b 3) 24 l2) fun x6 => X0_addedSnores_L4 b n (l1 + x6) (l2 + 1) else X0_addedSnores_L4 b n l1 (l2 + 1)))
def X0_addedSnores (b : S2) : Option Int32 := X0_addedSnores_L4 b 200 0 0
def X0_hiddenDreams (b : S2) (a0 : Int32) : Option Int32 := bd1 (ldA (b 1) 24 a0) fun x2 => bd1 (ldA (b 2) 24 a0) fun x4 => (if (x2 - x4) ≤ 0 then some 0 else some (x2 - x4))
def X0_searchMinutes (b : S2) (a0 : Int32) : Option Int32 := bd1 (ldA (b 2) 24 a0) fun x2 => bd1 (X0_addedSnores b) fun x3 => some ((2 + x2) + (x3 / 4))
def X0_finds (b : S2) (a0 : Int32) (a1 : Int32) : Option Int32 := bd1 (X0_hiddenDreams b a1) fun x1 => (if x1 ≤ 0 then some 0 else bd1 (ldA (b 8) 8 a0) fun x5 => (if (x1 + x5) < 10 then some 0 else some 1))
def X0_isSettled_L2 (b : S2) : Nat → Int32 → Option Int32
  | 0, _ => none
  | n + 1, l1 => (if (b 0 3) ≤ l1 then some 1 else bd1 (ldA (b 5) 24 l1) fun x3 => (if x3 = 3 then X0_isSettled_L2 b n (l1 + 1) else bd1 (ldA (b 5) 24 l1) fun x6 => (if x6 = 4 then X0_isSettled_L2 b n (l1 + 1) else some 0)))
def X0_isSettled (b : S2) : Option Int32 := X0_isSettled_L2 b 200 0
def X0_advanceTransits_L2 : Nat → Int32 → S2 → Option S2
  | 0, _, _ => none
  | n + 1, l1, b => (if (b 0 3) ≤ l1 then some b else bd1 (ldA (b 5) 24 l1) fun x3 => (if x3 = 2 then bd1 (ldA (b 6) 24 l1) fun x6 => bd1 (stA b 6 24 l1 (x6 - 1)) fun b_8 => bd1 (ldA (b_8 6) 24 l1) fun x10 => (if 0 < x10 then X0_advanceTransits_L2 n (l1 + 1) b_8 else bd1 (stA b_8 5 24 l1 3) fun b_13 => bd1 (stA b_13 7 24 l1 ((b_13 0 0) + 1)) fun b_15 => X0_advanceTransits_L2 n (l1 + 1) b_15) else X0_advanceTransits_L2 n (l1 + 1) b))
def X0_advanceTransits (b : S2) : Option S2 := X0_advanceTransits_L2 200 0 b
def X0_shortenLullabies_L2 : Nat → Int32 → S2 → Option S2
  | 0, _, _ => none
  | n + 1, l1, b => (if (b 0 3) ≤ l1 then some b else bd1 (ldA (b 5) 24 l1) fun x3 => (if x3 = 0 then bd1 (ldA (b 4) 24 l1) fun x6 => bd1 (stA b 4 24 l1 (x6 - 1)) fun b_8 => bd1 (ldA (b_8 4) 24 l1) fun x10 => (if 0 < x10 then X0_shortenLullabies_L2 n (l1 + 1) b_8 else bd1 (stA b_8 5 24 l1 4) fun b_13 => bd1 (some (up2 b_13 0 1 ((b_13 0 1) + 1))) fun b_15 => X0_shortenLullabies_L2 n (l1 + 1) b_15) else X0_shortenLullabies_L2 n (l1 + 1) b))
def X0_shortenLullabies (b : S2) : Option S2 := X0_shortenLullabies_L2 200 0 b
def X0_beginSearchOrRest (b : S2) (a0 : Int32) : Option S2 := bd1 (X0_firstWaiting b) fun x1 => bd1 (X0_isTraveller b x1) fun x3 => (if x3 = 0 then bd1 (ldA (b 8) 8 a0) fun x7 => bd1 (stA b 8 8 a0 (if 9 < (x7 + 1) then 9 else (x7 + 1))) fun b_9 => some b_9 else bd1 (stA b 9 8 a0 x1) fun b_11 => bd1 (X0_searchMinutes b_11 x1) fun x12 => bd1 (stA b_11 10 8 a0 x12) fun b_15 => bd1 (stA b_15 5 24 x1 1) fun b_17 => some b_17)
def X0_searchOn (b : S2) (a0 : Int32) (a1 : Int32) : Option S2 := bd1 (ldA (b 10) 8 a0) fun x2 => bd1 (stA b 10 8 a0 (x2 - 1)) fun b_4 => bd1 (ldA (b_4 10) 8 a0) fun x6 => (if x6 ≤ 0 then bd1 (X0_finds b_4 a0 a1) fun x8 => (if x8 = 0 then bd1 (stA b_4 5 24 a1 2) fun b_12 => bd1 (stA b_12 6 24 a1 5) fun b_14 => bd1 (stA b_14 9 8 a0 (-1)) fun b_16 => bd1 (ldA (b_16 8) 8 a0) fun x18 => bd1 (stA b_16 8 8 a0 (if (x18 - 1) < 0 then 0 else (x18 - 1))) fun b_20 => some b_20 else bd1 (X0_hiddenDreams b_4 a1) fun x21 => bd1 (some (up2 b_4 0 2 ((b_4 0 2) + (3 * x21)))) fun b_24 => bd1 (stA b_24 5 24 a1 4) fun b_26 => bd1 (stA b_26 9 8 a0 (-1)) fun b_28 => bd1 (ldA (b_28 8) 8 a0) fun x30 => bd1 (stA b_28 8 8 a0 (if (x30 - 1) < 0 then 0 else (x30 - 1))) fun b_32 => some b_32) else some b_4)
def X0_goOneMinute_L10 : Nat → Int32 → S2 → Option S2
  | 0, _, _ => none
  | n + 1, l1, b => (if (b 0 4) ≤ l1 then bd1 (some (up2 b 0 0 ((b 0 0) + 1))) fun b_7 => some b_7 else bd1 (ldA (b 9) 8 l1) fun x9 => bd1 (X0_isTraveller b x9) fun x10 => (if x10 = 0 then bd1 (X0_beginSearchOrRest b l1) fun b_13 => X0_goOneMinute_L10 n (l1 + 1) b_13 else bd1 (X0_searchOn b l1 x9) fun b_15 => X0_goOneMinute_L10 n (l1 + 1) b_15))
def X0_goOneMinute (b : S2) : Option S2 := bd1 (X0_advanceTransits b) fun b_1 => bd1 (X0_shortenLullabies b_1) fun b_3 => X0_goOneMinute_L10 200 0 b_3
def X0_goOn_L2 (l1 : Int32) : Nat → Int32 → S2 → Option S2
  | 0, _, _ => none
  | n + 1, l2, b => (if l1 ≤ l2 then some b else bd1 (X0_isSettled b) fun x2 => (if x2 = 0 then bd1 (X0_goOneMinute b) fun b_5 => X0_goOn_L2 l1 n (l2 + 1) b_5 else some b))
def X0_goOn (b : S2) (a0 : Int32) : Option S2 := X0_goOn_L2 a0 200 0 b
def X1_addGuard (b1 : S2) (b2 : S2) : Option (Nat ⊕ (Int32 × S2)) := (if (b1 0 4) < 4 then bd1 (X0_admitGuard b1) fun b1_2 => some (.inr (((b1_2 0 4) - 1), b1_2)) else some (.inl 1))
def X1_requireDigit (a0 : Int32) : Option (Nat ⊕ Unit) := (if a0 < 0 then some (.inl 2) else (if a0 ≤ 9 then some (.inr ()) else some (.inl 2)))
def X1_requireMinutes (a0 : Int32) : Option (Nat ⊕ Unit) := (if a0 < 1 then some (.inl 2) else (if a0 ≤ 60 then some (.inr ()) else some (.inl 2)))
def X1_arrive (b1 : S2) (b2 : S2) (a0 : Int32) (a1 : Int32) (a2 : Int32) (a3 : Int32) : Option (Nat ⊕ (Int32 × S2)) := bx0 (X1_requireDigit a0) (bx0 (X1_requireDigit a1) (bx0 (X1_requireDigit a2) (bx0 (X1_requireMinutes a3) (if (b1 0 3) < 24 then bd1 (X0_admitTraveller b1 a0 a1 a2 a3) fun b1_14 => some (.inr (((b1_14 0 3) - 1), b1_14)) else some (.inl 1)))))
def X1_requireTraveller (b1 : S2) (b2 : S2) (a0 : Int32) : Option (Nat ⊕ Unit) := bd1 (X0_isTraveller b1 a0) fun x1 => (if x1 = 0 then some (.inl 3) else some (.inr ()))
def X1_requireWaiting (b1 : S2) (b2 : S2) (a0 : Int32) : Option (Nat ⊕ Unit) := bd1 (ldA (b1 5) 24 a0) fun x2 => (if x2 = 0 then some (.inr ()) else some (.inl 1))
def X1_declare (b1 : S2) (b2 : S2) (a0 : Int32) (a1 : Int32) : Option (Nat ⊕ (Int32 × S2)) := bx0 (X1_requireTraveller b1 b2 a0) (bx0 (X1_requireDigit a1) (bx0 (X1_requireWaiting b1 b2 a0) (bd1 (ldA (b1 2) 24 a0) fun x11 => bd1 (stA b1 2 24 a0 a1) fun b1_13 => some (.inr (x11, b1_13)))))
def X1_sing (b1 : S2) (b2 : S2) (a0 : Int32) (a1 : Int32) : Option (Nat ⊕ (Int32 × S2)) := bx0 (X1_requireTraveller b1 b2 a0) (bx0 (X1_requireMinutes a1) (bx0 (X1_requireWaiting b1 b2 a0) (bd1 (ldA (b1 4) 24 a0) fun x11 => bd1 (stA b1 4 24 a0 a1) fun b1_13 => some (.inr (x11, b1_13)))))
def X1_requireGuard (b1 : S2) (b2 : S2) (a0 : Int32) : Option (Nat ⊕ Unit) := bd1 (X0_isGuard b1 a0) fun x1 => (if x1 = 0 then some (.inl 3) else some (.inr ()))
def X1_wake (b1 : S2) (b2 : S2) (a0 : Int32) : Option (Nat ⊕ (Int32 × S2)) := bx0 (X1_requireGuard b1 b2 a0) (bd1 (ldA (b1 8) 8 a0) fun x5 => bd1 (stA b1 8 8 a0 9) fun b1_7 => some (.inr (x5, b1_7)))
def X1_pass_L15 (l1 : Int32) (l2 : Int32) (b2 : S2) : Nat → Int32 → S2 → Option (Nat ⊕ (Int32 × S2))
  | 0, _, _ => none
  | n + 1, l3, b1 => (if l1 ≤ l3 then bd1 (X0_countIn b1 3) fun x7 => some (.inr ((x7 - l2), b1)) else bd1 (X0_goOneMinute b1) fun b1_9 => X1_pass_L15 l1 l2 b2 n (l3 + 1) b1_9)
def X1_pass (b1 : S2) (b2 : S2) (a0 : Int32) : Option (Nat ⊕ (Int32 × S2)) := bx0 (X1_requireMinutes a0) (bd1 (X0_countIn b1 3) fun x4 => X1_pass_L15 a0 x4 b2 200 0 b1)
def X1_minute (b1 : S2) (b2 : S2) : Option Int32 := some (b1 0 0)
def X1_travellers (b1 : S2) (b2 : S2) : Option Int32 := some (b1 0 3)
def X1_waiting (b1 : S2) (b2 : S2) : Option Int32 := bd1 (X0_countIn b1 0) fun x1 => some x1
def X1_asleep (b1 : S2) (b2 : S2) : Option Int32 := bd1 (X0_countIn b1 3) fun x1 => some x1
def X1_sentBack (b1 : S2) (b2 : S2) : Option Int32 := bd1 (X0_countIn b1 4) fun x1 => some x1
def X1_expired (b1 : S2) (b2 : S2) : Option Int32 := some (b1 0 1)
def X1_paid (b1 : S2) (b2 : S2) : Option Int32 := some (b1 0 2)
def X1_noise (b1 : S2) (b2 : S2) : Option Int32 := bd1 (X0_addedSnores b1) fun x1 => some x1
def X1_nextInLine (b1 : S2) (b2 : S2) : Option Int32 := bd1 (X0_firstWaiting b1) fun x1 => some x1
def X1_stateOf (b1 : S2) (b2 : S2) (a0 : Int32) : Option (Nat ⊕ Int32) := bx0 (X1_requireTraveller b1 b2 a0) (bd1 (ldA (b1 5) 24 a0) fun x5 => some (.inr x5))
def X1_hiddenOf (b1 : S2) (b2 : S2) (a0 : Int32) : Option (Nat ⊕ Int32) := bx0 (X1_requireTraveller b1 b2 a0) (bd1 (X0_hiddenDreams b1 a0) fun x4 => some (.inr x4))
def X1_lullabyOf (b1 : S2) (b2 : S2) (a0 : Int32) : Option (Nat ⊕ Int32) := bx0 (X1_requireTraveller b1 b2 a0) (bd1 (ldA (b1 4) 24 a0) fun x5 => some (.inr x5))
def X1_placeInLine (b1 : S2) (b2 : S2) (a0 : Int32) : Option (Nat ⊕ Int32) := bx0 (X1_requireTraveller b1 b2 a0) (bd1 (ldA (b1 5) 24 a0) fun x5 => (if x5 = 0 then bd1 (X0_waitingAhead b1 a0) fun x7 => some (.inr x7) else some (.inr (-1))))
def X1_searchTime (b1 : S2) (b2 : S2) (a0 : Int32) : Option (Nat ⊕ Int32) := bx0 (X1_requireTraveller b1 b2 a0) (bd1 (X0_searchMinutes b1 a0) fun x4 => some (.inr x4))
def X1_guards (b1 : S2) (b2 : S2) : Option Int32 := some (b1 0 4)
def X1_alertnessOf (b1 : S2) (b2 : S2) (a0 : Int32) : Option (Nat ⊕ Int32) := bx0 (X1_requireGuard b1 b2 a0) (bd1 (ldA (b1 8) 8 a0) fun x5 => some (.inr x5))
def X1_searches (b1 : S2) (b2 : S2) (a0 : Int32) : Option (Nat ⊕ Int32) := bx0 (X1_requireGuard b1 b2 a0) (bd1 (ldA (b1 9) 8 a0) fun x5 => some (.inr x5))
def X1_minutesToGo (b1 : S2) (b2 : S2) (a0 : Int32) : Option (Nat ⊕ Int32) := bx0 (X1_requireGuard b1 b2 a0) (bd1 (ldA (b1 10) 8 a0) fun x5 => some (.inr x5))
def X1_wouldFind (b1 : S2) (b2 : S2) (a0 : Int32) (a1 : Int32) : Option (Nat ⊕ Int32) := bx0 (X1_requireGuard b1 b2 a0) (bx0 (X1_requireTraveller b1 b2 a1) (bd1 (X0_finds b1 a0 a1) fun x7 => bd1 (bl x7) fun _ => some (.inr x7)))
def X1_mostAlert_L6 (b1 : S2) (b2 : S2) : Nat → Int32 → Int32 → Int32 → Option Int32
  | 0, _, _, _ => none
  | n + 1, l1, l2, l3 => (if (b1 0 4) ≤ l3 then some l1 else bd1 (ldA (b1 8) 8 l3) fun x3 => (if x3 ≤ l2 then X1_mostAlert_L6 b1 b2 n l1 l2 (l3 + 1) else bd1 (ldA (b1 8) 8 l3) fun x6 => X1_mostAlert_L6 b1 b2 n l3 x6 (l3 + 1)))
def X1_mostAlert (b1 : S2) (b2 : S2) : Option Int32 := X1_mostAlert_L6 b1 b2 200 (-1) (-1) 0
def X1_foreseenSleep (b1 : S2) (b2 : S2) (a0 : Int32) : Option Int32 := bd1 (ldA (b1 5) 24 a0) fun x2 => (if x2 = 3 then some 0 else bd1 (ldA (b2 5) 24 a0) fun x5 => (if x5 = 3 then bd1 (ldA (b2 7) 24 a0) fun x8 => some (x8 - (b1 0 0)) else some (-1)))
def X1_minutesUntilAsleep (b1 : S2) (b2 : S2) (a0 : Int32) : Option (Nat ⊕ (Int32 × S2)) := bx0 (X1_requireTraveller b1 b2 a0) (bd1 (X0_become b1 b2) fun b2_4 => bd1 (X0_goOn b2_4 100) fun b2_6 => bd1 (X1_foreseenSleep b1 b2_6 a0) fun x8 => some (.inr (x8, b2_6)))
def X1_asleepIn (b1 : S2) (b2 : S2) (a0 : Int32) : Option (Nat ⊕ (Int32 × S2)) := bx0 (X1_requireMinutes a0) (bd1 (X0_become b1 b2) fun b2_4 => bd1 (X0_goOn b2_4 a0) fun b2_6 => bd1 (X0_countIn b2_6 3) fun x8 => some (.inr (x8, b2_6)))
def X1_bestToDeclare_L27 (l1 : Int32) (b1 : S2) : Nat → Int32 → Int32 → Int32 → S2 → Option (Nat ⊕ (Int32 × S2))
  | 0, _, _, _, _ => none
  | n + 1, l2, l3, l4, b2 => (if 9 < l4 then some (.inr (l2, b2)) else bd1 (X0_become b1 b2) fun b2_8 => bd1 (stA b2_8 2 24 l1 l4) fun b2_11 => bd1 (X0_goOn b2_11 100) fun b2_12 => bd1 (X1_foreseenSleep b1 b2_12 l1) fun x14 => (if x14 < 0 then X1_bestToDeclare_L27 l1 b1 n l2 l3 (l4 + 1) b2_12 else (if l3 ≤ x14 then X1_bestToDeclare_L27 l1 b1 n l2 l3 (l4 + 1) b2_12 else X1_bestToDeclare_L27 l1 b1 n l4 x14 (l4 + 1) b2_12)))
def X1_bestToDeclare (b1 : S2) (b2 : S2) (a0 : Int32) : Option (Nat ⊕ (Int32 × S2)) := bx0 (X1_requireTraveller b1 b2 a0) (bd1 (ldA (b1 5) 24 a0) fun x5 => (if x5 = 0 then X1_bestToDeclare_L27 a0 b1 200 (-1) 101 0 b2 else some (.inr ((-1), b2))))
def X1_guardsWanted_L20 (K : S2 → Option (Int32 × S2)) (l1 : Int32) (b1 : S2) : Nat → Int32 → S2 → Option (Int32 × S2)
  | 0, _, _ => none
  | n + 1, l2, b2 => (if l1 ≤ l2 then K b2 else bd1 (X0_admitGuard b2) fun b2_5 => X1_guardsWanted_L20 K l1 b1 n (l2 + 1) b2_5)
def X1_guardsWanted_L2 (b1 : S2) : Nat → Int32 → S2 → Option (Int32 × S2)
  | 0, _, _ => none
  | n + 1, l1, b2 => (if 4 < l1 then some ((-1), b2) else bd1 (X0_become b1 b2) fun b2_2 => X1_guardsWanted_L20 (fun b2_7 => bd1 (X0_goOn b2_7 60) fun b2_8 => (if (b2_8 0 1) = (b1 0 1) then some (l1, b2_8) else X1_guardsWanted_L2 b1 n (l1 + 1) b2_8)) l1 b1 200 0 b2_2)
def X1_guardsWanted (b1 : S2) (b2 : S2) : Option (Int32 × S2) := X1_guardsWanted_L2 b1 200 0 b2
def X1_meanAlertness_L16 (b1 : S2) (b2 : S2) : Nat → Int32 → Int32 → Option UInt64
  | 0, _, _ => none
  | n + 1, l1, l2 => (if (b1 0 4) ≤ l2 then bd1 (nn (FP.ddiv (FP.i2d l1) (FP.i2d (b1 0 4)))) fun _ => some (FP.ddiv (FP.i2d l1) (FP.i2d (b1 0 4))) else bd1 (ldA (b1 8) 8 l2) fun x5 => X1_meanAlertness_L16 b1 b2 n (l1 + x5) (l2 + 1))
def X1_meanAlertness (b1 : S2) (b2 : S2) : Option UInt64 := (if (b1 0 4) = 0 then some FP.dconst0 else X1_meanAlertness_L16 b1 b2 200 0 0)
def X1_mix (a0 : Int64) (a1 : Int32) : Option Int64 := some ((a0 * 31) + (Int32.toInt64 a1))
def X1_mixTravellers_L25 (b1 : S2) (b2 : S2) : Nat → Int64 → Int32 → Option (Nat ⊕ (Int64 × S2))
  | 0, _, _ => none
  | n + 1, l3, l5 => (if (b1 0 3) ≤ l5 then some (.inr (l3, b2)) else bz1 (X1_stateOf b1 b2 l5) fun x6 => bd1 (X1_mix l3 x6) fun x9 => bz1 (X1_hiddenOf b1 b2 l5) fun x11 => bd1 (X1_mix x9 x11) fun x14 => bz1 (X1_lullabyOf b1 b2 l5) fun x16 => bd1 (X1_mix x14 x16) fun x19 => bz1 (X1_placeInLine b1 b2 l5) fun x21 => bd1 (X1_mix x19 x21) fun x24 => bz1 (X1_searchTime b1 b2 l5) fun x26 => bd1 (X1_mix x24 x26) fun x29 => bd1 (X1_foreseenSleep b1 b2 l5) fun x31 => bd1 (X1_mix x29 x31) fun x33 => X1_mixTravellers_L25 b1 b2 n x33 (l5 + 1))
def X1_mixTravellers (b1 : S2) (b2 : S2) (a0 : Int64) : Option (Nat ⊕ (Int64 × S2)) := bd1 (X0_become b1 b2) fun b2_1 => bd1 (X0_goOn b2_1 100) fun b2_3 => X1_mixTravellers_L25 b1 b2_3 25 a0 0
def X1_mixGuards_L5 (b1 : S2) (b2 : S2) : Nat → Int64 → Int32 → Option (Nat ⊕ Int64)
  | 0, _, _ => none
  | n + 1, l3, l5 => (if (b1 0 4) ≤ l5 then some (.inr l3) else bx1 (X1_alertnessOf b1 b2 l5) fun x2 => bd1 (X1_mix l3 x2) fun x6 => bx1 (X1_searches b1 b2 l5) fun x8 => bd1 (X1_mix x6 x8) fun x12 => bx1 (X1_minutesToGo b1 b2 l5) fun x14 => bd1 (X1_mix x12 x14) fun x18 => X1_mixGuards_L5 b1 b2 n x18 (l5 + 1))
def X1_mixGuards (b1 : S2) (b2 : S2) (a0 : Int64) : Option (Nat ⊕ Int64) := X1_mixGuards_L5 b1 b2 5 a0 0
def X1_digest (b1 : S2) (b2 : S2) : Option (Nat ⊕ (Int64 × S2)) := bd1 (X1_minute b1 b2) fun x1 => bd1 (X1_mix 2131 x1) fun x3 => bd1 (X1_travellers b1 b2) fun x5 => bd1 (X1_mix x3 x5) fun x7 => bd1 (X1_waiting b1 b2) fun x9 => bd1 (X1_mix x7 x9) fun x11 => bd1 (X1_asleep b1 b2) fun x13 => bd1 (X1_mix x11 x13) fun x15 => bd1 (X1_sentBack b1 b2) fun x17 => bd1 (X1_mix x15 x17) fun x19 => bd1 (X1_expired b1 b2) fun x21 => bd1 (X1_mix x19 x21) fun x23 => bd1 (X1_paid b1 b2) fun x25 => bd1 (X1_mix x23 x25) fun x27 => bd1 (X1_noise b1 b2) fun x29 => bd1 (X1_mix x27 x29) fun x31 => bd1 (X1_nextInLine b1 b2) fun x33 => bd1 (X1_mix x31 x33) fun x35 => bd1 (X1_guards b1 b2) fun x37 => bd1 (X1_mix x35 x37) fun x39 => bd1 (X1_mostAlert b1 b2) fun x41 => bd1 (X1_mix x39 x41) fun x43 => bx2 (X1_asleepIn b1 b2 30) fun x45 b2_46 => bd1 (X1_mix x43 x45) fun x50 => bd2 (X1_guardsWanted b1 b2_46) fun x52 b2_53 => bd1 (X1_mix x50 x52) fun x55 => bz2 (X1_mixTravellers b1 b2_53 x55) fun x57 b2_58 => bz1 (X1_mixGuards b1 b2_58 x57) fun x61 => some (.inr (x61, b2_58))
def X2_thrown (w : S2) : Option Int32 := some (w 0 0)
def X2_fail (w : S2) (a0 : Int32) : Option (Int32 × S2) := bd1 (some (up2 w 0 0 a0)) fun w_2 => some (0, w_2)
def X2_told (w : S2) (a0 : Int32) : Option (Int32 × S2) := bd1 (some (up2 w 0 0 0)) fun w_2 => some (a0, w_2)
def X2_isIn (a0 : Int32) (a1 : Int32) (a2 : Int32) : Option Int32 := (if a0 < a1 then some 0 else (if a2 < a0 then some 0 else some 1))
def X2_isTraveller (w : S2) (a0 : Int32) : Option Int32 := bd1 (X2_isIn a0 0 ((w 0 1) - 1)) fun x1 => bd1 (bl x1) fun _ => some x1
def X2_isGuard (w : S2) (a0 : Int32) : Option Int32 := bd1 (ldA (w 3) 124 3) fun x2 => bd1 (X2_isIn a0 0 (x2 - 1)) fun x3 => bd1 (bl x3) fun _ => some x3
def X2_tr (w : S2) (a0 : Int32) (a1 : Int32) : Option Int32 := bd1 (ldA (w 3) 124 ((28 + (4 * a0)) + a1)) fun x2 => some x2
def X2_let (w : S2) (a0 : Int32) (a1 : Int32) (a2 : Int32) : Option S2 := bd1 (stA w 3 124 ((28 + (4 * a0)) + a1) a2) fun w_2 => some w_2
def X2_gu (w : S2) (a0 : Int32) (a1 : Int32) : Option Int32 := bd1 (ldA (w 3) 124 ((4 + (3 * a0)) + a1)) fun x2 => some x2
def X2_post (w : S2) (a0 : Int32) (a1 : Int32) (a2 : Int32) : Option S2 := bd1 (stA w 3 124 ((4 + (3 * a0)) + a1) a2) fun w_2 => some w_2
def X2_keep (w : S2) : Option S2 := bd1 (cpA w 3 4 124 124 0 0 124) fun w_2 => some w_2
def X2_bringBack (w : S2) : Option S2 := bd1 (cpA w 4 3 124 124 0 0 124) fun w_2 => some w_2
def X2_count_L4 (l1 : Int32) (w : S2) : Nat → Int32 → Int32 → Option Int32
  | 0, _, _ => none
  | n + 1, l2, l3 => (if (w 0 1) ≤ l3 then some l2 else bd1 (X2_tr w l3 0) fun x2 => (if x2 = l1 then X2_count_L4 l1 w n (l2 + 1) (l3 + 1) else X2_count_L4 l1 w n (l2 + 0) (l3 + 1)))
def X2_count (w : S2) (a0 : Int32) : Option Int32 := X2_count_L4 a0 w 200 0 0
def X2_loud_L4 (w : S2) : Nat → Int32 → Int32 → Option Int32
  | 0, _, _ => none
  | n + 1, l1, l2 => (if (w 0 1) ≤ l2 then some l1 else bd1 (X2_tr w l2 0) fun x2 => (if x2 = 2 then bd1 (ldA (w 2) 24 l2) fun x6 => X2_loud_L4 w n (l1 + x6) (l2 + 1) else X2_loud_L4 w n (l1 + 0) (l2 + 1)))
def X2_loud (w : S2) : Option Int32 := X2_loud_L4 w 200 0 0
def X2_hidden (w : S2) (a0 : Int32) : Option Int32 := bd1 (ldA (w 1) 24 a0) fun x2 => bd1 (X2_tr w a0 2) fun x3 => some (if 0 < (x2 - x3) then (x2 - x3) else 0)
def X2_finds (w : S2) (a0 : Int32) (a1 : Int32) : Option Int32 := bd1 (X2_hidden w a1) fun x1 => (if x1 ≤ 0 then some 0 else bd1 (X2_hidden w a1) fun x4 => bd1 (X2_gu w a0 0) fun x6 => (if (x4 + x6) < 10 then some 0 else some 1))
def X2_takes (w : S2) (a0 : Int32) : Option Int32 := bd1 (X2_tr w a0 2) fun x1 => bd1 (X2_loud w) fun x3 => some ((2 + x1) + (x3 / 4))
def X2_first_L2 (w : S2) : Nat → Int32 → Option Int32
  | 0, _ => none
  | n + 1, l1 => (if (w 0 1) ≤ l1 then some (-1) else bd1 (X2_tr w l1 0) fun x2 => (if x2 = 0 then some l1 else X2_first_L2 w n (l1 + 1)))
def X2_first (w : S2) : Option Int32 := X2_first_L2 w 200 0
def X2_travel (w : S2) (a0 : Int32) : Option S2 := bd1 (X2_tr w a0 0) fun x1 => (if x1 = 2 then bd1 (X2_tr w a0 3) fun x4 => bd1 (X2_let w a0 3 (x4 - 1)) fun w_6 => bd1 (X2_tr w_6 a0 3) fun x8 => (if x8 = 0 then bd1 (X2_let w_6 a0 0 3) fun w_11 => some w_11 else some w_6) else some w)
def X2_listen (w : S2) (a0 : Int32) : Option S2 := bd1 (X2_tr w a0 0) fun x1 => (if x1 = 0 then bd1 (X2_tr w a0 1) fun x4 => bd1 (X2_let w a0 1 (x4 - 1)) fun w_6 => bd1 (X2_tr w_6 a0 1) fun x8 => (if x8 ≤ 0 then bd1 (X2_let w_6 a0 0 4) fun w_11 => bd1 (ldA (w_11 3) 124 1) fun x14 => bd1 (stA w_11 3 124 1 (x14 + 1)) fun w_16 => some w_16 else some w_6) else some w)
def X2_searchOn (w : S2) (a0 : Int32) : Option S2 := bd1 (X2_gu w a0 2) fun x1 => bd1 (X2_post w a0 2 (x1 - 1)) fun w_3 => bd1 (X2_gu w_3 a0 2) fun x5 => (if x5 ≤ 0 then bd1 (X2_gu w_3 a0 1) fun x8 => bd1 (X2_finds w_3 a0 x8) fun x10 => (if x10 = 0 then (if x10 = 0 then bd1 (X2_let w_3 x8 0 2) fun w_14 => bd1 (X2_let w_14 x8 3 5) fun w_16 => bd1 (X2_post w_16 a0 1 (-1)) fun w_18 => bd1 (X2_gu w_18 a0 0) fun x20 => bd1 (X2_post w_18 a0 0 (if 0 < (x20 - 1) then (x20 - 1) else 0)) fun w_22 => some w_22 else bd1 (X2_let w_3 x8 0 4) fun w_24 => bd1 (X2_let w_24 x8 3 5) fun w_26 => bd1 (X2_post w_26 a0 1 (-1)) fun w_28 => bd1 (X2_gu w_28 a0 0) fun x30 => bd1 (X2_post w_28 a0 0 (if 0 < (x30 - 1) then (x30 - 1) else 0)) fun w_32 => some w_32) else bd1 (ldA (w_3 3) 124 2) fun x35 => bd1 (X2_hidden w_3 x8) fun x36 => bd1 (stA w_3 3 124 2 (x35 + (3 * x36))) fun w_39 => (if x10 = 0 then bd1 (X2_let w_39 x8 0 2) fun w_41 => bd1 (X2_let w_41 x8 3 5) fun w_43 => bd1 (X2_post w_43 a0 1 (-1)) fun w_45 => bd1 (X2_gu w_45 a0 0) fun x47 => bd1 (X2_post w_45 a0 0 (if 0 < (x47 - 1) then (x47 - 1) else 0)) fun w_49 => some w_49 else bd1 (X2_let w_39 x8 0 4) fun w_51 => bd1 (X2_let w_51 x8 3 5) fun w_53 => bd1 (X2_post w_53 a0 1 (-1)) fun w_55 => bd1 (X2_gu w_55 a0 0) fun x57 => bd1 (X2_post w_55 a0 0 (if 0 < (x57 - 1) then (x57 - 1) else 0)) fun w_59 => some w_59)) else some w_3)
def X2_begin (w : S2) (a0 : Int32) : Option S2 := bd1 (X2_first w) fun x1 => (if x1 = (-1) then bd1 (X2_gu w a0 0) fun x12 => bd1 (X2_post w a0 0 (if (x12 + 1) < 9 then (x12 + 1) else 9)) fun w_14 => some w_14 else bd1 (X2_post w a0 1 x1) fun w_4 => bd1 (X2_takes w_4 x1) fun x6 => bd1 (X2_post w_4 a0 2 x6) fun w_8 => bd1 (X2_let w_8 x1 0 1) fun w_10 => some w_10)
def X2_minuteOn_L83 : Nat → Int32 → S2 → Option S2
  | 0, _, _ => none
  | n + 1, l1, w => bd1 (ldA (w 3) 124 3) fun x7 => (if x7 ≤ l1 then bd1 (ldA (w 3) 124 0) fun x10 => bd1 (stA w 3 124 0 (x10 + 1)) fun w_12 => some w_12 else bd1 (ldA (w 5) 8 l1) fun x14 => (if x14 = 0 then bd1 (X2_searchOn w l1) fun w_16 => X2_minuteOn_L83 n (l1 + 1) w_16 else bd1 (X2_begin w l1) fun w_18 => X2_minuteOn_L83 n (l1 + 1) w_18))
def X2_minuteOn_L62 : Nat → Int32 → S2 → Option S2
  | 0, _, _ => none
  | n + 1, l1, w => (if (w 0 1) ≤ l1 then X2_minuteOn_L83 200 0 w else bd1 (X2_listen w l1) fun w_20 => X2_minuteOn_L62 n (l1 + 1) w_20)
def X2_minuteOn_L41 : Nat → Int32 → S2 → Option S2
  | 0, _, _ => none
  | n + 1, l1, w => (if (w 0 1) ≤ l1 then X2_minuteOn_L62 200 0 w else bd1 (X2_travel w l1) fun w_22 => X2_minuteOn_L41 n (l1 + 1) w_22)
def X2_minuteOn_L2 : Nat → Int32 → S2 → Option S2
  | 0, _, _ => none
  | n + 1, l1, w => bd1 (ldA (w 3) 124 3) fun x2 => (if x2 ≤ l1 then X2_minuteOn_L41 200 0 w else bd1 (X2_gu w l1 1) fun x24 => (if x24 = (-1) then bd1 (bl 1) fun _ => bd1 (stA w 5 8 l1 1) fun w_32 => X2_minuteOn_L2 n (l1 + 1) w_32 else bd1 (bl 0) fun _ => bd1 (stA w 5 8 l1 0) fun w_29 => X2_minuteOn_L2 n (l1 + 1) w_29))
def X2_minuteOn (w : S2) : Option S2 := X2_minuteOn_L2 200 0 w
def X2_minutesOn_L2 (l1 : Int32) : Nat → Int32 → S2 → Option S2
  | 0, _, _ => none
  | n + 1, l2, w => (if l1 ≤ l2 then some w else bd1 (X2_minuteOn w) fun w_2 => X2_minutesOn_L2 l1 n (l2 + 1) w_2)
def X2_minutesOn (w : S2) (a0 : Int32) : Option S2 := X2_minutesOn_L2 a0 200 0 w
def X2_hire (w : S2) : Option S2 := bd1 (ldA (w 3) 124 3) fun x2 => bd1 (X2_post w x2 0 9) fun w_3 => bd1 (X2_post w_3 x2 1 (-1)) fun w_5 => bd1 (X2_post w_5 x2 2 0) fun w_7 => bd1 (ldA (w_7 3) 124 3) fun x10 => bd1 (stA w_7 3 124 3 (x10 + 1)) fun w_12 => some w_12
def X2_addGuard (w : S2) : Option (Int32 × S2) := bd1 (some (up2 w 0 0 0)) fun w_2 => bd1 (ldA (w_2 3) 124 3) fun x4 => (if x4 = 4 then bd2 (X2_fail w_2 1) fun x10 w_11 => some (x10, w_11) else bd1 (X2_hire w_2) fun w_6 => bd1 (ldA (w_6 3) 124 3) fun x9 => some ((x9 - 1), w_6))
def X2_arrive (w : S2) (a0 : Int32) (a1 : Int32) (a2 : Int32) (a3 : Int32) : Option (Int32 × S2) := bd1 (some (up2 w 0 0 0)) fun w_2 => bd1 (X2_isIn a0 0 9) fun x3 => (if x3 = 0 then bd2 (X2_fail w_2 1) fun x6 w_7 => some (x6, w_7) else bd1 (X2_isIn a1 0 9) fun x9 => (if x9 = 0 then bd2 (X2_fail w_2 1) fun x12 w_13 => some (x12, w_13) else bd1 (X2_isIn a2 0 9) fun x15 => (if x15 = 0 then bd2 (X2_fail w_2 1) fun x18 w_19 => some (x18, w_19) else bd1 (X2_isIn a3 1 60) fun x21 => (if x21 = 0 then bd2 (X2_fail w_2 1) fun x38 w_39 => some (x38, w_39) else (if (w_2 0 1) = 24 then bd2 (X2_fail w_2 2) fun x35 w_36 => some (x35, w_36) else bd1 (stA w_2 1 24 (w_2 0 1) a0) fun w_26 => bd1 (stA w_26 2 24 (w_26 0 1) a2) fun w_28 => bd1 (X2_let w_28 (w_28 0 1) 1 a3) fun w_29 => bd1 (X2_let w_29 (w_29 0 1) 2 a1) fun w_31 => bd1 (some (up2 w_31 0 1 ((w_31 0 1) + 1))) fun w_34 => some (((w_34 0 1) - 1), w_34))))))
def X2_write (w : S2) (a0 : Int32) (a1 : Int32) (a2 : Int32) (a3 : Int32) (a4 : Int32) : Option (Int32 × S2) := bd1 (some (up2 w 0 0 0)) fun w_2 => bd1 (X2_isTraveller w_2 a0) fun x3 => (if x3 = 0 then bd2 (X2_fail w_2 1) fun x22 w_23 => some (x22, w_23) else bd1 (X2_isIn a2 a3 a4) fun x6 => (if x6 = 0 then bd2 (X2_fail w_2 2) fun x19 w_20 => some (x19, w_20) else bd1 (X2_tr w_2 a0 0) fun x9 => (if x9 = 0 then bd1 (X2_tr w_2 a0 a1) fun x12 => bd1 (X2_let w_2 a0 a1 a2) fun w_14 => some (x12, w_14) else bd2 (X2_fail w_2 3) fun x16 w_17 => some (x16, w_17))))
def X2_declare (w : S2) (a0 : Int32) (a1 : Int32) : Option (Int32 × S2) := bd2 (X2_write w a0 2 a1 0 9) fun x1 w_2 => some (x1, w_2)
def X2_sing (w : S2) (a0 : Int32) (a1 : Int32) : Option (Int32 × S2) := bd2 (X2_write w a0 1 a1 1 60) fun x1 w_2 => some (x1, w_2)
def X2_wake (w : S2) (a0 : Int32) : Option (Int32 × S2) := bd1 (some (up2 w 0 0 0)) fun w_2 => bd1 (X2_isGuard w_2 a0) fun x3 => (if x3 = 0 then bd2 (X2_fail w_2 1) fun x10 w_11 => some (x10, w_11) else bd1 (X2_gu w_2 a0 0) fun x6 => bd1 (X2_post w_2 a0 0 9) fun w_8 => some (x6, w_8))
def X2_pass (w : S2) (a0 : Int32) : Option (Int32 × S2) := bd1 (some (up2 w 0 0 0)) fun w_2 => bd1 (X2_isIn a0 1 60) fun x3 => (if x3 = 0 then bd2 (X2_fail w_2 1) fun x12 w_13 => some (x12, w_13) else bd1 (X2_count w_2 3) fun x6 => bd1 (X2_minutesOn w_2 a0) fun w_8 => bd1 (X2_count w_8 3) fun x10 => some ((x10 - x6), w_8))
def X2_minute (w : S2) : Option (Int32 × S2) := bd1 (ldA (w 3) 124 0) fun x2 => bd2 (X2_told w x2) fun x3 w_4 => some (x3, w_4)
def X2_travellers (w : S2) : Option (Int32 × S2) := bd2 (X2_told w (w 0 1)) fun x1 w_2 => some (x1, w_2)
def X2_waiting (w : S2) : Option (Int32 × S2) := bd1 (X2_count w 0) fun x1 => bd2 (X2_told w x1) fun x3 w_4 => some (x3, w_4)
def X2_asleep (w : S2) : Option (Int32 × S2) := bd1 (X2_count w 3) fun x1 => bd2 (X2_told w x1) fun x3 w_4 => some (x3, w_4)
def X2_sentBack (w : S2) : Option (Int32 × S2) := bd1 (X2_count w 4) fun x1 => bd2 (X2_told w x1) fun x3 w_4 => some (x3, w_4)
def X2_expired (w : S2) : Option (Int32 × S2) := bd1 (ldA (w 3) 124 1) fun x2 => bd2 (X2_told w x2) fun x3 w_4 => some (x3, w_4)
def X2_paid (w : S2) : Option (Int32 × S2) := bd1 (ldA (w 3) 124 2) fun x2 => bd2 (X2_told w x2) fun x3 w_4 => some (x3, w_4)
def X2_noise (w : S2) : Option (Int32 × S2) := bd1 (X2_loud w) fun x1 => bd2 (X2_told w x1) fun x3 w_4 => some (x3, w_4)
def X2_nextInLine (w : S2) : Option (Int32 × S2) := bd1 (X2_first w) fun x1 => bd2 (X2_told w x1) fun x3 w_4 => some (x3, w_4)
def X2_stateOf (w : S2) (a0 : Int32) : Option (Int32 × S2) := bd1 (some (up2 w 0 0 0)) fun w_2 => bd1 (X2_isTraveller w_2 a0) fun x3 => (if x3 = 0 then bd2 (X2_fail w_2 1) fun x6 w_7 => some (x6, w_7) else bd1 (X2_tr w_2 a0 0) fun x9 => some (x9, w_2))
def X2_hiddenOf (w : S2) (a0 : Int32) : Option (Int32 × S2) := bd1 (some (up2 w 0 0 0)) fun w_2 => bd1 (X2_isTraveller w_2 a0) fun x3 => (if x3 = 0 then bd2 (X2_fail w_2 1) fun x6 w_7 => some (x6, w_7) else bd1 (X2_hidden w_2 a0) fun x9 => some (x9, w_2))
def X2_lullabyOf (w : S2) (a0 : Int32) : Option (Int32 × S2) := bd1 (some (up2 w 0 0 0)) fun w_2 => bd1 (X2_isTraveller w_2 a0) fun x3 => (if x3 = 0 then bd2 (X2_fail w_2 1) fun x6 w_7 => some (x6, w_7) else bd1 (X2_tr w_2 a0 1) fun x9 => some (x9, w_2))
def X2_place_L15 (l1 : Int32) (w : S2) : Nat → Int32 → Int32 → Option Int32
  | 0, _, _ => none
  | n + 1, l2, l3 => (if l1 ≤ l3 then some l2 else bd1 (X2_tr w l3 0) fun x5 => (if x5 = 0 then X2_place_L15 l1 w n (l2 + 1) (l3 + 1) else X2_place_L15 l1 w n (l2 + 0) (l3 + 1)))
def X2_place (w : S2) (a0 : Int32) : Option Int32 := bd1 (X2_tr w a0 0) fun x1 => (if x1 = 0 then X2_place_L15 a0 w 200 0 0 else some (-1))
def X2_placeInLine (w : S2) (a0 : Int32) : Option (Int32 × S2) := bd1 (some (up2 w 0 0 0)) fun w_2 => bd1 (X2_isTraveller w_2 a0) fun x3 => (if x3 = 0 then bd2 (X2_fail w_2 1) fun x6 w_7 => some (x6, w_7) else bd1 (X2_place w_2 a0) fun x9 => some (x9, w_2))
def X2_searchTime (w : S2) (a0 : Int32) : Option (Int32 × S2) := bd1 (some (up2 w 0 0 0)) fun w_2 => bd1 (X2_isTraveller w_2 a0) fun x3 => (if x3 = 0 then bd2 (X2_fail w_2 1) fun x6 w_7 => some (x6, w_7) else bd1 (X2_takes w_2 a0) fun x9 => some (x9, w_2))
def X2_guards (w : S2) : Option (Int32 × S2) := bd1 (ldA (w 3) 124 3) fun x2 => bd2 (X2_told w x2) fun x3 w_4 => some (x3, w_4)
def X2_guard (w : S2) (a0 : Int32) (a1 : Int32) : Option (Int32 × S2) := bd1 (some (up2 w 0 0 0)) fun w_2 => bd1 (X2_isGuard w_2 a0) fun x3 => (if x3 = 0 then bd2 (X2_fail w_2 1) fun x6 w_7 => some (x6, w_7) else bd1 (X2_gu w_2 a0 a1) fun x9 => some (x9, w_2))
def X2_alertnessOf (w : S2) (a0 : Int32) : Option (Int32 × S2) := bd2 (X2_guard w a0 0) fun x1 w_2 => some (x1, w_2)
def X2_searches (w : S2) (a0 : Int32) : Option (Int32 × S2) := bd2 (X2_guard w a0 1) fun x1 w_2 => some (x1, w_2)
def X2_minutesToGo (w : S2) (a0 : Int32) : Option (Int32 × S2) := bd2 (X2_guard w a0 2) fun x1 w_2 => some (x1, w_2)
def X2_wouldFind (w : S2) (a0 : Int32) (a1 : Int32) : Option (Int32 × S2) := bd1 (X2_isGuard w a0) fun x1 => (if x1 = 0 then bd1 (some (up2 w 0 0 1)) fun w_5 => (if (w_5 0 0) = 0 then bd1 (X2_finds w_5 a0 a1) fun x7 => (if x7 = 0 then some (0, w_5) else some (1, w_5)) else some (0, w_5)) else bd1 (X2_isTraveller w a1) fun x10 => (if x10 = 0 then bd1 (some (up2 w 0 0 1)) fun w_14 => (if (w_14 0 0) = 0 then bd1 (X2_finds w_14 a0 a1) fun x16 => (if x16 = 0 then some (0, w_14) else some (1, w_14)) else some (0, w_14)) else bd1 (some (up2 w 0 0 0)) fun w_20 => (if (w_20 0 0) = 0 then bd1 (X2_finds w_20 a0 a1) fun x22 => (if x22 = 0 then some (0, w_20) else some (1, w_20)) else some (0, w_20))))
def X2_alertest_L4 (w : S2) : Nat → Int32 → Int32 → Option Int32
  | 0, _, _ => none
  | n + 1, l1, l2 => bd1 (ldA (w 3) 124 3) fun x2 => (if x2 ≤ l2 then some l1 else (if l1 = (-1) then X2_alertest_L4 w n l2 (l2 + 1) else bd1 (X2_gu w l2 0) fun x5 => bd1 (X2_gu w l1 0) fun x7 => (if x5 ≤ x7 then X2_alertest_L4 w n l1 (l2 + 1) else X2_alertest_L4 w n l2 (l2 + 1))))
def X2_alertest (w : S2) : Option Int32 := X2_alertest_L4 w 200 (-1) 0
def X2_mostAlert (w : S2) : Option (Int32 × S2) := bd1 (X2_alertest w) fun x1 => bd2 (X2_told w x1) fun x3 w_4 => some (x3, w_4)
def X2_run_L2 (l1 : Int32) : Nat → Int32 → S2 → Option (Int32 × S2)
  | 0, _, _ => none
  | n + 1, l2, w => (if 100 < l2 then (if l2 ≤ 100 then some (l2, w) else some ((-1), w)) else bd1 (X2_tr w l1 0) fun x3 => (if x3 = 3 then (if l2 ≤ 100 then some (l2, w) else some ((-1), w)) else bd1 (X2_minuteOn w) fun w_7 => X2_run_L2 l1 n (l2 + 1) w_7))
def X2_run (w : S2) (a0 : Int32) : Option (Int32 × S2) := X2_run_L2 a0 200 0 w
def X2_until (w : S2) (a0 : Int32) : Option (Int32 × S2) := bd1 (X2_keep w) fun w_1 => bd2 (X2_run w_1 a0) fun x3 w_4 => bd1 (X2_bringBack w_4) fun w_6 => some (x3, w_6)
def X2_minutesUntilAsleep (w : S2) (a0 : Int32) : Option (Int32 × S2) := bd1 (some (up2 w 0 0 0)) fun w_2 => bd1 (X2_isTraveller w_2 a0) fun x3 => (if x3 = 0 then bd2 (X2_fail w_2 1) fun x6 w_7 => some (x6, w_7) else bd2 (X2_until w_2 a0) fun x9 w_10 => some (x9, w_10))
def X2_sleepers (w : S2) (a0 : Int32) : Option (Int32 × S2) := bd1 (X2_keep w) fun w_1 => bd1 (X2_minutesOn w_1 a0) fun w_3 => bd1 (X2_count w_3 3) fun x5 => bd1 (X2_bringBack w_3) fun w_7 => some (x5, w_7)
def X2_asleepIn (w : S2) (a0 : Int32) : Option (Int32 × S2) := bd1 (some (up2 w 0 0 0)) fun w_2 => bd1 (X2_isIn a0 1 60) fun x3 => (if x3 = 0 then bd2 (X2_fail w_2 1) fun x6 w_7 => some (x6, w_7) else bd2 (X2_sleepers w_2 a0) fun x9 w_10 => some (x9, w_10))
def X2_bestToDeclare_L42 (l1 : Int32) : Nat → Int32 → Int32 → Int32 → S2 → Option (Int32 × S2)
  | 0, _, _, _, _ => none
  | n + 1, l2, l3, l4, w => (if 9 < l4 then some (l2, w) else bd1 (X2_let w l1 2 l4) fun w_12 => bd2 (X2_run w_12 l1) fun x14 w_15 => bd1 (X2_bringBack w_15) fun w_17 => (if x14 = (-1) then X2_bestToDeclare_L42 l1 n l2 l3 (l4 + 1) w_17 else (if x14 < l3 then X2_bestToDeclare_L42 l1 n l4 x14 (l4 + 1) w_17 else X2_bestToDeclare_L42 l1 n l2 l3 (l4 + 1) w_17)))
def X2_bestToDeclare (w : S2) (a0 : Int32) : Option (Int32 × S2) := bd1 (some (up2 w 0 0 0)) fun w_2 => bd1 (X2_isTraveller w_2 a0) fun x3 => (if x3 = 0 then bd2 (X2_fail w_2 1) fun x21 w_22 => some (x21, w_22) else bd1 (X2_tr w_2 a0 0) fun x6 => (if x6 = 0 then bd1 (X2_keep w_2) fun w_9 => X2_bestToDeclare_L42 a0 200 (-1) 101 0 w_9 else some ((-1), w_2)))
def X2_wanted_L28 (K : S2 → Option (Int32 × S2)) (l1 : Int32) (l2 : Int32) (l3 : Int32) : Nat → Int32 → S2 → Option (Int32 × S2)
  | 0, _, _ => none
  | n + 1, l4, w => (if l2 ≤ l4 then K w else bd1 (X2_hire w) fun w_8 => X2_wanted_L28 K l1 l2 l3 n (l4 + 1) w_8)
def X2_wanted_L8 : Nat → Int32 → Int32 → S2 → Option (Int32 × S2)
  | 0, _, _, _ => none
  | n + 1, l1, l2, w => (if 4 < l2 then some (l1, w) else (if l1 = (-1) then bd1 (ldA (w 3) 124 1) fun x6 => X2_wanted_L28 (fun w_10 => bd1 (X2_minutesOn w_10 60) fun w_11 => bd1 (ldA (w_11 3) 124 1) fun x14 => (if x14 = x6 then bd1 (X2_bringBack w_11) fun w_18 => X2_wanted_L8 n l2 (l2 + 1) w_18 else bd1 (X2_bringBack w_11) fun w_16 => X2_wanted_L8 n l1 (l2 + 1) w_16)) l1 l2 x6 200 0 w else some (l1, w)))
def X2_wanted (w : S2) : Option (Int32 × S2) := bd1 (X2_keep w) fun w_1 => X2_wanted_L8 200 (-1) 0 w_1
def X2_guardsWanted (w : S2) : Option (Int32 × S2) := bd2 (X2_wanted w) fun x1 w_2 => bd2 (X2_told w_2 x1) fun x4 w_5 => some (x4, w_5)
def X2_meanAlertness_L9 (w : S2) : Nat → Int32 → Int32 → Option (UInt64 × S2)
  | 0, _, _ => none
  | n + 1, l1, l2 => bd1 (ldA (w 3) 124 3) fun x4 => (if x4 ≤ l2 then bd1 (ldA (w 3) 124 3) fun x7 => (if x7 = 0 then some (FP.dconst0, w) else bd1 (ldA (w 3) 124 3) fun x10 => bd1 (nn (FP.ddiv (FP.i2d l1) (FP.i2d x10))) fun _ => some ((FP.ddiv (FP.i2d l1) (FP.i2d x10)), w)) else bd1 (X2_gu w l2 0) fun x12 => X2_meanAlertness_L9 w n (l1 + x12) (l2 + 1))
def X2_meanAlertness (w : S2) : Option (UInt64 × S2) := bd1 (some (up2 w 0 0 0)) fun w_2 => X2_meanAlertness_L9 w_2 200 0 0
def X2_digest_L305 (K : Int64 → Option (Int64 × S2)) (l4 : Int32) (w : S2) (f13 : Nat → Int32) : Nat → Int64 → Int32 → Option (Int64 × S2)
  | 0, _, _ => none
  | n + 1, l2, l5 => (if 3 ≤ l5 then K l2 else bd1 (X2_gu w l4 l5) fun x62 => X2_digest_L305 K l4 w f13 n ((l2 * 31) + (Int32.toInt64 x62)) (l5 + 1))
def X2_digest_L291 (w : S2) (f13 : Nat → Int32) : Nat → Int64 → Int32 → Option (Int64 × S2)
  | 0, _, _ => none
  | n + 1, l2, l4 => bd1 (ldA (w 3) 124 3) fun x59 => (if x59 ≤ l4 then some (l2, w) else X2_digest_L305 (fun l2_64 => X2_digest_L291 w f13 n l2_64 (l4 + 1)) l4 w f13 200 l2 0)
def X2_digest_L252 (K : Int64 → Option (Int64 × S2)) (l4 : Int32) (l7 : Int32) (w : S2) (f13 : Nat → Int32) (f6 : Nat → Int32) : Nat → Int64 → Int32 → Option (Int64 × S2)
  | 0, _, _ => none
  | n + 1, l2, l8 => (if l7 ≤ l8 then K l2 else bd1 (ldA f6 6 l8) fun x93 => X2_digest_L252 K l4 l7 w f13 f6 n ((l2 * 31) + (Int32.toInt64 x93)) (l8 + 1))
def X2_digest_L169 (f13 : Nat → Int32) : Nat → Int64 → Int32 → S2 → Option (Int64 × S2)
  | 0, _, _, _ => none
  | n + 1, l2, l4, w => (if (w 0 1) ≤ l4 then X2_digest_L291 w f13 200 l2 0 else bd1 (X2_tr w l4 0) fun x66 => bd1 (stF (fun _ => 0) 6 0 x66) fun f6_69 => bd1 (X2_hidden w l4) fun x70 => bd1 (stF f6_69 6 1 x70) fun f6_73 => bd1 (X2_tr w l4 1) fun x74 => bd1 (stF f6_73 6 2 x74) fun f6_77 => bd1 (X2_place w l4) fun x78 => bd1 (stF f6_77 6 3 x78) fun f6_81 => bd1 (X2_takes w l4) fun x82 => bd1 (stF f6_81 6 4 x82) fun f6_85 => bd2 (X2_until w l4) fun x86 w_87 => bd1 (stF f6_85 6 5 x86) fun f6_90 => X2_digest_L252 (fun l2_94 => X2_digest_L169 f13 n l2_94 (l4 + 1) w_87) l4 6 w_87 f13 f6_90 200 l2 0)
def X2_digest_L136 (l5 : Int32) (w : S2) (f13 : Nat → Int32) : Nat → Int64 → Int32 → Option (Int64 × S2)
  | 0, _, _ => none
  | n + 1, l2, l6 => (if l5 ≤ l6 then X2_digest_L169 f13 25 l2 0 w else bd1 (ldA f13 13 l6) fun x96 => X2_digest_L136 l5 w f13 n ((l2 * 31) + (Int32.toInt64 x96)) (l6 + 1))
def X2_digest (w : S2) : Option (Int64 × S2) := bd1 (some (up2 w 0 0 0)) fun w_2 => bd1 (ldA (w_2 3) 124 0) fun x5 => bd1 (stF (fun _ => 0) 13 0 x5) fun f13_7 => bd1 (stF f13_7 13 1 (w_2 0 1)) fun f13_9 => bd1 (X2_count w_2 0) fun x10 => bd1 (stF f13_9 13 2 x10) fun f13_13 => bd1 (X2_count w_2 3) fun x14 => bd1 (stF f13_13 13 3 x14) fun f13_17 => bd1 (X2_count w_2 4) fun x18 => bd1 (stF f13_17 13 4 x18) fun f13_21 => bd1 (ldA (w_2 3) 124 1) fun x23 => bd1 (stF f13_21 13 5 x23) fun f13_25 => bd1 (ldA (w_2 3) 124 2) fun x27 => bd1 (stF f13_25 13 6 x27) fun f13_29 => bd1 (X2_loud w_2) fun x30 => bd1 (stF f13_29 13 7 x30) fun f13_33 => bd1 (X2_first w_2) fun x34 => bd1 (stF f13_33 13 8 x34) fun f13_37 => bd1 (ldA (w_2 3) 124 3) fun x39 => bd1 (stF f13_37 13 9 x39) fun f13_41 => bd1 (X2_alertest w_2) fun x42 => bd1 (stF f13_41 13 10 x42) fun f13_45 => bd2 (X2_sleepers w_2 30) fun x46 w_47 => bd1 (stF f13_45 13 11 x46) fun f13_50 => bd2 (X2_wanted w_47) fun x51 w_52 => bd1 (stF f13_50 13 12 x51) fun f13_55 => X2_digest_L136 13 w_52 f13_55 200 2131 0
def L_addGuard (b1 : S2) (b2 : S2) (o : Nat → Int64) : Option ((Int32 × S2 × (Nat → Int64))) := bc2 (X1_addGuard b1 b2) (fun ne4 => if ne4 = 1 then some (1, b1, o) else none) (fun x1 b1_2 => bd1 (stL o 1 0 (Int32.toInt64 x1)) fun o_6 => some (0, b1_2, o_6))
def L_arrive (b1 : S2) (b2 : S2) (o : Nat → Int64) (a0 : Int32) (a1 : Int32) (a2 : Int32) (a3 : Int32) : Option ((Int32 × S2 × (Nat → Int64))) := bc2 (X1_arrive b1 b2 a0 a1 a2 a3) (fun ne4 => if ne4 = 2 then some (1, b1, o) else if ne4 = 1 then some (2, b1, o) else none) (fun x1 b1_2 => bd1 (stL o 1 0 (Int32.toInt64 x1)) fun o_6 => some (0, b1_2, o_6))
def L_declare (b1 : S2) (b2 : S2) (o : Nat → Int64) (a0 : Int32) (a1 : Int32) : Option ((Int32 × S2 × (Nat → Int64))) := bc2 (X1_declare b1 b2 a0 a1) (fun ne4 => if ne4 = 3 then some (1, b1, o) else if ne4 = 2 then some (2, b1, o) else if ne4 = 1 then some (3, b1, o) else none) (fun x1 b1_2 => bd1 (stL o 1 0 (Int32.toInt64 x1)) fun o_6 => some (0, b1_2, o_6))
def L_sing (b1 : S2) (b2 : S2) (o : Nat → Int64) (a0 : Int32) (a1 : Int32) : Option ((Int32 × S2 × (Nat → Int64))) := bc2 (X1_sing b1 b2 a0 a1) (fun ne4 => if ne4 = 3 then some (1, b1, o) else if ne4 = 2 then some (2, b1, o) else if ne4 = 1 then some (3, b1, o) else none) (fun x1 b1_2 => bd1 (stL o 1 0 (Int32.toInt64 x1)) fun o_6 => some (0, b1_2, o_6))
def L_wake (b1 : S2) (b2 : S2) (o : Nat → Int64) (a0 : Int32) : Option ((Int32 × S2 × (Nat → Int64))) := bc2 (X1_wake b1 b2 a0) (fun ne4 => if ne4 = 3 then some (1, b1, o) else none) (fun x1 b1_2 => bd1 (stL o 1 0 (Int32.toInt64 x1)) fun o_6 => some (0, b1_2, o_6))
def L_pass (b1 : S2) (b2 : S2) (o : Nat → Int64) (a0 : Int32) : Option ((Int32 × S2 × (Nat → Int64))) := bc2 (X1_pass b1 b2 a0) (fun ne4 => if ne4 = 2 then some (1, b1, o) else none) (fun x1 b1_2 => bd1 (stL o 1 0 (Int32.toInt64 x1)) fun o_6 => some (0, b1_2, o_6))
def L_stateOf (b1 : S2) (b2 : S2) (o : Nat → Int64) (a0 : Int32) : Option ((Int32 × (Nat → Int64))) := bc1 (X1_stateOf b1 b2 a0) (fun ne3 => if ne3 = 3 then some (1, o) else none) (fun x1 => bd1 (stL o 1 0 (Int32.toInt64 x1)) fun o_5 => some (0, o_5))
def L_hiddenOf (b1 : S2) (b2 : S2) (o : Nat → Int64) (a0 : Int32) : Option ((Int32 × (Nat → Int64))) := bc1 (X1_hiddenOf b1 b2 a0) (fun ne3 => if ne3 = 3 then some (1, o) else none) (fun x1 => bd1 (stL o 1 0 (Int32.toInt64 x1)) fun o_5 => some (0, o_5))
def L_lullabyOf (b1 : S2) (b2 : S2) (o : Nat → Int64) (a0 : Int32) : Option ((Int32 × (Nat → Int64))) := bc1 (X1_lullabyOf b1 b2 a0) (fun ne3 => if ne3 = 3 then some (1, o) else none) (fun x1 => bd1 (stL o 1 0 (Int32.toInt64 x1)) fun o_5 => some (0, o_5))
def L_placeInLine (b1 : S2) (b2 : S2) (o : Nat → Int64) (a0 : Int32) : Option ((Int32 × (Nat → Int64))) := bc1 (X1_placeInLine b1 b2 a0) (fun ne3 => if ne3 = 3 then some (1, o) else none) (fun x1 => bd1 (stL o 1 0 (Int32.toInt64 x1)) fun o_5 => some (0, o_5))
def L_searchTime (b1 : S2) (b2 : S2) (o : Nat → Int64) (a0 : Int32) : Option ((Int32 × (Nat → Int64))) := bc1 (X1_searchTime b1 b2 a0) (fun ne3 => if ne3 = 3 then some (1, o) else none) (fun x1 => bd1 (stL o 1 0 (Int32.toInt64 x1)) fun o_5 => some (0, o_5))
def L_alertnessOf (b1 : S2) (b2 : S2) (o : Nat → Int64) (a0 : Int32) : Option ((Int32 × (Nat → Int64))) := bc1 (X1_alertnessOf b1 b2 a0) (fun ne3 => if ne3 = 3 then some (1, o) else none) (fun x1 => bd1 (stL o 1 0 (Int32.toInt64 x1)) fun o_5 => some (0, o_5))
def L_searches (b1 : S2) (b2 : S2) (o : Nat → Int64) (a0 : Int32) : Option ((Int32 × (Nat → Int64))) := bc1 (X1_searches b1 b2 a0) (fun ne3 => if ne3 = 3 then some (1, o) else none) (fun x1 => bd1 (stL o 1 0 (Int32.toInt64 x1)) fun o_5 => some (0, o_5))
def L_minutesToGo (b1 : S2) (b2 : S2) (o : Nat → Int64) (a0 : Int32) : Option ((Int32 × (Nat → Int64))) := bc1 (X1_minutesToGo b1 b2 a0) (fun ne3 => if ne3 = 3 then some (1, o) else none) (fun x1 => bd1 (stL o 1 0 (Int32.toInt64 x1)) fun o_5 => some (0, o_5))
def L_wouldFind (b1 : S2) (b2 : S2) (o : Nat → Int64) (a0 : Int32) (a1 : Int32) : Option ((Int32 × (Nat → Int64))) := bc1 (X1_wouldFind b1 b2 a0 a1) (fun ne3 => if ne3 = 3 then some (1, o) else none) (fun x1 => (if x1 = 0 then bd1 (stL o 1 0 0) fun o_6 => some (0, o_6) else bd1 (stL o 1 0 1) fun o_8 => some (0, o_8)))
def L_minutesUntilAsleep (b1 : S2) (b2 : S2) (o : Nat → Int64) (a0 : Int32) : Option ((Int32 × S2 × (Nat → Int64))) := bc2 (X1_minutesUntilAsleep b1 b2 a0) (fun ne4 => if ne4 = 3 then some (1, b2, o) else none) (fun x1 b2_2 => bd1 (stL o 1 0 (Int32.toInt64 x1)) fun o_6 => some (0, b2_2, o_6))
def L_asleepIn (b1 : S2) (b2 : S2) (o : Nat → Int64) (a0 : Int32) : Option ((Int32 × S2 × (Nat → Int64))) := bc2 (X1_asleepIn b1 b2 a0) (fun ne4 => if ne4 = 2 then some (1, b2, o) else none) (fun x1 b2_2 => bd1 (stL o 1 0 (Int32.toInt64 x1)) fun o_6 => some (0, b2_2, o_6))
def L_bestToDeclare (b1 : S2) (b2 : S2) (o : Nat → Int64) (a0 : Int32) : Option ((Int32 × S2 × (Nat → Int64))) := bc2 (X1_bestToDeclare b1 b2 a0) (fun ne4 => if ne4 = 3 then some (1, b2, o) else none) (fun x1 b2_2 => bd1 (stL o 1 0 (Int32.toInt64 x1)) fun o_6 => some (0, b2_2, o_6))
