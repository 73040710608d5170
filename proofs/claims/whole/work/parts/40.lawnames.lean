/-! THE CLAIM OUT OF ONE WALK OF THE LAW'S BODY. Your part is whole_start (and what it stands on); all else here is the same for every law, but numbers. -/
def R_law : String := "SweptSnowLaw"
def lw_P (b : Addr) (xs : List Int32) (args : Array Value) (s : State) : Prop := args = #[.ref b] ∧ s.IntsAt b xs ∧ xs.length ≤ 3072 ∧ (Jvm.Cond.and given_1 narrow_1).before args s = true
def lw_Q (_ : Array Value) (s : State) (o : Outcome) (t : State) : Prop := o = .returned (some (.int 1)) ∧ Framed s o t [] 600000 7302250
def lw_Z (below : List Frame) (a : Array Value) (s : State) : State → Prop := fun t => ∃ o, t.status = .running ∧ Ended t below o ∧ lw_Q a s o t
/-- the law's own end, with 1 on the stack, nothing written that was there before, its room as the claim has it -/
theorem lw_ret {p : Program} {l : Launch} {e : Env} {s : State} {m : MethodId} {below : List Frame} {meth : Method} {c : Code} {b : Nat} (hx : p.tables.exec = Jvm.exec) (hb : c.code = code) (hr : meth.sig.returnType = ret) (hlocks : meth.locks = false) {pc : Nat} {H : Heap} {ls : Array Slot} (hdg : decode code pc = .ok (.ireturn, 1)) : W p l e room_1 s m #[Value.ref b] below meth c H [] 600000 7302250 (lw_Z below #[Value.ref b] s) (F0 m pc ls [.int 1]) := by
  intro T hT X
  obtain ⟨fs, hret, hrun, hended, hW, hframe⟩ := X.leave (v := some (.int 1)) (hlocks := hlocks) (fun h => by rw [hr] at h; cases h)
  have hmeth' : T.vm.method? m = some meth := X.method'
  refine ⟨T.setFrames fs, ?_, .returned (some (.int 1)), hrun, hended, rfl, ⟨_, rfl⟩, hW, hframe⟩
  jvm_step X.here [X.here.top, hx, hb, hdg, hmeth', hr, ret, narrow_b1]
  (try refine ⟨rfl, ?_⟩); (try refine ⟨rfl, ?_⟩)
  first | (intro acts; rw [hret _ acts rfl rfl rfl]) | rw [hret _ _ rfl rfl rfl]
  exact Steps.refl _
/-- what holds at the law's entry: the machine, the code, the tables' words (any of lw_tbl by 'hts w (by decide +kernel)'), the script of L ints xs at the cell b, what the Statement gives of the start (any of its parts by flat_of_before) -/
def lw_At (p : Program) (s : State) (m : MethodId) (meth : Method) (c : Code) (b L : Nat) (xs : Nat → Int32) : Prop :=
  p.tables.exec = Jvm.exec ∧ c.code = code ∧ meth.sig.returnType = ret ∧ c.maxLocals = 4 ∧ s.vm.findClass R_law = some m.cls ∧ (∀ w ∈ lw_tbl, w.before #[Value.ref b] s = true) ∧ va_X b L xs s s.heap ∧ b < s.heap.size ∧ meth.locks = false ∧ (Jvm.Cond.and given_1 narrow_1).before #[Value.ref b] s = true
theorem km_law_9 : ss_mi R_law 9 yy_S_init bb_S_init 1 0 := ⟨⟨(ss_in 25 (by decide +kernel) (by decide +kernel)), (ss_in 1 (by decide +kernel) (by decide +kernel)), (ss_in 23 (by decide +kernel) (by decide +kernel)), by decide +kernel⟩, rfl, (ss_in 24 (by decide +kernel) (by decide +kernel))⟩
theorem km_law_12 : ss_mi R_law 12 yy_M_init bb_M_init 1 0 := ⟨⟨(ss_in 1110 (by decide +kernel) (by decide +kernel)), (ss_in 12 (by decide +kernel) (by decide +kernel)), (ss_in 1108 (by decide +kernel) (by decide +kernel)), by decide +kernel⟩, rfl, (ss_in 1109 (by decide +kernel) (by decide +kernel))⟩
theorem km_law_13 : ss_mv R_law 13 yy_S_feed bb_S_feed 6 (some (.int)) 5 11 := ⟨⟨(ss_in 411 (by decide +kernel) (by decide +kernel)), (ss_in 1 (by decide +kernel) (by decide +kernel)), (ss_in 408 (by decide +kernel) (by decide +kernel)), by decide +kernel⟩, (ss_in 409 (by decide +kernel) (by decide +kernel)), (ss_in 410 (by decide +kernel) (by decide +kernel)), rfl⟩
theorem km_law_17 : ss_mv R_law 17 yy_M_feed bb_M_feed 6 (some (.int)) 5 12 := ⟨⟨(ss_in 1236 (by decide +kernel) (by decide +kernel)), (ss_in 12 (by decide +kernel) (by decide +kernel)), (ss_in 1233 (by decide +kernel) (by decide +kernel)), by decide +kernel⟩, (ss_in 1234 (by decide +kernel) (by decide +kernel)), (ss_in 1235 (by decide +kernel) (by decide +kernel)), rfl⟩
theorem km_law_18 : ss_mv R_law 18 yy_S_end bb_S_end 2 (some (.int)) 1 11 := ⟨⟨(ss_in 419 (by decide +kernel) (by decide +kernel)), (ss_in 1 (by decide +kernel) (by decide +kernel)), (ss_in 416 (by decide +kernel) (by decide +kernel)), by decide +kernel⟩, (ss_in 417 (by decide +kernel) (by decide +kernel)), (ss_in 418 (by decide +kernel) (by decide +kernel)), rfl⟩
theorem km_law_22 : ss_mv R_law 22 yy_M_end bb_M_end 2 (some (.int)) 1 12 := ⟨⟨(ss_in 1244 (by decide +kernel) (by decide +kernel)), (ss_in 12 (by decide +kernel) (by decide +kernel)), (ss_in 1241 (by decide +kernel) (by decide +kernel)), by decide +kernel⟩, (ss_in 1242 (by decide +kernel) (by decide +kernel)), (ss_in 1243 (by decide +kernel) (by decide +kernel)), rfl⟩
theorem km_law_23 : ss_mv R_law 23 yy_S_valley bb_S_valley 2 (some (.int)) 0 11 := ⟨⟨(ss_in 423 (by decide +kernel) (by decide +kernel)), (ss_in 1 (by decide +kernel) (by decide +kernel)), (ss_in 420 (by decide +kernel) (by decide +kernel)), by decide +kernel⟩, (ss_in 421 (by decide +kernel) (by decide +kernel)), (ss_in 422 (by decide +kernel) (by decide +kernel)), rfl⟩
theorem km_law_27 : ss_mv R_law 27 yy_M_valley bb_M_valley 2 (some (.int)) 0 12 := ⟨⟨(ss_in 1416 (by decide +kernel) (by decide +kernel)), (ss_in 12 (by decide +kernel) (by decide +kernel)), (ss_in 1413 (by decide +kernel) (by decide +kernel)), by decide +kernel⟩, (ss_in 1414 (by decide +kernel) (by decide +kernel)), (ss_in 1415 (by decide +kernel) (by decide +kernel)), rfl⟩
theorem km_law_28 : ss_mv R_law 28 yy_S_rule bb_S_rule 2 (some (.int)) 0 11 := ⟨⟨(ss_in 590 (by decide +kernel) (by decide +kernel)), (ss_in 1 (by decide +kernel) (by decide +kernel)), (ss_in 587 (by decide +kernel) (by decide +kernel)), by decide +kernel⟩, (ss_in 588 (by decide +kernel) (by decide +kernel)), (ss_in 589 (by decide +kernel) (by decide +kernel)), rfl⟩
theorem km_law_31 : ss_mv R_law 31 yy_M_rule bb_M_rule 1 (some (.int)) 0 12 := ⟨⟨(ss_in 1248 (by decide +kernel) (by decide +kernel)), (ss_in 12 (by decide +kernel) (by decide +kernel)), (ss_in 1245 (by decide +kernel) (by decide +kernel)), by decide +kernel⟩, (ss_in 1246 (by decide +kernel) (by decide +kernel)), (ss_in 1247 (by decide +kernel) (by decide +kernel)), rfl⟩
theorem km_law_32 : ss_mv R_law 32 yy_S_force bb_S_force 3 (some (.int)) 1 11 := ⟨⟨(ss_in 678 (by decide +kernel) (by decide +kernel)), (ss_in 1 (by decide +kernel) (by decide +kernel)), (ss_in 675 (by decide +kernel) (by decide +kernel)), by decide +kernel⟩, (ss_in 676 (by decide +kernel) (by decide +kernel)), (ss_in 677 (by decide +kernel) (by decide +kernel)), rfl⟩
theorem km_law_35 : ss_mv R_law 35 yy_M_force bb_M_force 3 (some (.int)) 1 12 := ⟨⟨(ss_in 1424 (by decide +kernel) (by decide +kernel)), (ss_in 12 (by decide +kernel) (by decide +kernel)), (ss_in 1421 (by decide +kernel) (by decide +kernel)), by decide +kernel⟩, (ss_in 1422 (by decide +kernel) (by decide +kernel)), (ss_in 1423 (by decide +kernel) (by decide +kernel)), rfl⟩
theorem km_law_36 : ss_mv R_law 36 yy_S_step bb_S_step 3 (some (.int)) 2 11 := ⟨⟨(ss_in 682 (by decide +kernel) (by decide +kernel)), (ss_in 1 (by decide +kernel) (by decide +kernel)), (ss_in 679 (by decide +kernel) (by decide +kernel)), by decide +kernel⟩, (ss_in 680 (by decide +kernel) (by decide +kernel)), (ss_in 681 (by decide +kernel) (by decide +kernel)), rfl⟩
theorem km_law_40 : ss_mv R_law 40 yy_M_step bb_M_step 3 (some (.int)) 2 12 := ⟨⟨(ss_in 1432 (by decide +kernel) (by decide +kernel)), (ss_in 12 (by decide +kernel) (by decide +kernel)), (ss_in 1429 (by decide +kernel) (by decide +kernel)), by decide +kernel⟩, (ss_in 1430 (by decide +kernel) (by decide +kernel)), (ss_in 1431 (by decide +kernel) (by decide +kernel)), rfl⟩
theorem km_law_41 : ss_mv R_law 41 yy_S_house bb_S_house 3 (some (.int)) 2 11 := ⟨⟨(ss_in 706 (by decide +kernel) (by decide +kernel)), (ss_in 1 (by decide +kernel) (by decide +kernel)), (ss_in 703 (by decide +kernel) (by decide +kernel)), by decide +kernel⟩, (ss_in 704 (by decide +kernel) (by decide +kernel)), (ss_in 705 (by decide +kernel) (by decide +kernel)), rfl⟩
theorem km_law_44 : ss_mv R_law 44 yy_M_house bb_M_house 3 (some (.int)) 2 12 := ⟨⟨(ss_in 1451 (by decide +kernel) (by decide +kernel)), (ss_in 12 (by decide +kernel) (by decide +kernel)), (ss_in 1448 (by decide +kernel) (by decide +kernel)), by decide +kernel⟩, (ss_in 1449 (by decide +kernel) (by decide +kernel)), (ss_in 1450 (by decide +kernel) (by decide +kernel)), rfl⟩
theorem km_law_45 : ss_mv R_law 45 yy_S_day bb_S_day 2 (some (.int)) 0 11 := ⟨⟨(ss_in 714 (by decide +kernel) (by decide +kernel)), (ss_in 1 (by decide +kernel) (by decide +kernel)), (ss_in 711 (by decide +kernel) (by decide +kernel)), by decide +kernel⟩, (ss_in 712 (by decide +kernel) (by decide +kernel)), (ss_in 713 (by decide +kernel) (by decide +kernel)), rfl⟩
theorem km_law_48 : ss_mv R_law 48 yy_M_day bb_M_day 1 (some (.int)) 0 12 := ⟨⟨(ss_in 1472 (by decide +kernel) (by decide +kernel)), (ss_in 12 (by decide +kernel) (by decide +kernel)), (ss_in 1469 (by decide +kernel) (by decide +kernel)), by decide +kernel⟩, (ss_in 1470 (by decide +kernel) (by decide +kernel)), (ss_in 1471 (by decide +kernel) (by decide +kernel)), rfl⟩
theorem km_law_49 : ss_mv R_law 49 yy_S_sweep bb_S_sweep 4 (some (.int)) 2 11 := ⟨⟨(ss_in 795 (by decide +kernel) (by decide +kernel)), (ss_in 1 (by decide +kernel) (by decide +kernel)), (ss_in 792 (by decide +kernel) (by decide +kernel)), by decide +kernel⟩, (ss_in 793 (by decide +kernel) (by decide +kernel)), (ss_in 794 (by decide +kernel) (by decide +kernel)), rfl⟩
theorem km_law_52 : ss_mv R_law 52 yy_M_sweep bb_M_sweep 3 (some (.int)) 2 12 := ⟨⟨(ss_in 1537 (by decide +kernel) (by decide +kernel)), (ss_in 12 (by decide +kernel) (by decide +kernel)), (ss_in 1534 (by decide +kernel) (by decide +kernel)), by decide +kernel⟩, (ss_in 1535 (by decide +kernel) (by decide +kernel)), (ss_in 1536 (by decide +kernel) (by decide +kernel)), rfl⟩
theorem km_law_53 : ss_mv R_law 53 yy_S_toss bb_S_toss 3 (some (.int)) 2 11 := ⟨⟨(ss_in 804 (by decide +kernel) (by decide +kernel)), (ss_in 1 (by decide +kernel) (by decide +kernel)), (ss_in 801 (by decide +kernel) (by decide +kernel)), by decide +kernel⟩, (ss_in 802 (by decide +kernel) (by decide +kernel)), (ss_in 803 (by decide +kernel) (by decide +kernel)), rfl⟩
theorem km_law_56 : ss_mv R_law 56 yy_M_toss bb_M_toss 3 (some (.int)) 2 12 := ⟨⟨(ss_in 1545 (by decide +kernel) (by decide +kernel)), (ss_in 12 (by decide +kernel) (by decide +kernel)), (ss_in 1542 (by decide +kernel) (by decide +kernel)), by decide +kernel⟩, (ss_in 1543 (by decide +kernel) (by decide +kernel)), (ss_in 1544 (by decide +kernel) (by decide +kernel)), rfl⟩
theorem km_law_57 : ss_mv R_law 57 yy_S_pull bb_S_pull 3 (some (.int)) 1 11 := ⟨⟨(ss_in 812 (by decide +kernel) (by decide +kernel)), (ss_in 1 (by decide +kernel) (by decide +kernel)), (ss_in 809 (by decide +kernel) (by decide +kernel)), by decide +kernel⟩, (ss_in 810 (by decide +kernel) (by decide +kernel)), (ss_in 811 (by decide +kernel) (by decide +kernel)), rfl⟩
theorem km_law_60 : ss_mv R_law 60 yy_M_pull bb_M_pull 3 (some (.int)) 1 12 := ⟨⟨(ss_in 1550 (by decide +kernel) (by decide +kernel)), (ss_in 12 (by decide +kernel) (by decide +kernel)), (ss_in 1547 (by decide +kernel) (by decide +kernel)), by decide +kernel⟩, (ss_in 1548 (by decide +kernel) (by decide +kernel)), (ss_in 1549 (by decide +kernel) (by decide +kernel)), rfl⟩
theorem km_law_61 : ss_mv R_law 61 yy_S_thaw bb_S_thaw 1 (some (.int)) 0 11 := ⟨⟨(ss_in 816 (by decide +kernel) (by decide +kernel)), (ss_in 1 (by decide +kernel) (by decide +kernel)), (ss_in 813 (by decide +kernel) (by decide +kernel)), by decide +kernel⟩, (ss_in 814 (by decide +kernel) (by decide +kernel)), (ss_in 815 (by decide +kernel) (by decide +kernel)), rfl⟩
theorem km_law_64 : ss_mv R_law 64 yy_M_thaw bb_M_thaw 2 (some (.int)) 0 12 := ⟨⟨(ss_in 1554 (by decide +kernel) (by decide +kernel)), (ss_in 12 (by decide +kernel) (by decide +kernel)), (ss_in 1551 (by decide +kernel) (by decide +kernel)), by decide +kernel⟩, (ss_in 1552 (by decide +kernel) (by decide +kernel)), (ss_in 1553 (by decide +kernel) (by decide +kernel)), rfl⟩
theorem km_law_65 : ss_mv R_law 65 yy_S_undo bb_S_undo 1 (some (.int)) 0 11 := ⟨⟨(ss_in 828 (by decide +kernel) (by decide +kernel)), (ss_in 1 (by decide +kernel) (by decide +kernel)), (ss_in 825 (by decide +kernel) (by decide +kernel)), by decide +kernel⟩, (ss_in 826 (by decide +kernel) (by decide +kernel)), (ss_in 827 (by decide +kernel) (by decide +kernel)), rfl⟩
theorem km_law_68 : ss_mv R_law 68 yy_M_undo bb_M_undo 2 (some (.int)) 0 12 := ⟨⟨(ss_in 1468 (by decide +kernel) (by decide +kernel)), (ss_in 12 (by decide +kernel) (by decide +kernel)), (ss_in 1465 (by decide +kernel) (by decide +kernel)), by decide +kernel⟩, (ss_in 1466 (by decide +kernel) (by decide +kernel)), (ss_in 1467 (by decide +kernel) (by decide +kernel)), rfl⟩
theorem km_law_69 : ss_mv R_law 69 yy_S_ahead bb_S_ahead 4 (some (.int)) 3 11 := ⟨⟨(ss_in 836 (by decide +kernel) (by decide +kernel)), (ss_in 1 (by decide +kernel) (by decide +kernel)), (ss_in 833 (by decide +kernel) (by decide +kernel)), by decide +kernel⟩, (ss_in 834 (by decide +kernel) (by decide +kernel)), (ss_in 835 (by decide +kernel) (by decide +kernel)), rfl⟩
theorem km_law_73 : ss_mv R_law 73 yy_M_ahead bb_M_ahead 5 (some (.int)) 3 12 := ⟨⟨(ss_in 1562 (by decide +kernel) (by decide +kernel)), (ss_in 12 (by decide +kernel) (by decide +kernel)), (ss_in 1559 (by decide +kernel) (by decide +kernel)), by decide +kernel⟩, (ss_in 1560 (by decide +kernel) (by decide +kernel)), (ss_in 1561 (by decide +kernel) (by decide +kernel)), rfl⟩
theorem km_law_74 : ss_mv R_law 74 yy_S_stays bb_S_stays 2 (some (.int)) 1 11 := ⟨⟨(ss_in 856 (by decide +kernel) (by decide +kernel)), (ss_in 1 (by decide +kernel) (by decide +kernel)), (ss_in 853 (by decide +kernel) (by decide +kernel)), by decide +kernel⟩, (ss_in 854 (by decide +kernel) (by decide +kernel)), (ss_in 855 (by decide +kernel) (by decide +kernel)), rfl⟩
theorem km_law_77 : ss_mv R_law 77 yy_M_stays bb_M_stays 4 (some (.int)) 1 12 := ⟨⟨(ss_in 1575 (by decide +kernel) (by decide +kernel)), (ss_in 12 (by decide +kernel) (by decide +kernel)), (ss_in 1572 (by decide +kernel) (by decide +kernel)), by decide +kernel⟩, (ss_in 1573 (by decide +kernel) (by decide +kernel)), (ss_in 1574 (by decide +kernel) (by decide +kernel)), rfl⟩
theorem km_law_78 : ss_mv R_law 78 yy_S_closes bb_S_closes 2 (some (.int)) 1 11 := ⟨⟨(ss_in 864 (by decide +kernel) (by decide +kernel)), (ss_in 1 (by decide +kernel) (by decide +kernel)), (ss_in 861 (by decide +kernel) (by decide +kernel)), by decide +kernel⟩, (ss_in 862 (by decide +kernel) (by decide +kernel)), (ss_in 863 (by decide +kernel) (by decide +kernel)), rfl⟩
theorem km_law_81 : ss_mv R_law 81 yy_M_closes1 bb_M_closes1 4 (some (.int)) 1 12 := ⟨⟨(ss_in 1580 (by decide +kernel) (by decide +kernel)), (ss_in 12 (by decide +kernel) (by decide +kernel)), (ss_in 1577 (by decide +kernel) (by decide +kernel)), by decide +kernel⟩, (ss_in 1578 (by decide +kernel) (by decide +kernel)), (ss_in 1579 (by decide +kernel) (by decide +kernel)), rfl⟩
theorem km_law_82 : ss_mv R_law 82 yy_S_ring bb_S_ring 2 (some (.int)) 1 11 := ⟨⟨(ss_in 872 (by decide +kernel) (by decide +kernel)), (ss_in 1 (by decide +kernel) (by decide +kernel)), (ss_in 869 (by decide +kernel) (by decide +kernel)), by decide +kernel⟩, (ss_in 870 (by decide +kernel) (by decide +kernel)), (ss_in 871 (by decide +kernel) (by decide +kernel)), rfl⟩
theorem km_law_85 : ss_mv R_law 85 yy_M_ring bb_M_ring 4 (some (.int)) 1 12 := ⟨⟨(ss_in 1584 (by decide +kernel) (by decide +kernel)), (ss_in 12 (by decide +kernel) (by decide +kernel)), (ss_in 1581 (by decide +kernel) (by decide +kernel)), by decide +kernel⟩, (ss_in 1582 (by decide +kernel) (by decide +kernel)), (ss_in 1583 (by decide +kernel) (by decide +kernel)), rfl⟩
theorem km_law_86 : ss_mv R_law 86 yy_S_spare bb_S_spare 5 (some (.int)) 3 11 := ⟨⟨(ss_in 885 (by decide +kernel) (by decide +kernel)), (ss_in 1 (by decide +kernel) (by decide +kernel)), (ss_in 882 (by decide +kernel) (by decide +kernel)), by decide +kernel⟩, (ss_in 883 (by decide +kernel) (by decide +kernel)), (ss_in 884 (by decide +kernel) (by decide +kernel)), rfl⟩
theorem km_law_89 : ss_mv R_law 89 yy_M_spare bb_M_spare 6 (some (.int)) 3 12 := ⟨⟨(ss_in 1592 (by decide +kernel) (by decide +kernel)), (ss_in 12 (by decide +kernel) (by decide +kernel)), (ss_in 1589 (by decide +kernel) (by decide +kernel)), by decide +kernel⟩, (ss_in 1590 (by decide +kernel) (by decide +kernel)), (ss_in 1591 (by decide +kernel) (by decide +kernel)), rfl⟩
theorem km_law_90 : ss_mv R_law 90 yy_S_figure bb_S_figure 4 (some (.int)) 2 11 := ⟨⟨(ss_in 900 (by decide +kernel) (by decide +kernel)), (ss_in 1 (by decide +kernel) (by decide +kernel)), (ss_in 897 (by decide +kernel) (by decide +kernel)), by decide +kernel⟩, (ss_in 898 (by decide +kernel) (by decide +kernel)), (ss_in 899 (by decide +kernel) (by decide +kernel)), rfl⟩
theorem km_law_93 : ss_mv R_law 93 yy_M_figure bb_M_figure 6 (some (.int)) 2 12 := ⟨⟨(ss_in 1601 (by decide +kernel) (by decide +kernel)), (ss_in 12 (by decide +kernel) (by decide +kernel)), (ss_in 1598 (by decide +kernel) (by decide +kernel)), by decide +kernel⟩, (ss_in 1599 (by decide +kernel) (by decide +kernel)), (ss_in 1600 (by decide +kernel) (by decide +kernel)), rfl⟩
theorem km_law_94 : ss_mv R_law 94 yy_S_way bb_S_way 4 (some (.int)) 3 11 := ⟨⟨(ss_in 912 (by decide +kernel) (by decide +kernel)), (ss_in 1 (by decide +kernel) (by decide +kernel)), (ss_in 909 (by decide +kernel) (by decide +kernel)), by decide +kernel⟩, (ss_in 910 (by decide +kernel) (by decide +kernel)), (ss_in 911 (by decide +kernel) (by decide +kernel)), rfl⟩
theorem km_law_97 : ss_mv R_law 97 yy_M_way bb_M_way 4 (some (.int)) 3 12 := ⟨⟨(ss_in 1609 (by decide +kernel) (by decide +kernel)), (ss_in 12 (by decide +kernel) (by decide +kernel)), (ss_in 1606 (by decide +kernel) (by decide +kernel)), by decide +kernel⟩, (ss_in 1607 (by decide +kernel) (by decide +kernel)), (ss_in 1608 (by decide +kernel) (by decide +kernel)), rfl⟩
theorem km_law_98 : ss_mv R_law 98 yy_S_pacts bb_S_pacts 3 (some (.int)) 2 11 := ⟨⟨(ss_in 939 (by decide +kernel) (by decide +kernel)), (ss_in 1 (by decide +kernel) (by decide +kernel)), (ss_in 936 (by decide +kernel) (by decide +kernel)), by decide +kernel⟩, (ss_in 937 (by decide +kernel) (by decide +kernel)), (ss_in 938 (by decide +kernel) (by decide +kernel)), rfl⟩
theorem km_law_101 : ss_mv R_law 101 yy_M_pacts bb_M_pacts 9 (some (.int)) 2 12 := ⟨⟨(ss_in 1625 (by decide +kernel) (by decide +kernel)), (ss_in 12 (by decide +kernel) (by decide +kernel)), (ss_in 1622 (by decide +kernel) (by decide +kernel)), by decide +kernel⟩, (ss_in 1623 (by decide +kernel) (by decide +kernel)), (ss_in 1624 (by decide +kernel) (by decide +kernel)), rfl⟩
theorem km_law_102 : ss_mv R_law 102 yy_S_thrownOn bb_S_thrownOn 4 (some (.int)) 3 11 := ⟨⟨(ss_in 986 (by decide +kernel) (by decide +kernel)), (ss_in 1 (by decide +kernel) (by decide +kernel)), (ss_in 983 (by decide +kernel) (by decide +kernel)), by decide +kernel⟩, (ss_in 984 (by decide +kernel) (by decide +kernel)), (ss_in 985 (by decide +kernel) (by decide +kernel)), rfl⟩
theorem km_law_105 : ss_mv R_law 105 yy_M_thrownOn bb_M_thrownOn 5 (some (.int)) 3 12 := ⟨⟨(ss_in 1642 (by decide +kernel) (by decide +kernel)), (ss_in 12 (by decide +kernel) (by decide +kernel)), (ss_in 1639 (by decide +kernel) (by decide +kernel)), by decide +kernel⟩, (ss_in 1640 (by decide +kernel) (by decide +kernel)), (ss_in 1641 (by decide +kernel) (by decide +kernel)), rfl⟩
theorem km_law_106 : ss_mv R_law 106 yy_S_best bb_S_best 4 (some (.int)) 3 11 := ⟨⟨(ss_in 991 (by decide +kernel) (by decide +kernel)), (ss_in 1 (by decide +kernel) (by decide +kernel)), (ss_in 988 (by decide +kernel) (by decide +kernel)), by decide +kernel⟩, (ss_in 989 (by decide +kernel) (by decide +kernel)), (ss_in 990 (by decide +kernel) (by decide +kernel)), rfl⟩
theorem km_law_109 : ss_mv R_law 109 yy_M_best bb_M_best 8 (some (.int)) 3 12 := ⟨⟨(ss_in 1646 (by decide +kernel) (by decide +kernel)), (ss_in 12 (by decide +kernel) (by decide +kernel)), (ss_in 1643 (by decide +kernel) (by decide +kernel)), by decide +kernel⟩, (ss_in 1644 (by decide +kernel) (by decide +kernel)), (ss_in 1645 (by decide +kernel) (by decide +kernel)), rfl⟩
theorem km_law_110 : ss_mv R_law 110 yy_S_might bb_S_might 3 (some (.int)) 2 11 := ⟨⟨(ss_in 1004 (by decide +kernel) (by decide +kernel)), (ss_in 1 (by decide +kernel) (by decide +kernel)), (ss_in 1001 (by decide +kernel) (by decide +kernel)), by decide +kernel⟩, (ss_in 1002 (by decide +kernel) (by decide +kernel)), (ss_in 1003 (by decide +kernel) (by decide +kernel)), rfl⟩
theorem km_law_113 : ss_mv R_law 113 yy_M_might bb_M_might 6 (some (.int)) 2 12 := ⟨⟨(ss_in 1654 (by decide +kernel) (by decide +kernel)), (ss_in 12 (by decide +kernel) (by decide +kernel)), (ss_in 1651 (by decide +kernel) (by decide +kernel)), by decide +kernel⟩, (ss_in 1652 (by decide +kernel) (by decide +kernel)), (ss_in 1653 (by decide +kernel) (by decide +kernel)), rfl⟩
theorem km_law_114 : ss_mv R_law 114 yy_S_note bb_S_note 4 (some (.int)) 3 11 := ⟨⟨(ss_in 1016 (by decide +kernel) (by decide +kernel)), (ss_in 1 (by decide +kernel) (by decide +kernel)), (ss_in 1013 (by decide +kernel) (by decide +kernel)), by decide +kernel⟩, (ss_in 1014 (by decide +kernel) (by decide +kernel)), (ss_in 1015 (by decide +kernel) (by decide +kernel)), rfl⟩
theorem km_law_117 : ss_mv R_law 117 yy_M_note bb_M_note 5 (some (.int)) 3 12 := ⟨⟨(ss_in 1662 (by decide +kernel) (by decide +kernel)), (ss_in 12 (by decide +kernel) (by decide +kernel)), (ss_in 1659 (by decide +kernel) (by decide +kernel)), by decide +kernel⟩, (ss_in 1660 (by decide +kernel) (by decide +kernel)), (ss_in 1661 (by decide +kernel) (by decide +kernel)), rfl⟩
theorem km_law_118 : ss_mv R_law 118 yy_S_ruled bb_S_ruled 2 (some (.int)) 1 11 := ⟨⟨(ss_in 1024 (by decide +kernel) (by decide +kernel)), (ss_in 1 (by decide +kernel) (by decide +kernel)), (ss_in 1021 (by decide +kernel) (by decide +kernel)), by decide +kernel⟩, (ss_in 1022 (by decide +kernel) (by decide +kernel)), (ss_in 1023 (by decide +kernel) (by decide +kernel)), rfl⟩
theorem km_law_121 : ss_mv R_law 121 yy_M_ruled bb_M_ruled 5 (some (.int)) 1 12 := ⟨⟨(ss_in 1667 (by decide +kernel) (by decide +kernel)), (ss_in 12 (by decide +kernel) (by decide +kernel)), (ss_in 1664 (by decide +kernel) (by decide +kernel)), by decide +kernel⟩, (ss_in 1665 (by decide +kernel) (by decide +kernel)), (ss_in 1666 (by decide +kernel) (by decide +kernel)), rfl⟩
theorem km_law_122 : ss_mv R_law 122 yy_S_look bb_S_look 3 (some (.int)) 2 11 := ⟨⟨(ss_in 1053 (by decide +kernel) (by decide +kernel)), (ss_in 1 (by decide +kernel) (by decide +kernel)), (ss_in 1050 (by decide +kernel) (by decide +kernel)), by decide +kernel⟩, (ss_in 1051 (by decide +kernel) (by decide +kernel)), (ss_in 1052 (by decide +kernel) (by decide +kernel)), rfl⟩
theorem km_law_125 : ss_mv R_law 125 yy_M_look bb_M_look 7 (some (.int)) 2 12 := ⟨⟨(ss_in 1679 (by decide +kernel) (by decide +kernel)), (ss_in 12 (by decide +kernel) (by decide +kernel)), (ss_in 1676 (by decide +kernel) (by decide +kernel)), by decide +kernel⟩, (ss_in 1677 (by decide +kernel) (by decide +kernel)), (ss_in 1678 (by decide +kernel) (by decide +kernel)), rfl⟩
theorem km_law_126 : ss_mv R_law 126 yy_S_seed bb_S_seed 3 (some (.int)) 1 11 := ⟨⟨(ss_in 1066 (by decide +kernel) (by decide +kernel)), (ss_in 1 (by decide +kernel) (by decide +kernel)), (ss_in 1063 (by decide +kernel) (by decide +kernel)), by decide +kernel⟩, (ss_in 1064 (by decide +kernel) (by decide +kernel)), (ss_in 1065 (by decide +kernel) (by decide +kernel)), rfl⟩
theorem km_law_129 : ss_mv R_law 129 yy_M_seed bb_M_seed 3 (some (.int)) 1 12 := ⟨⟨(ss_in 1687 (by decide +kernel) (by decide +kernel)), (ss_in 12 (by decide +kernel) (by decide +kernel)), (ss_in 1684 (by decide +kernel) (by decide +kernel)), by decide +kernel⟩, (ss_in 1685 (by decide +kernel) (by decide +kernel)), (ss_in 1686 (by decide +kernel) (by decide +kernel)), rfl⟩
theorem km_law_130 : ss_mv R_law 130 yy_S_storms bb_S_storms 5 (some (.int)) 4 11 := ⟨⟨(ss_in 1070 (by decide +kernel) (by decide +kernel)), (ss_in 1 (by decide +kernel) (by decide +kernel)), (ss_in 1067 (by decide +kernel) (by decide +kernel)), by decide +kernel⟩, (ss_in 1068 (by decide +kernel) (by decide +kernel)), (ss_in 1069 (by decide +kernel) (by decide +kernel)), rfl⟩
theorem km_law_134 : ss_mv R_law 134 yy_M_storms bb_M_storms 10 (some (.int)) 4 12 := ⟨⟨(ss_in 1691 (by decide +kernel) (by decide +kernel)), (ss_in 12 (by decide +kernel) (by decide +kernel)), (ss_in 1688 (by decide +kernel) (by decide +kernel)), by decide +kernel⟩, (ss_in 1689 (by decide +kernel) (by decide +kernel)), (ss_in 1690 (by decide +kernel) (by decide +kernel)), rfl⟩
theorem km_law_135 : ss_mv R_law 135 yy_S_count bb_S_count 2 (some (.int)) 1 11 := ⟨⟨(ss_in 1092 (by decide +kernel) (by decide +kernel)), (ss_in 1 (by decide +kernel) (by decide +kernel)), (ss_in 1089 (by decide +kernel) (by decide +kernel)), by decide +kernel⟩, (ss_in 1090 (by decide +kernel) (by decide +kernel)), (ss_in 1091 (by decide +kernel) (by decide +kernel)), rfl⟩
theorem km_law_138 : ss_mv R_law 138 yy_M_count bb_M_count 2 (some (.int)) 1 12 := ⟨⟨(ss_in 1703 (by decide +kernel) (by decide +kernel)), (ss_in 12 (by decide +kernel) (by decide +kernel)), (ss_in 1700 (by decide +kernel) (by decide +kernel)), by decide +kernel⟩, (ss_in 1701 (by decide +kernel) (by decide +kernel)), (ss_in 1702 (by decide +kernel) (by decide +kernel)), rfl⟩
theorem km_law_139 : ss_mv R_law 139 yy_S_image bb_S_image 2 (some (.int)) 1 11 := ⟨⟨(ss_in 1096 (by decide +kernel) (by decide +kernel)), (ss_in 1 (by decide +kernel) (by decide +kernel)), (ss_in 1093 (by decide +kernel) (by decide +kernel)), by decide +kernel⟩, (ss_in 1094 (by decide +kernel) (by decide +kernel)), (ss_in 1095 (by decide +kernel) (by decide +kernel)), rfl⟩
theorem km_law_142 : ss_mv R_law 142 yy_M_image bb_M_image 3 (some (.int)) 1 12 := ⟨⟨(ss_in 1707 (by decide +kernel) (by decide +kernel)), (ss_in 12 (by decide +kernel) (by decide +kernel)), (ss_in 1704 (by decide +kernel) (by decide +kernel)), by decide +kernel⟩, (ss_in 1705 (by decide +kernel) (by decide +kernel)), (ss_in 1706 (by decide +kernel) (by decide +kernel)), rfl⟩
theorem km_law_143 : ss_mv R_law 143 yy_S_back bb_S_back 2 (some (.int)) 1 11 := ⟨⟨(ss_in 1105 (by decide +kernel) (by decide +kernel)), (ss_in 1 (by decide +kernel) (by decide +kernel)), (ss_in 1102 (by decide +kernel) (by decide +kernel)), by decide +kernel⟩, (ss_in 1103 (by decide +kernel) (by decide +kernel)), (ss_in 1104 (by decide +kernel) (by decide +kernel)), rfl⟩
theorem km_law_146 : ss_mv R_law 146 yy_M_back bb_M_back 3 (some (.int)) 1 12 := ⟨⟨(ss_in 1712 (by decide +kernel) (by decide +kernel)), (ss_in 12 (by decide +kernel) (by decide +kernel)), (ss_in 1709 (by decide +kernel) (by decide +kernel)), by decide +kernel⟩, (ss_in 1710 (by decide +kernel) (by decide +kernel)), (ss_in 1711 (by decide +kernel) (by decide +kernel)), rfl⟩
theorem kn_law_7 : ss_nw R_law 7 11 (ss_fs 0 (11, List.replicate 1 0, List.replicate 0 0, List.replicate 10 none)) := ⟨_, _, _, st_11, rfl, si_11, st_11_ok, (ss_in 21 (by decide +kernel) (by decide +kernel)), (ss_in 22 (by decide +kernel) (by decide +kernel)), (ss_in 1 (by decide +kernel) (by decide +kernel)), by decide +kernel⟩
theorem kn_law_10 : ss_nw R_law 10 12 (ss_fs 0 (12, List.replicate 16 0, List.replicate 1 0, List.replicate 23 none)) := ⟨_, _, _, st_12, rfl, si_12, st_12_ok, (ss_in 1106 (by decide +kernel) (by decide +kernel)), (ss_in 1107 (by decide +kernel) (by decide +kernel)), (ss_in 12 (by decide +kernel) (by decide +kernel)), by decide +kernel⟩
theorem dd_law_0 : decode code 0 = .ok (.new 7, 3) := by decide +kernel
theorem dd_law_3 : decode code 3 = .ok (.dup, 1) := by decide +kernel
theorem dd_law_4 : decode code 4 = .ok (.invokespecial 9, 3) := by decide +kernel
theorem dd_law_7 : decode code 7 = .ok (.astore_n 1, 1) := by decide +kernel
theorem dd_law_8 : decode code 8 = .ok (.new 10, 3) := by decide +kernel
theorem dd_law_11 : decode code 11 = .ok (.dup, 1) := by decide +kernel
theorem dd_law_12 : decode code 12 = .ok (.invokespecial 12, 3) := by decide +kernel
theorem dd_law_15 : decode code 15 = .ok (.astore_n 2, 1) := by decide +kernel
theorem dd_law_16 : decode code 16 = .ok (.iconst 0, 1) := by decide +kernel
theorem dd_law_17 : decode code 17 = .ok (.istore_n 3, 1) := by decide +kernel
theorem dd_law_18 : decode code 18 = .ok (.iload_n 3, 1) := by decide +kernel
theorem dd_law_19 : decode code 19 = .ok (.aload_n 0, 1) := by decide +kernel
theorem dd_law_20 : decode code 20 = .ok (.arraylength, 1) := by decide +kernel
theorem dd_law_21 : decode code 21 = .ok (.bipush 6, 2) := by decide +kernel
theorem dd_law_23 : decode code 23 = .ok (.isub, 1) := by decide +kernel
theorem dd_law_24 : decode code 24 = .ok (.if_icmp .gt 1114, 3) := by decide +kernel
theorem dd_law_27 : decode code 27 = .ok (.aload_n 0, 1) := by decide +kernel
theorem dd_law_28 : decode code 28 = .ok (.iload_n 3, 1) := by decide +kernel
theorem dd_law_29 : decode code 29 = .ok (.iaload, 1) := by decide +kernel
theorem dd_law_30 : decode code 30 = .ok (.bipush 31, 2) := by decide +kernel
theorem dd_law_32 : decode code 32 = .ok (.iand, 1) := by decide +kernel
theorem dd_law_33 : decode code 33 = .ok (.tableswitch 1099 0 31 #[143, 206, 229, 242, 255, 278, 311, 344, 357, 390, 423, 446, 459, 472, 515, 538, 561, 584, 627, 660, 703, 736, 779, 822, 855, 898, 921, 954, 977, 1030, 1053, 1076], 143) := by decide +kernel
theorem dd_law_176 : decode code 176 = .ok (.aload_n 1, 1) := by decide +kernel
theorem dd_law_177 : decode code 177 = .ok (.aload_n 0, 1) := by decide +kernel
theorem dd_law_178 : decode code 178 = .ok (.iload_n 3, 1) := by decide +kernel
theorem dd_law_179 : decode code 179 = .ok (.iconst 1, 1) := by decide +kernel
theorem dd_law_180 : decode code 180 = .ok (.iadd, 1) := by decide +kernel
theorem dd_law_181 : decode code 181 = .ok (.iaload, 1) := by decide +kernel
theorem dd_law_182 : decode code 182 = .ok (.aload_n 0, 1) := by decide +kernel
theorem dd_law_183 : decode code 183 = .ok (.iload_n 3, 1) := by decide +kernel
theorem dd_law_184 : decode code 184 = .ok (.iconst 2, 1) := by decide +kernel
theorem dd_law_185 : decode code 185 = .ok (.iadd, 1) := by decide +kernel
theorem dd_law_186 : decode code 186 = .ok (.iaload, 1) := by decide +kernel
theorem dd_law_187 : decode code 187 = .ok (.aload_n 0, 1) := by decide +kernel
theorem dd_law_188 : decode code 188 = .ok (.iload_n 3, 1) := by decide +kernel
theorem dd_law_189 : decode code 189 = .ok (.iconst 3, 1) := by decide +kernel
theorem dd_law_190 : decode code 190 = .ok (.iadd, 1) := by decide +kernel
theorem dd_law_191 : decode code 191 = .ok (.iaload, 1) := by decide +kernel
theorem dd_law_192 : decode code 192 = .ok (.aload_n 0, 1) := by decide +kernel
theorem dd_law_193 : decode code 193 = .ok (.iload_n 3, 1) := by decide +kernel
theorem dd_law_194 : decode code 194 = .ok (.iconst 4, 1) := by decide +kernel
theorem dd_law_195 : decode code 195 = .ok (.iadd, 1) := by decide +kernel
theorem dd_law_196 : decode code 196 = .ok (.iaload, 1) := by decide +kernel
theorem dd_law_197 : decode code 197 = .ok (.aload_n 0, 1) := by decide +kernel
theorem dd_law_198 : decode code 198 = .ok (.iload_n 3, 1) := by decide +kernel
theorem dd_law_199 : decode code 199 = .ok (.iconst 5, 1) := by decide +kernel
theorem dd_law_200 : decode code 200 = .ok (.iadd, 1) := by decide +kernel
theorem dd_law_201 : decode code 201 = .ok (.iaload, 1) := by decide +kernel
theorem dd_law_202 : decode code 202 = .ok (.invokevirtual 13, 3) := by decide +kernel
theorem dd_law_205 : decode code 205 = .ok (.aload_n 2, 1) := by decide +kernel
theorem dd_law_206 : decode code 206 = .ok (.aload_n 0, 1) := by decide +kernel
theorem dd_law_207 : decode code 207 = .ok (.iload_n 3, 1) := by decide +kernel
theorem dd_law_208 : decode code 208 = .ok (.iconst 1, 1) := by decide +kernel
theorem dd_law_209 : decode code 209 = .ok (.iadd, 1) := by decide +kernel
theorem dd_law_210 : decode code 210 = .ok (.iaload, 1) := by decide +kernel
theorem dd_law_211 : decode code 211 = .ok (.aload_n 0, 1) := by decide +kernel
theorem dd_law_212 : decode code 212 = .ok (.iload_n 3, 1) := by decide +kernel
theorem dd_law_213 : decode code 213 = .ok (.iconst 2, 1) := by decide +kernel
theorem dd_law_214 : decode code 214 = .ok (.iadd, 1) := by decide +kernel
theorem dd_law_215 : decode code 215 = .ok (.iaload, 1) := by decide +kernel
theorem dd_law_216 : decode code 216 = .ok (.aload_n 0, 1) := by decide +kernel
theorem dd_law_217 : decode code 217 = .ok (.iload_n 3, 1) := by decide +kernel
theorem dd_law_218 : decode code 218 = .ok (.iconst 3, 1) := by decide +kernel
theorem dd_law_219 : decode code 219 = .ok (.iadd, 1) := by decide +kernel
theorem dd_law_220 : decode code 220 = .ok (.iaload, 1) := by decide +kernel
theorem dd_law_221 : decode code 221 = .ok (.aload_n 0, 1) := by decide +kernel
theorem dd_law_222 : decode code 222 = .ok (.iload_n 3, 1) := by decide +kernel
theorem dd_law_223 : decode code 223 = .ok (.iconst 4, 1) := by decide +kernel
theorem dd_law_224 : decode code 224 = .ok (.iadd, 1) := by decide +kernel
theorem dd_law_225 : decode code 225 = .ok (.iaload, 1) := by decide +kernel
theorem dd_law_226 : decode code 226 = .ok (.aload_n 0, 1) := by decide +kernel
theorem dd_law_227 : decode code 227 = .ok (.iload_n 3, 1) := by decide +kernel
theorem dd_law_228 : decode code 228 = .ok (.iconst 5, 1) := by decide +kernel
theorem dd_law_229 : decode code 229 = .ok (.iadd, 1) := by decide +kernel
theorem dd_law_230 : decode code 230 = .ok (.iaload, 1) := by decide +kernel
theorem dd_law_231 : decode code 231 = .ok (.invokevirtual 17, 3) := by decide +kernel
theorem dd_law_234 : decode code 234 = .ok (.if_icmp .eq 898, 3) := by decide +kernel
theorem dd_law_237 : decode code 237 = .ok (.iconst 0, 1) := by decide +kernel
theorem dd_law_238 : decode code 238 = .ok (.ireturn, 1) := by decide +kernel
theorem dd_law_239 : decode code 239 = .ok (.aload_n 1, 1) := by decide +kernel
theorem dd_law_240 : decode code 240 = .ok (.aload_n 0, 1) := by decide +kernel
theorem dd_law_241 : decode code 241 = .ok (.iload_n 3, 1) := by decide +kernel
theorem dd_law_242 : decode code 242 = .ok (.iconst 1, 1) := by decide +kernel
theorem dd_law_243 : decode code 243 = .ok (.iadd, 1) := by decide +kernel
theorem dd_law_244 : decode code 244 = .ok (.iaload, 1) := by decide +kernel
theorem dd_law_245 : decode code 245 = .ok (.invokevirtual 18, 3) := by decide +kernel
theorem dd_law_248 : decode code 248 = .ok (.aload_n 2, 1) := by decide +kernel
theorem dd_law_249 : decode code 249 = .ok (.aload_n 0, 1) := by decide +kernel
theorem dd_law_250 : decode code 250 = .ok (.iload_n 3, 1) := by decide +kernel
theorem dd_law_251 : decode code 251 = .ok (.iconst 1, 1) := by decide +kernel
theorem dd_law_252 : decode code 252 = .ok (.iadd, 1) := by decide +kernel
theorem dd_law_253 : decode code 253 = .ok (.iaload, 1) := by decide +kernel
theorem dd_law_254 : decode code 254 = .ok (.invokevirtual 22, 3) := by decide +kernel
theorem dd_law_257 : decode code 257 = .ok (.if_icmp .eq 875, 3) := by decide +kernel
theorem dd_law_260 : decode code 260 = .ok (.iconst 0, 1) := by decide +kernel
theorem dd_law_261 : decode code 261 = .ok (.ireturn, 1) := by decide +kernel
theorem dd_law_262 : decode code 262 = .ok (.aload_n 1, 1) := by decide +kernel
theorem dd_law_263 : decode code 263 = .ok (.invokevirtual 23, 3) := by decide +kernel
theorem dd_law_266 : decode code 266 = .ok (.aload_n 2, 1) := by decide +kernel
theorem dd_law_267 : decode code 267 = .ok (.invokevirtual 27, 3) := by decide +kernel
theorem dd_law_270 : decode code 270 = .ok (.if_icmp .eq 862, 3) := by decide +kernel
theorem dd_law_273 : decode code 273 = .ok (.iconst 0, 1) := by decide +kernel
theorem dd_law_274 : decode code 274 = .ok (.ireturn, 1) := by decide +kernel
theorem dd_law_275 : decode code 275 = .ok (.aload_n 1, 1) := by decide +kernel
theorem dd_law_276 : decode code 276 = .ok (.invokevirtual 28, 3) := by decide +kernel
theorem dd_law_279 : decode code 279 = .ok (.aload_n 2, 1) := by decide +kernel
theorem dd_law_280 : decode code 280 = .ok (.invokevirtual 31, 3) := by decide +kernel
theorem dd_law_283 : decode code 283 = .ok (.if_icmp .eq 849, 3) := by decide +kernel
theorem dd_law_286 : decode code 286 = .ok (.iconst 0, 1) := by decide +kernel
theorem dd_law_287 : decode code 287 = .ok (.ireturn, 1) := by decide +kernel
theorem dd_law_288 : decode code 288 = .ok (.aload_n 1, 1) := by decide +kernel
theorem dd_law_289 : decode code 289 = .ok (.aload_n 0, 1) := by decide +kernel
theorem dd_law_290 : decode code 290 = .ok (.iload_n 3, 1) := by decide +kernel
theorem dd_law_291 : decode code 291 = .ok (.iconst 1, 1) := by decide +kernel
theorem dd_law_292 : decode code 292 = .ok (.iadd, 1) := by decide +kernel
theorem dd_law_293 : decode code 293 = .ok (.iaload, 1) := by decide +kernel
theorem dd_law_294 : decode code 294 = .ok (.invokevirtual 32, 3) := by decide +kernel
theorem dd_law_297 : decode code 297 = .ok (.aload_n 2, 1) := by decide +kernel
theorem dd_law_298 : decode code 298 = .ok (.aload_n 0, 1) := by decide +kernel
theorem dd_law_299 : decode code 299 = .ok (.iload_n 3, 1) := by decide +kernel
theorem dd_law_300 : decode code 300 = .ok (.iconst 1, 1) := by decide +kernel
theorem dd_law_301 : decode code 301 = .ok (.iadd, 1) := by decide +kernel
theorem dd_law_302 : decode code 302 = .ok (.iaload, 1) := by decide +kernel
theorem dd_law_303 : decode code 303 = .ok (.invokevirtual 35, 3) := by decide +kernel
theorem dd_law_306 : decode code 306 = .ok (.if_icmp .eq 826, 3) := by decide +kernel
theorem dd_law_309 : decode code 309 = .ok (.iconst 0, 1) := by decide +kernel
theorem dd_law_310 : decode code 310 = .ok (.ireturn, 1) := by decide +kernel
theorem dd_law_311 : decode code 311 = .ok (.aload_n 1, 1) := by decide +kernel
theorem dd_law_312 : decode code 312 = .ok (.aload_n 0, 1) := by decide +kernel
theorem dd_law_313 : decode code 313 = .ok (.iload_n 3, 1) := by decide +kernel
theorem dd_law_314 : decode code 314 = .ok (.iconst 1, 1) := by decide +kernel
theorem dd_law_315 : decode code 315 = .ok (.iadd, 1) := by decide +kernel
theorem dd_law_316 : decode code 316 = .ok (.iaload, 1) := by decide +kernel
theorem dd_law_317 : decode code 317 = .ok (.aload_n 0, 1) := by decide +kernel
theorem dd_law_318 : decode code 318 = .ok (.iload_n 3, 1) := by decide +kernel
theorem dd_law_319 : decode code 319 = .ok (.iconst 2, 1) := by decide +kernel
theorem dd_law_320 : decode code 320 = .ok (.iadd, 1) := by decide +kernel
theorem dd_law_321 : decode code 321 = .ok (.iaload, 1) := by decide +kernel
theorem dd_law_322 : decode code 322 = .ok (.invokevirtual 36, 3) := by decide +kernel
theorem dd_law_325 : decode code 325 = .ok (.aload_n 2, 1) := by decide +kernel
theorem dd_law_326 : decode code 326 = .ok (.aload_n 0, 1) := by decide +kernel
theorem dd_law_327 : decode code 327 = .ok (.iload_n 3, 1) := by decide +kernel
theorem dd_law_328 : decode code 328 = .ok (.iconst 1, 1) := by decide +kernel
theorem dd_law_329 : decode code 329 = .ok (.iadd, 1) := by decide +kernel
theorem dd_law_330 : decode code 330 = .ok (.iaload, 1) := by decide +kernel
theorem dd_law_331 : decode code 331 = .ok (.aload_n 0, 1) := by decide +kernel
theorem dd_law_332 : decode code 332 = .ok (.iload_n 3, 1) := by decide +kernel
theorem dd_law_333 : decode code 333 = .ok (.iconst 2, 1) := by decide +kernel
theorem dd_law_334 : decode code 334 = .ok (.iadd, 1) := by decide +kernel
theorem dd_law_335 : decode code 335 = .ok (.iaload, 1) := by decide +kernel
theorem dd_law_336 : decode code 336 = .ok (.invokevirtual 40, 3) := by decide +kernel
theorem dd_law_339 : decode code 339 = .ok (.if_icmp .eq 793, 3) := by decide +kernel
theorem dd_law_342 : decode code 342 = .ok (.iconst 0, 1) := by decide +kernel
theorem dd_law_343 : decode code 343 = .ok (.ireturn, 1) := by decide +kernel
theorem dd_law_344 : decode code 344 = .ok (.aload_n 1, 1) := by decide +kernel
theorem dd_law_345 : decode code 345 = .ok (.aload_n 0, 1) := by decide +kernel
theorem dd_law_346 : decode code 346 = .ok (.iload_n 3, 1) := by decide +kernel
theorem dd_law_347 : decode code 347 = .ok (.iconst 1, 1) := by decide +kernel
theorem dd_law_348 : decode code 348 = .ok (.iadd, 1) := by decide +kernel
theorem dd_law_349 : decode code 349 = .ok (.iaload, 1) := by decide +kernel
theorem dd_law_350 : decode code 350 = .ok (.aload_n 0, 1) := by decide +kernel
theorem dd_law_351 : decode code 351 = .ok (.iload_n 3, 1) := by decide +kernel
theorem dd_law_352 : decode code 352 = .ok (.iconst 2, 1) := by decide +kernel
theorem dd_law_353 : decode code 353 = .ok (.iadd, 1) := by decide +kernel
theorem dd_law_354 : decode code 354 = .ok (.iaload, 1) := by decide +kernel
theorem dd_law_355 : decode code 355 = .ok (.invokevirtual 41, 3) := by decide +kernel
theorem dd_law_358 : decode code 358 = .ok (.aload_n 2, 1) := by decide +kernel
theorem dd_law_359 : decode code 359 = .ok (.aload_n 0, 1) := by decide +kernel
theorem dd_law_360 : decode code 360 = .ok (.iload_n 3, 1) := by decide +kernel
theorem dd_law_361 : decode code 361 = .ok (.iconst 1, 1) := by decide +kernel
theorem dd_law_362 : decode code 362 = .ok (.iadd, 1) := by decide +kernel
theorem dd_law_363 : decode code 363 = .ok (.iaload, 1) := by decide +kernel
theorem dd_law_364 : decode code 364 = .ok (.aload_n 0, 1) := by decide +kernel
theorem dd_law_365 : decode code 365 = .ok (.iload_n 3, 1) := by decide +kernel
theorem dd_law_366 : decode code 366 = .ok (.iconst 2, 1) := by decide +kernel
theorem dd_law_367 : decode code 367 = .ok (.iadd, 1) := by decide +kernel
theorem dd_law_368 : decode code 368 = .ok (.iaload, 1) := by decide +kernel
theorem dd_law_369 : decode code 369 = .ok (.invokevirtual 44, 3) := by decide +kernel
theorem dd_law_372 : decode code 372 = .ok (.if_icmp .eq 760, 3) := by decide +kernel
theorem dd_law_375 : decode code 375 = .ok (.iconst 0, 1) := by decide +kernel
theorem dd_law_376 : decode code 376 = .ok (.ireturn, 1) := by decide +kernel
theorem dd_law_377 : decode code 377 = .ok (.aload_n 1, 1) := by decide +kernel
theorem dd_law_378 : decode code 378 = .ok (.invokevirtual 45, 3) := by decide +kernel
theorem dd_law_381 : decode code 381 = .ok (.aload_n 2, 1) := by decide +kernel
theorem dd_law_382 : decode code 382 = .ok (.invokevirtual 48, 3) := by decide +kernel
theorem dd_law_385 : decode code 385 = .ok (.if_icmp .eq 747, 3) := by decide +kernel
theorem dd_law_388 : decode code 388 = .ok (.iconst 0, 1) := by decide +kernel
theorem dd_law_389 : decode code 389 = .ok (.ireturn, 1) := by decide +kernel
theorem dd_law_390 : decode code 390 = .ok (.aload_n 1, 1) := by decide +kernel
theorem dd_law_391 : decode code 391 = .ok (.aload_n 0, 1) := by decide +kernel
theorem dd_law_392 : decode code 392 = .ok (.iload_n 3, 1) := by decide +kernel
theorem dd_law_393 : decode code 393 = .ok (.iconst 1, 1) := by decide +kernel
theorem dd_law_394 : decode code 394 = .ok (.iadd, 1) := by decide +kernel
theorem dd_law_395 : decode code 395 = .ok (.iaload, 1) := by decide +kernel
theorem dd_law_396 : decode code 396 = .ok (.aload_n 0, 1) := by decide +kernel
theorem dd_law_397 : decode code 397 = .ok (.iload_n 3, 1) := by decide +kernel
theorem dd_law_398 : decode code 398 = .ok (.iconst 2, 1) := by decide +kernel
theorem dd_law_399 : decode code 399 = .ok (.iadd, 1) := by decide +kernel
theorem dd_law_400 : decode code 400 = .ok (.iaload, 1) := by decide +kernel
theorem dd_law_401 : decode code 401 = .ok (.invokevirtual 49, 3) := by decide +kernel
theorem dd_law_404 : decode code 404 = .ok (.aload_n 2, 1) := by decide +kernel
theorem dd_law_405 : decode code 405 = .ok (.aload_n 0, 1) := by decide +kernel
theorem dd_law_406 : decode code 406 = .ok (.iload_n 3, 1) := by decide +kernel
theorem dd_law_407 : decode code 407 = .ok (.iconst 1, 1) := by decide +kernel
theorem dd_law_408 : decode code 408 = .ok (.iadd, 1) := by decide +kernel
theorem dd_law_409 : decode code 409 = .ok (.iaload, 1) := by decide +kernel
theorem dd_law_410 : decode code 410 = .ok (.aload_n 0, 1) := by decide +kernel
theorem dd_law_411 : decode code 411 = .ok (.iload_n 3, 1) := by decide +kernel
theorem dd_law_412 : decode code 412 = .ok (.iconst 2, 1) := by decide +kernel
theorem dd_law_413 : decode code 413 = .ok (.iadd, 1) := by decide +kernel
theorem dd_law_414 : decode code 414 = .ok (.iaload, 1) := by decide +kernel
theorem dd_law_415 : decode code 415 = .ok (.invokevirtual 52, 3) := by decide +kernel
theorem dd_law_418 : decode code 418 = .ok (.if_icmp .eq 714, 3) := by decide +kernel
theorem dd_law_421 : decode code 421 = .ok (.iconst 0, 1) := by decide +kernel
theorem dd_law_422 : decode code 422 = .ok (.ireturn, 1) := by decide +kernel
theorem dd_law_423 : decode code 423 = .ok (.aload_n 1, 1) := by decide +kernel
theorem dd_law_424 : decode code 424 = .ok (.aload_n 0, 1) := by decide +kernel
theorem dd_law_425 : decode code 425 = .ok (.iload_n 3, 1) := by decide +kernel
theorem dd_law_426 : decode code 426 = .ok (.iconst 1, 1) := by decide +kernel
theorem dd_law_427 : decode code 427 = .ok (.iadd, 1) := by decide +kernel
theorem dd_law_428 : decode code 428 = .ok (.iaload, 1) := by decide +kernel
theorem dd_law_429 : decode code 429 = .ok (.aload_n 0, 1) := by decide +kernel
theorem dd_law_430 : decode code 430 = .ok (.iload_n 3, 1) := by decide +kernel
theorem dd_law_431 : decode code 431 = .ok (.iconst 2, 1) := by decide +kernel
theorem dd_law_432 : decode code 432 = .ok (.iadd, 1) := by decide +kernel
theorem dd_law_433 : decode code 433 = .ok (.iaload, 1) := by decide +kernel
theorem dd_law_434 : decode code 434 = .ok (.invokevirtual 53, 3) := by decide +kernel
theorem dd_law_437 : decode code 437 = .ok (.aload_n 2, 1) := by decide +kernel
theorem dd_law_438 : decode code 438 = .ok (.aload_n 0, 1) := by decide +kernel
theorem dd_law_439 : decode code 439 = .ok (.iload_n 3, 1) := by decide +kernel
theorem dd_law_440 : decode code 440 = .ok (.iconst 1, 1) := by decide +kernel
theorem dd_law_441 : decode code 441 = .ok (.iadd, 1) := by decide +kernel
theorem dd_law_442 : decode code 442 = .ok (.iaload, 1) := by decide +kernel
theorem dd_law_443 : decode code 443 = .ok (.aload_n 0, 1) := by decide +kernel
theorem dd_law_444 : decode code 444 = .ok (.iload_n 3, 1) := by decide +kernel
theorem dd_law_445 : decode code 445 = .ok (.iconst 2, 1) := by decide +kernel
theorem dd_law_446 : decode code 446 = .ok (.iadd, 1) := by decide +kernel
theorem dd_law_447 : decode code 447 = .ok (.iaload, 1) := by decide +kernel
theorem dd_law_448 : decode code 448 = .ok (.invokevirtual 56, 3) := by decide +kernel
theorem dd_law_451 : decode code 451 = .ok (.if_icmp .eq 681, 3) := by decide +kernel
theorem dd_law_454 : decode code 454 = .ok (.iconst 0, 1) := by decide +kernel
theorem dd_law_455 : decode code 455 = .ok (.ireturn, 1) := by decide +kernel
theorem dd_law_456 : decode code 456 = .ok (.aload_n 1, 1) := by decide +kernel
theorem dd_law_457 : decode code 457 = .ok (.aload_n 0, 1) := by decide +kernel
theorem dd_law_458 : decode code 458 = .ok (.iload_n 3, 1) := by decide +kernel
theorem dd_law_459 : decode code 459 = .ok (.iconst 1, 1) := by decide +kernel
theorem dd_law_460 : decode code 460 = .ok (.iadd, 1) := by decide +kernel
theorem dd_law_461 : decode code 461 = .ok (.iaload, 1) := by decide +kernel
theorem dd_law_462 : decode code 462 = .ok (.invokevirtual 57, 3) := by decide +kernel
theorem dd_law_465 : decode code 465 = .ok (.aload_n 2, 1) := by decide +kernel
theorem dd_law_466 : decode code 466 = .ok (.aload_n 0, 1) := by decide +kernel
theorem dd_law_467 : decode code 467 = .ok (.iload_n 3, 1) := by decide +kernel
theorem dd_law_468 : decode code 468 = .ok (.iconst 1, 1) := by decide +kernel
theorem dd_law_469 : decode code 469 = .ok (.iadd, 1) := by decide +kernel
theorem dd_law_470 : decode code 470 = .ok (.iaload, 1) := by decide +kernel
theorem dd_law_471 : decode code 471 = .ok (.invokevirtual 60, 3) := by decide +kernel
theorem dd_law_474 : decode code 474 = .ok (.if_icmp .eq 658, 3) := by decide +kernel
theorem dd_law_477 : decode code 477 = .ok (.iconst 0, 1) := by decide +kernel
theorem dd_law_478 : decode code 478 = .ok (.ireturn, 1) := by decide +kernel
theorem dd_law_479 : decode code 479 = .ok (.aload_n 1, 1) := by decide +kernel
theorem dd_law_480 : decode code 480 = .ok (.invokevirtual 61, 3) := by decide +kernel
theorem dd_law_483 : decode code 483 = .ok (.aload_n 2, 1) := by decide +kernel
theorem dd_law_484 : decode code 484 = .ok (.invokevirtual 64, 3) := by decide +kernel
theorem dd_law_487 : decode code 487 = .ok (.if_icmp .eq 645, 3) := by decide +kernel
theorem dd_law_490 : decode code 490 = .ok (.iconst 0, 1) := by decide +kernel
theorem dd_law_491 : decode code 491 = .ok (.ireturn, 1) := by decide +kernel
theorem dd_law_492 : decode code 492 = .ok (.aload_n 1, 1) := by decide +kernel
theorem dd_law_493 : decode code 493 = .ok (.invokevirtual 65, 3) := by decide +kernel
theorem dd_law_496 : decode code 496 = .ok (.aload_n 2, 1) := by decide +kernel
theorem dd_law_497 : decode code 497 = .ok (.invokevirtual 68, 3) := by decide +kernel
theorem dd_law_500 : decode code 500 = .ok (.if_icmp .eq 632, 3) := by decide +kernel
theorem dd_law_503 : decode code 503 = .ok (.iconst 0, 1) := by decide +kernel
theorem dd_law_504 : decode code 504 = .ok (.ireturn, 1) := by decide +kernel
theorem dd_law_505 : decode code 505 = .ok (.aload_n 1, 1) := by decide +kernel
theorem dd_law_506 : decode code 506 = .ok (.aload_n 0, 1) := by decide +kernel
theorem dd_law_507 : decode code 507 = .ok (.iload_n 3, 1) := by decide +kernel
theorem dd_law_508 : decode code 508 = .ok (.iconst 1, 1) := by decide +kernel
theorem dd_law_509 : decode code 509 = .ok (.iadd, 1) := by decide +kernel
theorem dd_law_510 : decode code 510 = .ok (.iaload, 1) := by decide +kernel
theorem dd_law_511 : decode code 511 = .ok (.aload_n 0, 1) := by decide +kernel
theorem dd_law_512 : decode code 512 = .ok (.iload_n 3, 1) := by decide +kernel
theorem dd_law_513 : decode code 513 = .ok (.iconst 2, 1) := by decide +kernel
theorem dd_law_514 : decode code 514 = .ok (.iadd, 1) := by decide +kernel
theorem dd_law_515 : decode code 515 = .ok (.iaload, 1) := by decide +kernel
theorem dd_law_516 : decode code 516 = .ok (.aload_n 0, 1) := by decide +kernel
theorem dd_law_517 : decode code 517 = .ok (.iload_n 3, 1) := by decide +kernel
theorem dd_law_518 : decode code 518 = .ok (.iconst 3, 1) := by decide +kernel
theorem dd_law_519 : decode code 519 = .ok (.iadd, 1) := by decide +kernel
theorem dd_law_520 : decode code 520 = .ok (.iaload, 1) := by decide +kernel
theorem dd_law_521 : decode code 521 = .ok (.invokevirtual 69, 3) := by decide +kernel
theorem dd_law_524 : decode code 524 = .ok (.aload_n 2, 1) := by decide +kernel
theorem dd_law_525 : decode code 525 = .ok (.aload_n 0, 1) := by decide +kernel
theorem dd_law_526 : decode code 526 = .ok (.iload_n 3, 1) := by decide +kernel
theorem dd_law_527 : decode code 527 = .ok (.iconst 1, 1) := by decide +kernel
theorem dd_law_528 : decode code 528 = .ok (.iadd, 1) := by decide +kernel
theorem dd_law_529 : decode code 529 = .ok (.iaload, 1) := by decide +kernel
theorem dd_law_530 : decode code 530 = .ok (.aload_n 0, 1) := by decide +kernel
theorem dd_law_531 : decode code 531 = .ok (.iload_n 3, 1) := by decide +kernel
theorem dd_law_532 : decode code 532 = .ok (.iconst 2, 1) := by decide +kernel
theorem dd_law_533 : decode code 533 = .ok (.iadd, 1) := by decide +kernel
theorem dd_law_534 : decode code 534 = .ok (.iaload, 1) := by decide +kernel
theorem dd_law_535 : decode code 535 = .ok (.aload_n 0, 1) := by decide +kernel
theorem dd_law_536 : decode code 536 = .ok (.iload_n 3, 1) := by decide +kernel
theorem dd_law_537 : decode code 537 = .ok (.iconst 3, 1) := by decide +kernel
theorem dd_law_538 : decode code 538 = .ok (.iadd, 1) := by decide +kernel
theorem dd_law_539 : decode code 539 = .ok (.iaload, 1) := by decide +kernel
theorem dd_law_540 : decode code 540 = .ok (.invokevirtual 73, 3) := by decide +kernel
theorem dd_law_543 : decode code 543 = .ok (.if_icmp .eq 589, 3) := by decide +kernel
theorem dd_law_546 : decode code 546 = .ok (.iconst 0, 1) := by decide +kernel
theorem dd_law_547 : decode code 547 = .ok (.ireturn, 1) := by decide +kernel
theorem dd_law_548 : decode code 548 = .ok (.aload_n 1, 1) := by decide +kernel
theorem dd_law_549 : decode code 549 = .ok (.aload_n 0, 1) := by decide +kernel
theorem dd_law_550 : decode code 550 = .ok (.iload_n 3, 1) := by decide +kernel
theorem dd_law_551 : decode code 551 = .ok (.iconst 1, 1) := by decide +kernel
theorem dd_law_552 : decode code 552 = .ok (.iadd, 1) := by decide +kernel
theorem dd_law_553 : decode code 553 = .ok (.iaload, 1) := by decide +kernel
theorem dd_law_554 : decode code 554 = .ok (.invokevirtual 74, 3) := by decide +kernel
theorem dd_law_557 : decode code 557 = .ok (.aload_n 2, 1) := by decide +kernel
theorem dd_law_558 : decode code 558 = .ok (.aload_n 0, 1) := by decide +kernel
theorem dd_law_559 : decode code 559 = .ok (.iload_n 3, 1) := by decide +kernel
theorem dd_law_560 : decode code 560 = .ok (.iconst 1, 1) := by decide +kernel
theorem dd_law_561 : decode code 561 = .ok (.iadd, 1) := by decide +kernel
theorem dd_law_562 : decode code 562 = .ok (.iaload, 1) := by decide +kernel
theorem dd_law_563 : decode code 563 = .ok (.invokevirtual 77, 3) := by decide +kernel
theorem dd_law_566 : decode code 566 = .ok (.if_icmp .eq 566, 3) := by decide +kernel
theorem dd_law_569 : decode code 569 = .ok (.iconst 0, 1) := by decide +kernel
theorem dd_law_570 : decode code 570 = .ok (.ireturn, 1) := by decide +kernel
theorem dd_law_571 : decode code 571 = .ok (.aload_n 1, 1) := by decide +kernel
theorem dd_law_572 : decode code 572 = .ok (.aload_n 0, 1) := by decide +kernel
theorem dd_law_573 : decode code 573 = .ok (.iload_n 3, 1) := by decide +kernel
theorem dd_law_574 : decode code 574 = .ok (.iconst 1, 1) := by decide +kernel
theorem dd_law_575 : decode code 575 = .ok (.iadd, 1) := by decide +kernel
theorem dd_law_576 : decode code 576 = .ok (.iaload, 1) := by decide +kernel
theorem dd_law_577 : decode code 577 = .ok (.invokevirtual 78, 3) := by decide +kernel
theorem dd_law_580 : decode code 580 = .ok (.aload_n 2, 1) := by decide +kernel
theorem dd_law_581 : decode code 581 = .ok (.aload_n 0, 1) := by decide +kernel
theorem dd_law_582 : decode code 582 = .ok (.iload_n 3, 1) := by decide +kernel
theorem dd_law_583 : decode code 583 = .ok (.iconst 1, 1) := by decide +kernel
theorem dd_law_584 : decode code 584 = .ok (.iadd, 1) := by decide +kernel
theorem dd_law_585 : decode code 585 = .ok (.iaload, 1) := by decide +kernel
theorem dd_law_586 : decode code 586 = .ok (.invokevirtual 81, 3) := by decide +kernel
theorem dd_law_589 : decode code 589 = .ok (.if_icmp .eq 543, 3) := by decide +kernel
theorem dd_law_592 : decode code 592 = .ok (.iconst 0, 1) := by decide +kernel
theorem dd_law_593 : decode code 593 = .ok (.ireturn, 1) := by decide +kernel
theorem dd_law_594 : decode code 594 = .ok (.aload_n 1, 1) := by decide +kernel
theorem dd_law_595 : decode code 595 = .ok (.aload_n 0, 1) := by decide +kernel
theorem dd_law_596 : decode code 596 = .ok (.iload_n 3, 1) := by decide +kernel
theorem dd_law_597 : decode code 597 = .ok (.iconst 1, 1) := by decide +kernel
theorem dd_law_598 : decode code 598 = .ok (.iadd, 1) := by decide +kernel
theorem dd_law_599 : decode code 599 = .ok (.iaload, 1) := by decide +kernel
theorem dd_law_600 : decode code 600 = .ok (.invokevirtual 82, 3) := by decide +kernel
theorem dd_law_603 : decode code 603 = .ok (.aload_n 2, 1) := by decide +kernel
theorem dd_law_604 : decode code 604 = .ok (.aload_n 0, 1) := by decide +kernel
theorem dd_law_605 : decode code 605 = .ok (.iload_n 3, 1) := by decide +kernel
theorem dd_law_606 : decode code 606 = .ok (.iconst 1, 1) := by decide +kernel
theorem dd_law_607 : decode code 607 = .ok (.iadd, 1) := by decide +kernel
theorem dd_law_608 : decode code 608 = .ok (.iaload, 1) := by decide +kernel
theorem dd_law_609 : decode code 609 = .ok (.invokevirtual 85, 3) := by decide +kernel
theorem dd_law_612 : decode code 612 = .ok (.if_icmp .eq 520, 3) := by decide +kernel
theorem dd_law_615 : decode code 615 = .ok (.iconst 0, 1) := by decide +kernel
theorem dd_law_616 : decode code 616 = .ok (.ireturn, 1) := by decide +kernel
theorem dd_law_617 : decode code 617 = .ok (.aload_n 1, 1) := by decide +kernel
theorem dd_law_618 : decode code 618 = .ok (.aload_n 0, 1) := by decide +kernel
theorem dd_law_619 : decode code 619 = .ok (.iload_n 3, 1) := by decide +kernel
theorem dd_law_620 : decode code 620 = .ok (.iconst 1, 1) := by decide +kernel
theorem dd_law_621 : decode code 621 = .ok (.iadd, 1) := by decide +kernel
theorem dd_law_622 : decode code 622 = .ok (.iaload, 1) := by decide +kernel
theorem dd_law_623 : decode code 623 = .ok (.aload_n 0, 1) := by decide +kernel
theorem dd_law_624 : decode code 624 = .ok (.iload_n 3, 1) := by decide +kernel
theorem dd_law_625 : decode code 625 = .ok (.iconst 2, 1) := by decide +kernel
theorem dd_law_626 : decode code 626 = .ok (.iadd, 1) := by decide +kernel
theorem dd_law_627 : decode code 627 = .ok (.iaload, 1) := by decide +kernel
theorem dd_law_628 : decode code 628 = .ok (.aload_n 0, 1) := by decide +kernel
theorem dd_law_629 : decode code 629 = .ok (.iload_n 3, 1) := by decide +kernel
theorem dd_law_630 : decode code 630 = .ok (.iconst 3, 1) := by decide +kernel
theorem dd_law_631 : decode code 631 = .ok (.iadd, 1) := by decide +kernel
theorem dd_law_632 : decode code 632 = .ok (.iaload, 1) := by decide +kernel
theorem dd_law_633 : decode code 633 = .ok (.invokevirtual 86, 3) := by decide +kernel
theorem dd_law_636 : decode code 636 = .ok (.aload_n 2, 1) := by decide +kernel
theorem dd_law_637 : decode code 637 = .ok (.aload_n 0, 1) := by decide +kernel
theorem dd_law_638 : decode code 638 = .ok (.iload_n 3, 1) := by decide +kernel
theorem dd_law_639 : decode code 639 = .ok (.iconst 1, 1) := by decide +kernel
theorem dd_law_640 : decode code 640 = .ok (.iadd, 1) := by decide +kernel
theorem dd_law_641 : decode code 641 = .ok (.iaload, 1) := by decide +kernel
theorem dd_law_642 : decode code 642 = .ok (.aload_n 0, 1) := by decide +kernel
theorem dd_law_643 : decode code 643 = .ok (.iload_n 3, 1) := by decide +kernel
theorem dd_law_644 : decode code 644 = .ok (.iconst 2, 1) := by decide +kernel
theorem dd_law_645 : decode code 645 = .ok (.iadd, 1) := by decide +kernel
theorem dd_law_646 : decode code 646 = .ok (.iaload, 1) := by decide +kernel
theorem dd_law_647 : decode code 647 = .ok (.aload_n 0, 1) := by decide +kernel
theorem dd_law_648 : decode code 648 = .ok (.iload_n 3, 1) := by decide +kernel
theorem dd_law_649 : decode code 649 = .ok (.iconst 3, 1) := by decide +kernel
theorem dd_law_650 : decode code 650 = .ok (.iadd, 1) := by decide +kernel
theorem dd_law_651 : decode code 651 = .ok (.iaload, 1) := by decide +kernel
theorem dd_law_652 : decode code 652 = .ok (.invokevirtual 89, 3) := by decide +kernel
theorem dd_law_655 : decode code 655 = .ok (.if_icmp .eq 477, 3) := by decide +kernel
theorem dd_law_658 : decode code 658 = .ok (.iconst 0, 1) := by decide +kernel
theorem dd_law_659 : decode code 659 = .ok (.ireturn, 1) := by decide +kernel
theorem dd_law_660 : decode code 660 = .ok (.aload_n 1, 1) := by decide +kernel
theorem dd_law_661 : decode code 661 = .ok (.aload_n 0, 1) := by decide +kernel
theorem dd_law_662 : decode code 662 = .ok (.iload_n 3, 1) := by decide +kernel
theorem dd_law_663 : decode code 663 = .ok (.iconst 1, 1) := by decide +kernel
theorem dd_law_664 : decode code 664 = .ok (.iadd, 1) := by decide +kernel
theorem dd_law_665 : decode code 665 = .ok (.iaload, 1) := by decide +kernel
theorem dd_law_666 : decode code 666 = .ok (.aload_n 0, 1) := by decide +kernel
theorem dd_law_667 : decode code 667 = .ok (.iload_n 3, 1) := by decide +kernel
theorem dd_law_668 : decode code 668 = .ok (.iconst 2, 1) := by decide +kernel
theorem dd_law_669 : decode code 669 = .ok (.iadd, 1) := by decide +kernel
theorem dd_law_670 : decode code 670 = .ok (.iaload, 1) := by decide +kernel
theorem dd_law_671 : decode code 671 = .ok (.invokevirtual 90, 3) := by decide +kernel
theorem dd_law_674 : decode code 674 = .ok (.aload_n 2, 1) := by decide +kernel
theorem dd_law_675 : decode code 675 = .ok (.aload_n 0, 1) := by decide +kernel
theorem dd_law_676 : decode code 676 = .ok (.iload_n 3, 1) := by decide +kernel
theorem dd_law_677 : decode code 677 = .ok (.iconst 1, 1) := by decide +kernel
theorem dd_law_678 : decode code 678 = .ok (.iadd, 1) := by decide +kernel
theorem dd_law_679 : decode code 679 = .ok (.iaload, 1) := by decide +kernel
theorem dd_law_680 : decode code 680 = .ok (.aload_n 0, 1) := by decide +kernel
theorem dd_law_681 : decode code 681 = .ok (.iload_n 3, 1) := by decide +kernel
theorem dd_law_682 : decode code 682 = .ok (.iconst 2, 1) := by decide +kernel
theorem dd_law_683 : decode code 683 = .ok (.iadd, 1) := by decide +kernel
theorem dd_law_684 : decode code 684 = .ok (.iaload, 1) := by decide +kernel
theorem dd_law_685 : decode code 685 = .ok (.invokevirtual 93, 3) := by decide +kernel
theorem dd_law_688 : decode code 688 = .ok (.if_icmp .eq 444, 3) := by decide +kernel
theorem dd_law_691 : decode code 691 = .ok (.iconst 0, 1) := by decide +kernel
theorem dd_law_692 : decode code 692 = .ok (.ireturn, 1) := by decide +kernel
theorem dd_law_693 : decode code 693 = .ok (.aload_n 1, 1) := by decide +kernel
theorem dd_law_694 : decode code 694 = .ok (.aload_n 0, 1) := by decide +kernel
theorem dd_law_695 : decode code 695 = .ok (.iload_n 3, 1) := by decide +kernel
theorem dd_law_696 : decode code 696 = .ok (.iconst 1, 1) := by decide +kernel
theorem dd_law_697 : decode code 697 = .ok (.iadd, 1) := by decide +kernel
theorem dd_law_698 : decode code 698 = .ok (.iaload, 1) := by decide +kernel
theorem dd_law_699 : decode code 699 = .ok (.aload_n 0, 1) := by decide +kernel
theorem dd_law_700 : decode code 700 = .ok (.iload_n 3, 1) := by decide +kernel
theorem dd_law_701 : decode code 701 = .ok (.iconst 2, 1) := by decide +kernel
theorem dd_law_702 : decode code 702 = .ok (.iadd, 1) := by decide +kernel
theorem dd_law_703 : decode code 703 = .ok (.iaload, 1) := by decide +kernel
theorem dd_law_704 : decode code 704 = .ok (.aload_n 0, 1) := by decide +kernel
theorem dd_law_705 : decode code 705 = .ok (.iload_n 3, 1) := by decide +kernel
theorem dd_law_706 : decode code 706 = .ok (.iconst 3, 1) := by decide +kernel
theorem dd_law_707 : decode code 707 = .ok (.iadd, 1) := by decide +kernel
theorem dd_law_708 : decode code 708 = .ok (.iaload, 1) := by decide +kernel
theorem dd_law_709 : decode code 709 = .ok (.invokevirtual 94, 3) := by decide +kernel
theorem dd_law_712 : decode code 712 = .ok (.aload_n 2, 1) := by decide +kernel
theorem dd_law_713 : decode code 713 = .ok (.aload_n 0, 1) := by decide +kernel
theorem dd_law_714 : decode code 714 = .ok (.iload_n 3, 1) := by decide +kernel
theorem dd_law_715 : decode code 715 = .ok (.iconst 1, 1) := by decide +kernel
theorem dd_law_716 : decode code 716 = .ok (.iadd, 1) := by decide +kernel
theorem dd_law_717 : decode code 717 = .ok (.iaload, 1) := by decide +kernel
theorem dd_law_718 : decode code 718 = .ok (.aload_n 0, 1) := by decide +kernel
theorem dd_law_719 : decode code 719 = .ok (.iload_n 3, 1) := by decide +kernel
theorem dd_law_720 : decode code 720 = .ok (.iconst 2, 1) := by decide +kernel
theorem dd_law_721 : decode code 721 = .ok (.iadd, 1) := by decide +kernel
theorem dd_law_722 : decode code 722 = .ok (.iaload, 1) := by decide +kernel
theorem dd_law_723 : decode code 723 = .ok (.aload_n 0, 1) := by decide +kernel
theorem dd_law_724 : decode code 724 = .ok (.iload_n 3, 1) := by decide +kernel
theorem dd_law_725 : decode code 725 = .ok (.iconst 3, 1) := by decide +kernel
theorem dd_law_726 : decode code 726 = .ok (.iadd, 1) := by decide +kernel
theorem dd_law_727 : decode code 727 = .ok (.iaload, 1) := by decide +kernel
theorem dd_law_728 : decode code 728 = .ok (.invokevirtual 97, 3) := by decide +kernel
theorem dd_law_731 : decode code 731 = .ok (.if_icmp .eq 401, 3) := by decide +kernel
theorem dd_law_734 : decode code 734 = .ok (.iconst 0, 1) := by decide +kernel
theorem dd_law_735 : decode code 735 = .ok (.ireturn, 1) := by decide +kernel
theorem dd_law_736 : decode code 736 = .ok (.aload_n 1, 1) := by decide +kernel
theorem dd_law_737 : decode code 737 = .ok (.aload_n 0, 1) := by decide +kernel
theorem dd_law_738 : decode code 738 = .ok (.iload_n 3, 1) := by decide +kernel
theorem dd_law_739 : decode code 739 = .ok (.iconst 1, 1) := by decide +kernel
theorem dd_law_740 : decode code 740 = .ok (.iadd, 1) := by decide +kernel
theorem dd_law_741 : decode code 741 = .ok (.iaload, 1) := by decide +kernel
theorem dd_law_742 : decode code 742 = .ok (.aload_n 0, 1) := by decide +kernel
theorem dd_law_743 : decode code 743 = .ok (.iload_n 3, 1) := by decide +kernel
theorem dd_law_744 : decode code 744 = .ok (.iconst 2, 1) := by decide +kernel
theorem dd_law_745 : decode code 745 = .ok (.iadd, 1) := by decide +kernel
theorem dd_law_746 : decode code 746 = .ok (.iaload, 1) := by decide +kernel
theorem dd_law_747 : decode code 747 = .ok (.invokevirtual 98, 3) := by decide +kernel
theorem dd_law_750 : decode code 750 = .ok (.aload_n 2, 1) := by decide +kernel
theorem dd_law_751 : decode code 751 = .ok (.aload_n 0, 1) := by decide +kernel
theorem dd_law_752 : decode code 752 = .ok (.iload_n 3, 1) := by decide +kernel
theorem dd_law_753 : decode code 753 = .ok (.iconst 1, 1) := by decide +kernel
theorem dd_law_754 : decode code 754 = .ok (.iadd, 1) := by decide +kernel
theorem dd_law_755 : decode code 755 = .ok (.iaload, 1) := by decide +kernel
theorem dd_law_756 : decode code 756 = .ok (.aload_n 0, 1) := by decide +kernel
theorem dd_law_757 : decode code 757 = .ok (.iload_n 3, 1) := by decide +kernel
theorem dd_law_758 : decode code 758 = .ok (.iconst 2, 1) := by decide +kernel
theorem dd_law_759 : decode code 759 = .ok (.iadd, 1) := by decide +kernel
theorem dd_law_760 : decode code 760 = .ok (.iaload, 1) := by decide +kernel
theorem dd_law_761 : decode code 761 = .ok (.invokevirtual 101, 3) := by decide +kernel
theorem dd_law_764 : decode code 764 = .ok (.if_icmp .eq 368, 3) := by decide +kernel
theorem dd_law_767 : decode code 767 = .ok (.iconst 0, 1) := by decide +kernel
theorem dd_law_768 : decode code 768 = .ok (.ireturn, 1) := by decide +kernel
theorem dd_law_769 : decode code 769 = .ok (.aload_n 1, 1) := by decide +kernel
theorem dd_law_770 : decode code 770 = .ok (.aload_n 0, 1) := by decide +kernel
theorem dd_law_771 : decode code 771 = .ok (.iload_n 3, 1) := by decide +kernel
theorem dd_law_772 : decode code 772 = .ok (.iconst 1, 1) := by decide +kernel
theorem dd_law_773 : decode code 773 = .ok (.iadd, 1) := by decide +kernel
theorem dd_law_774 : decode code 774 = .ok (.iaload, 1) := by decide +kernel
theorem dd_law_775 : decode code 775 = .ok (.aload_n 0, 1) := by decide +kernel
theorem dd_law_776 : decode code 776 = .ok (.iload_n 3, 1) := by decide +kernel
theorem dd_law_777 : decode code 777 = .ok (.iconst 2, 1) := by decide +kernel
theorem dd_law_778 : decode code 778 = .ok (.iadd, 1) := by decide +kernel
theorem dd_law_779 : decode code 779 = .ok (.iaload, 1) := by decide +kernel
theorem dd_law_780 : decode code 780 = .ok (.aload_n 0, 1) := by decide +kernel
theorem dd_law_781 : decode code 781 = .ok (.iload_n 3, 1) := by decide +kernel
theorem dd_law_782 : decode code 782 = .ok (.iconst 3, 1) := by decide +kernel
theorem dd_law_783 : decode code 783 = .ok (.iadd, 1) := by decide +kernel
theorem dd_law_784 : decode code 784 = .ok (.iaload, 1) := by decide +kernel
theorem dd_law_785 : decode code 785 = .ok (.invokevirtual 102, 3) := by decide +kernel
theorem dd_law_788 : decode code 788 = .ok (.aload_n 2, 1) := by decide +kernel
theorem dd_law_789 : decode code 789 = .ok (.aload_n 0, 1) := by decide +kernel
theorem dd_law_790 : decode code 790 = .ok (.iload_n 3, 1) := by decide +kernel
theorem dd_law_791 : decode code 791 = .ok (.iconst 1, 1) := by decide +kernel
theorem dd_law_792 : decode code 792 = .ok (.iadd, 1) := by decide +kernel
theorem dd_law_793 : decode code 793 = .ok (.iaload, 1) := by decide +kernel
theorem dd_law_794 : decode code 794 = .ok (.aload_n 0, 1) := by decide +kernel
theorem dd_law_795 : decode code 795 = .ok (.iload_n 3, 1) := by decide +kernel
theorem dd_law_796 : decode code 796 = .ok (.iconst 2, 1) := by decide +kernel
theorem dd_law_797 : decode code 797 = .ok (.iadd, 1) := by decide +kernel
theorem dd_law_798 : decode code 798 = .ok (.iaload, 1) := by decide +kernel
theorem dd_law_799 : decode code 799 = .ok (.aload_n 0, 1) := by decide +kernel
theorem dd_law_800 : decode code 800 = .ok (.iload_n 3, 1) := by decide +kernel
theorem dd_law_801 : decode code 801 = .ok (.iconst 3, 1) := by decide +kernel
theorem dd_law_802 : decode code 802 = .ok (.iadd, 1) := by decide +kernel
theorem dd_law_803 : decode code 803 = .ok (.iaload, 1) := by decide +kernel
theorem dd_law_804 : decode code 804 = .ok (.invokevirtual 105, 3) := by decide +kernel
theorem dd_law_807 : decode code 807 = .ok (.if_icmp .eq 325, 3) := by decide +kernel
theorem dd_law_810 : decode code 810 = .ok (.iconst 0, 1) := by decide +kernel
theorem dd_law_811 : decode code 811 = .ok (.ireturn, 1) := by decide +kernel
theorem dd_law_812 : decode code 812 = .ok (.aload_n 1, 1) := by decide +kernel
theorem dd_law_813 : decode code 813 = .ok (.aload_n 0, 1) := by decide +kernel
theorem dd_law_814 : decode code 814 = .ok (.iload_n 3, 1) := by decide +kernel
theorem dd_law_815 : decode code 815 = .ok (.iconst 1, 1) := by decide +kernel
theorem dd_law_816 : decode code 816 = .ok (.iadd, 1) := by decide +kernel
theorem dd_law_817 : decode code 817 = .ok (.iaload, 1) := by decide +kernel
theorem dd_law_818 : decode code 818 = .ok (.aload_n 0, 1) := by decide +kernel
theorem dd_law_819 : decode code 819 = .ok (.iload_n 3, 1) := by decide +kernel
theorem dd_law_820 : decode code 820 = .ok (.iconst 2, 1) := by decide +kernel
theorem dd_law_821 : decode code 821 = .ok (.iadd, 1) := by decide +kernel
theorem dd_law_822 : decode code 822 = .ok (.iaload, 1) := by decide +kernel
theorem dd_law_823 : decode code 823 = .ok (.aload_n 0, 1) := by decide +kernel
theorem dd_law_824 : decode code 824 = .ok (.iload_n 3, 1) := by decide +kernel
theorem dd_law_825 : decode code 825 = .ok (.iconst 3, 1) := by decide +kernel
theorem dd_law_826 : decode code 826 = .ok (.iadd, 1) := by decide +kernel
theorem dd_law_827 : decode code 827 = .ok (.iaload, 1) := by decide +kernel
theorem dd_law_828 : decode code 828 = .ok (.invokevirtual 106, 3) := by decide +kernel
theorem dd_law_831 : decode code 831 = .ok (.aload_n 2, 1) := by decide +kernel
theorem dd_law_832 : decode code 832 = .ok (.aload_n 0, 1) := by decide +kernel
theorem dd_law_833 : decode code 833 = .ok (.iload_n 3, 1) := by decide +kernel
theorem dd_law_834 : decode code 834 = .ok (.iconst 1, 1) := by decide +kernel
theorem dd_law_835 : decode code 835 = .ok (.iadd, 1) := by decide +kernel
theorem dd_law_836 : decode code 836 = .ok (.iaload, 1) := by decide +kernel
theorem dd_law_837 : decode code 837 = .ok (.aload_n 0, 1) := by decide +kernel
theorem dd_law_838 : decode code 838 = .ok (.iload_n 3, 1) := by decide +kernel
theorem dd_law_839 : decode code 839 = .ok (.iconst 2, 1) := by decide +kernel
theorem dd_law_840 : decode code 840 = .ok (.iadd, 1) := by decide +kernel
theorem dd_law_841 : decode code 841 = .ok (.iaload, 1) := by decide +kernel
theorem dd_law_842 : decode code 842 = .ok (.aload_n 0, 1) := by decide +kernel
theorem dd_law_843 : decode code 843 = .ok (.iload_n 3, 1) := by decide +kernel
theorem dd_law_844 : decode code 844 = .ok (.iconst 3, 1) := by decide +kernel
theorem dd_law_845 : decode code 845 = .ok (.iadd, 1) := by decide +kernel
theorem dd_law_846 : decode code 846 = .ok (.iaload, 1) := by decide +kernel
theorem dd_law_847 : decode code 847 = .ok (.invokevirtual 109, 3) := by decide +kernel
theorem dd_law_850 : decode code 850 = .ok (.if_icmp .eq 282, 3) := by decide +kernel
theorem dd_law_853 : decode code 853 = .ok (.iconst 0, 1) := by decide +kernel
theorem dd_law_854 : decode code 854 = .ok (.ireturn, 1) := by decide +kernel
theorem dd_law_855 : decode code 855 = .ok (.aload_n 1, 1) := by decide +kernel
theorem dd_law_856 : decode code 856 = .ok (.aload_n 0, 1) := by decide +kernel
theorem dd_law_857 : decode code 857 = .ok (.iload_n 3, 1) := by decide +kernel
theorem dd_law_858 : decode code 858 = .ok (.iconst 1, 1) := by decide +kernel
theorem dd_law_859 : decode code 859 = .ok (.iadd, 1) := by decide +kernel
theorem dd_law_860 : decode code 860 = .ok (.iaload, 1) := by decide +kernel
theorem dd_law_861 : decode code 861 = .ok (.aload_n 0, 1) := by decide +kernel
theorem dd_law_862 : decode code 862 = .ok (.iload_n 3, 1) := by decide +kernel
theorem dd_law_863 : decode code 863 = .ok (.iconst 2, 1) := by decide +kernel
theorem dd_law_864 : decode code 864 = .ok (.iadd, 1) := by decide +kernel
theorem dd_law_865 : decode code 865 = .ok (.iaload, 1) := by decide +kernel
theorem dd_law_866 : decode code 866 = .ok (.invokevirtual 110, 3) := by decide +kernel
theorem dd_law_869 : decode code 869 = .ok (.aload_n 2, 1) := by decide +kernel
theorem dd_law_870 : decode code 870 = .ok (.aload_n 0, 1) := by decide +kernel
theorem dd_law_871 : decode code 871 = .ok (.iload_n 3, 1) := by decide +kernel
theorem dd_law_872 : decode code 872 = .ok (.iconst 1, 1) := by decide +kernel
theorem dd_law_873 : decode code 873 = .ok (.iadd, 1) := by decide +kernel
theorem dd_law_874 : decode code 874 = .ok (.iaload, 1) := by decide +kernel
theorem dd_law_875 : decode code 875 = .ok (.aload_n 0, 1) := by decide +kernel
theorem dd_law_876 : decode code 876 = .ok (.iload_n 3, 1) := by decide +kernel
theorem dd_law_877 : decode code 877 = .ok (.iconst 2, 1) := by decide +kernel
theorem dd_law_878 : decode code 878 = .ok (.iadd, 1) := by decide +kernel
theorem dd_law_879 : decode code 879 = .ok (.iaload, 1) := by decide +kernel
theorem dd_law_880 : decode code 880 = .ok (.invokevirtual 113, 3) := by decide +kernel
theorem dd_law_883 : decode code 883 = .ok (.if_icmp .eq 249, 3) := by decide +kernel
theorem dd_law_886 : decode code 886 = .ok (.iconst 0, 1) := by decide +kernel
theorem dd_law_887 : decode code 887 = .ok (.ireturn, 1) := by decide +kernel
theorem dd_law_888 : decode code 888 = .ok (.aload_n 1, 1) := by decide +kernel
theorem dd_law_889 : decode code 889 = .ok (.aload_n 0, 1) := by decide +kernel
theorem dd_law_890 : decode code 890 = .ok (.iload_n 3, 1) := by decide +kernel
theorem dd_law_891 : decode code 891 = .ok (.iconst 1, 1) := by decide +kernel
theorem dd_law_892 : decode code 892 = .ok (.iadd, 1) := by decide +kernel
theorem dd_law_893 : decode code 893 = .ok (.iaload, 1) := by decide +kernel
theorem dd_law_894 : decode code 894 = .ok (.aload_n 0, 1) := by decide +kernel
theorem dd_law_895 : decode code 895 = .ok (.iload_n 3, 1) := by decide +kernel
theorem dd_law_896 : decode code 896 = .ok (.iconst 2, 1) := by decide +kernel
theorem dd_law_897 : decode code 897 = .ok (.iadd, 1) := by decide +kernel
theorem dd_law_898 : decode code 898 = .ok (.iaload, 1) := by decide +kernel
theorem dd_law_899 : decode code 899 = .ok (.aload_n 0, 1) := by decide +kernel
theorem dd_law_900 : decode code 900 = .ok (.iload_n 3, 1) := by decide +kernel
theorem dd_law_901 : decode code 901 = .ok (.iconst 3, 1) := by decide +kernel
theorem dd_law_902 : decode code 902 = .ok (.iadd, 1) := by decide +kernel
theorem dd_law_903 : decode code 903 = .ok (.iaload, 1) := by decide +kernel
theorem dd_law_904 : decode code 904 = .ok (.invokevirtual 114, 3) := by decide +kernel
theorem dd_law_907 : decode code 907 = .ok (.aload_n 2, 1) := by decide +kernel
theorem dd_law_908 : decode code 908 = .ok (.aload_n 0, 1) := by decide +kernel
theorem dd_law_909 : decode code 909 = .ok (.iload_n 3, 1) := by decide +kernel
theorem dd_law_910 : decode code 910 = .ok (.iconst 1, 1) := by decide +kernel
theorem dd_law_911 : decode code 911 = .ok (.iadd, 1) := by decide +kernel
theorem dd_law_912 : decode code 912 = .ok (.iaload, 1) := by decide +kernel
theorem dd_law_913 : decode code 913 = .ok (.aload_n 0, 1) := by decide +kernel
theorem dd_law_914 : decode code 914 = .ok (.iload_n 3, 1) := by decide +kernel
theorem dd_law_915 : decode code 915 = .ok (.iconst 2, 1) := by decide +kernel
theorem dd_law_916 : decode code 916 = .ok (.iadd, 1) := by decide +kernel
theorem dd_law_917 : decode code 917 = .ok (.iaload, 1) := by decide +kernel
theorem dd_law_918 : decode code 918 = .ok (.aload_n 0, 1) := by decide +kernel
theorem dd_law_919 : decode code 919 = .ok (.iload_n 3, 1) := by decide +kernel
theorem dd_law_920 : decode code 920 = .ok (.iconst 3, 1) := by decide +kernel
theorem dd_law_921 : decode code 921 = .ok (.iadd, 1) := by decide +kernel
theorem dd_law_922 : decode code 922 = .ok (.iaload, 1) := by decide +kernel
theorem dd_law_923 : decode code 923 = .ok (.invokevirtual 117, 3) := by decide +kernel
theorem dd_law_926 : decode code 926 = .ok (.if_icmp .eq 206, 3) := by decide +kernel
theorem dd_law_929 : decode code 929 = .ok (.iconst 0, 1) := by decide +kernel
theorem dd_law_930 : decode code 930 = .ok (.ireturn, 1) := by decide +kernel
theorem dd_law_931 : decode code 931 = .ok (.aload_n 1, 1) := by decide +kernel
theorem dd_law_932 : decode code 932 = .ok (.aload_n 0, 1) := by decide +kernel
theorem dd_law_933 : decode code 933 = .ok (.iload_n 3, 1) := by decide +kernel
theorem dd_law_934 : decode code 934 = .ok (.iconst 1, 1) := by decide +kernel
theorem dd_law_935 : decode code 935 = .ok (.iadd, 1) := by decide +kernel
theorem dd_law_936 : decode code 936 = .ok (.iaload, 1) := by decide +kernel
theorem dd_law_937 : decode code 937 = .ok (.invokevirtual 118, 3) := by decide +kernel
theorem dd_law_940 : decode code 940 = .ok (.aload_n 2, 1) := by decide +kernel
theorem dd_law_941 : decode code 941 = .ok (.aload_n 0, 1) := by decide +kernel
theorem dd_law_942 : decode code 942 = .ok (.iload_n 3, 1) := by decide +kernel
theorem dd_law_943 : decode code 943 = .ok (.iconst 1, 1) := by decide +kernel
theorem dd_law_944 : decode code 944 = .ok (.iadd, 1) := by decide +kernel
theorem dd_law_945 : decode code 945 = .ok (.iaload, 1) := by decide +kernel
theorem dd_law_946 : decode code 946 = .ok (.invokevirtual 121, 3) := by decide +kernel
theorem dd_law_949 : decode code 949 = .ok (.if_icmp .eq 183, 3) := by decide +kernel
theorem dd_law_952 : decode code 952 = .ok (.iconst 0, 1) := by decide +kernel
theorem dd_law_953 : decode code 953 = .ok (.ireturn, 1) := by decide +kernel
theorem dd_law_954 : decode code 954 = .ok (.aload_n 1, 1) := by decide +kernel
theorem dd_law_955 : decode code 955 = .ok (.aload_n 0, 1) := by decide +kernel
theorem dd_law_956 : decode code 956 = .ok (.iload_n 3, 1) := by decide +kernel
theorem dd_law_957 : decode code 957 = .ok (.iconst 1, 1) := by decide +kernel
theorem dd_law_958 : decode code 958 = .ok (.iadd, 1) := by decide +kernel
theorem dd_law_959 : decode code 959 = .ok (.iaload, 1) := by decide +kernel
theorem dd_law_960 : decode code 960 = .ok (.aload_n 0, 1) := by decide +kernel
theorem dd_law_961 : decode code 961 = .ok (.iload_n 3, 1) := by decide +kernel
theorem dd_law_962 : decode code 962 = .ok (.iconst 2, 1) := by decide +kernel
theorem dd_law_963 : decode code 963 = .ok (.iadd, 1) := by decide +kernel
theorem dd_law_964 : decode code 964 = .ok (.iaload, 1) := by decide +kernel
theorem dd_law_965 : decode code 965 = .ok (.invokevirtual 122, 3) := by decide +kernel
theorem dd_law_968 : decode code 968 = .ok (.aload_n 2, 1) := by decide +kernel
theorem dd_law_969 : decode code 969 = .ok (.aload_n 0, 1) := by decide +kernel
theorem dd_law_970 : decode code 970 = .ok (.iload_n 3, 1) := by decide +kernel
theorem dd_law_971 : decode code 971 = .ok (.iconst 1, 1) := by decide +kernel
theorem dd_law_972 : decode code 972 = .ok (.iadd, 1) := by decide +kernel
theorem dd_law_973 : decode code 973 = .ok (.iaload, 1) := by decide +kernel
theorem dd_law_974 : decode code 974 = .ok (.aload_n 0, 1) := by decide +kernel
theorem dd_law_975 : decode code 975 = .ok (.iload_n 3, 1) := by decide +kernel
theorem dd_law_976 : decode code 976 = .ok (.iconst 2, 1) := by decide +kernel
theorem dd_law_977 : decode code 977 = .ok (.iadd, 1) := by decide +kernel
theorem dd_law_978 : decode code 978 = .ok (.iaload, 1) := by decide +kernel
theorem dd_law_979 : decode code 979 = .ok (.invokevirtual 125, 3) := by decide +kernel
theorem dd_law_982 : decode code 982 = .ok (.if_icmp .eq 150, 3) := by decide +kernel
theorem dd_law_985 : decode code 985 = .ok (.iconst 0, 1) := by decide +kernel
theorem dd_law_986 : decode code 986 = .ok (.ireturn, 1) := by decide +kernel
theorem dd_law_987 : decode code 987 = .ok (.aload_n 1, 1) := by decide +kernel
theorem dd_law_988 : decode code 988 = .ok (.aload_n 0, 1) := by decide +kernel
theorem dd_law_989 : decode code 989 = .ok (.iload_n 3, 1) := by decide +kernel
theorem dd_law_990 : decode code 990 = .ok (.iconst 1, 1) := by decide +kernel
theorem dd_law_991 : decode code 991 = .ok (.iadd, 1) := by decide +kernel
theorem dd_law_992 : decode code 992 = .ok (.iaload, 1) := by decide +kernel
theorem dd_law_993 : decode code 993 = .ok (.invokevirtual 126, 3) := by decide +kernel
theorem dd_law_996 : decode code 996 = .ok (.aload_n 2, 1) := by decide +kernel
theorem dd_law_997 : decode code 997 = .ok (.aload_n 0, 1) := by decide +kernel
theorem dd_law_998 : decode code 998 = .ok (.iload_n 3, 1) := by decide +kernel
theorem dd_law_999 : decode code 999 = .ok (.iconst 1, 1) := by decide +kernel
theorem dd_law_1000 : decode code 1000 = .ok (.iadd, 1) := by decide +kernel
theorem dd_law_1001 : decode code 1001 = .ok (.iaload, 1) := by decide +kernel
theorem dd_law_1002 : decode code 1002 = .ok (.invokevirtual 129, 3) := by decide +kernel
theorem dd_law_1005 : decode code 1005 = .ok (.if_icmp .eq 127, 3) := by decide +kernel
theorem dd_law_1008 : decode code 1008 = .ok (.iconst 0, 1) := by decide +kernel
theorem dd_law_1009 : decode code 1009 = .ok (.ireturn, 1) := by decide +kernel
theorem dd_law_1010 : decode code 1010 = .ok (.aload_n 1, 1) := by decide +kernel
theorem dd_law_1011 : decode code 1011 = .ok (.aload_n 0, 1) := by decide +kernel
theorem dd_law_1012 : decode code 1012 = .ok (.iload_n 3, 1) := by decide +kernel
theorem dd_law_1013 : decode code 1013 = .ok (.iconst 1, 1) := by decide +kernel
theorem dd_law_1014 : decode code 1014 = .ok (.iadd, 1) := by decide +kernel
theorem dd_law_1015 : decode code 1015 = .ok (.iaload, 1) := by decide +kernel
theorem dd_law_1016 : decode code 1016 = .ok (.aload_n 0, 1) := by decide +kernel
theorem dd_law_1017 : decode code 1017 = .ok (.iload_n 3, 1) := by decide +kernel
theorem dd_law_1018 : decode code 1018 = .ok (.iconst 2, 1) := by decide +kernel
theorem dd_law_1019 : decode code 1019 = .ok (.iadd, 1) := by decide +kernel
theorem dd_law_1020 : decode code 1020 = .ok (.iaload, 1) := by decide +kernel
theorem dd_law_1021 : decode code 1021 = .ok (.aload_n 0, 1) := by decide +kernel
theorem dd_law_1022 : decode code 1022 = .ok (.iload_n 3, 1) := by decide +kernel
theorem dd_law_1023 : decode code 1023 = .ok (.iconst 3, 1) := by decide +kernel
theorem dd_law_1024 : decode code 1024 = .ok (.iadd, 1) := by decide +kernel
theorem dd_law_1025 : decode code 1025 = .ok (.iaload, 1) := by decide +kernel
theorem dd_law_1026 : decode code 1026 = .ok (.aload_n 0, 1) := by decide +kernel
theorem dd_law_1027 : decode code 1027 = .ok (.iload_n 3, 1) := by decide +kernel
theorem dd_law_1028 : decode code 1028 = .ok (.iconst 4, 1) := by decide +kernel
theorem dd_law_1029 : decode code 1029 = .ok (.iadd, 1) := by decide +kernel
theorem dd_law_1030 : decode code 1030 = .ok (.iaload, 1) := by decide +kernel
theorem dd_law_1031 : decode code 1031 = .ok (.invokevirtual 130, 3) := by decide +kernel
theorem dd_law_1034 : decode code 1034 = .ok (.aload_n 2, 1) := by decide +kernel
theorem dd_law_1035 : decode code 1035 = .ok (.aload_n 0, 1) := by decide +kernel
theorem dd_law_1036 : decode code 1036 = .ok (.iload_n 3, 1) := by decide +kernel
theorem dd_law_1037 : decode code 1037 = .ok (.iconst 1, 1) := by decide +kernel
theorem dd_law_1038 : decode code 1038 = .ok (.iadd, 1) := by decide +kernel
theorem dd_law_1039 : decode code 1039 = .ok (.iaload, 1) := by decide +kernel
theorem dd_law_1040 : decode code 1040 = .ok (.aload_n 0, 1) := by decide +kernel
theorem dd_law_1041 : decode code 1041 = .ok (.iload_n 3, 1) := by decide +kernel
theorem dd_law_1042 : decode code 1042 = .ok (.iconst 2, 1) := by decide +kernel
theorem dd_law_1043 : decode code 1043 = .ok (.iadd, 1) := by decide +kernel
theorem dd_law_1044 : decode code 1044 = .ok (.iaload, 1) := by decide +kernel
theorem dd_law_1045 : decode code 1045 = .ok (.aload_n 0, 1) := by decide +kernel
theorem dd_law_1046 : decode code 1046 = .ok (.iload_n 3, 1) := by decide +kernel
theorem dd_law_1047 : decode code 1047 = .ok (.iconst 3, 1) := by decide +kernel
theorem dd_law_1048 : decode code 1048 = .ok (.iadd, 1) := by decide +kernel
theorem dd_law_1049 : decode code 1049 = .ok (.iaload, 1) := by decide +kernel
theorem dd_law_1050 : decode code 1050 = .ok (.aload_n 0, 1) := by decide +kernel
theorem dd_law_1051 : decode code 1051 = .ok (.iload_n 3, 1) := by decide +kernel
theorem dd_law_1052 : decode code 1052 = .ok (.iconst 4, 1) := by decide +kernel
theorem dd_law_1053 : decode code 1053 = .ok (.iadd, 1) := by decide +kernel
theorem dd_law_1054 : decode code 1054 = .ok (.iaload, 1) := by decide +kernel
theorem dd_law_1055 : decode code 1055 = .ok (.invokevirtual 134, 3) := by decide +kernel
theorem dd_law_1058 : decode code 1058 = .ok (.if_icmp .eq 74, 3) := by decide +kernel
theorem dd_law_1061 : decode code 1061 = .ok (.iconst 0, 1) := by decide +kernel
theorem dd_law_1062 : decode code 1062 = .ok (.ireturn, 1) := by decide +kernel
theorem dd_law_1063 : decode code 1063 = .ok (.aload_n 1, 1) := by decide +kernel
theorem dd_law_1064 : decode code 1064 = .ok (.aload_n 0, 1) := by decide +kernel
theorem dd_law_1065 : decode code 1065 = .ok (.iload_n 3, 1) := by decide +kernel
theorem dd_law_1066 : decode code 1066 = .ok (.iconst 1, 1) := by decide +kernel
theorem dd_law_1067 : decode code 1067 = .ok (.iadd, 1) := by decide +kernel
theorem dd_law_1068 : decode code 1068 = .ok (.iaload, 1) := by decide +kernel
theorem dd_law_1069 : decode code 1069 = .ok (.invokevirtual 135, 3) := by decide +kernel
theorem dd_law_1072 : decode code 1072 = .ok (.aload_n 2, 1) := by decide +kernel
theorem dd_law_1073 : decode code 1073 = .ok (.aload_n 0, 1) := by decide +kernel
theorem dd_law_1074 : decode code 1074 = .ok (.iload_n 3, 1) := by decide +kernel
theorem dd_law_1075 : decode code 1075 = .ok (.iconst 1, 1) := by decide +kernel
theorem dd_law_1076 : decode code 1076 = .ok (.iadd, 1) := by decide +kernel
theorem dd_law_1077 : decode code 1077 = .ok (.iaload, 1) := by decide +kernel
theorem dd_law_1078 : decode code 1078 = .ok (.invokevirtual 138, 3) := by decide +kernel
theorem dd_law_1081 : decode code 1081 = .ok (.if_icmp .eq 51, 3) := by decide +kernel
theorem dd_law_1084 : decode code 1084 = .ok (.iconst 0, 1) := by decide +kernel
theorem dd_law_1085 : decode code 1085 = .ok (.ireturn, 1) := by decide +kernel
theorem dd_law_1086 : decode code 1086 = .ok (.aload_n 1, 1) := by decide +kernel
theorem dd_law_1087 : decode code 1087 = .ok (.aload_n 0, 1) := by decide +kernel
theorem dd_law_1088 : decode code 1088 = .ok (.iload_n 3, 1) := by decide +kernel
theorem dd_law_1089 : decode code 1089 = .ok (.iconst 1, 1) := by decide +kernel
theorem dd_law_1090 : decode code 1090 = .ok (.iadd, 1) := by decide +kernel
theorem dd_law_1091 : decode code 1091 = .ok (.iaload, 1) := by decide +kernel
theorem dd_law_1092 : decode code 1092 = .ok (.invokevirtual 139, 3) := by decide +kernel
theorem dd_law_1095 : decode code 1095 = .ok (.aload_n 2, 1) := by decide +kernel
theorem dd_law_1096 : decode code 1096 = .ok (.aload_n 0, 1) := by decide +kernel
theorem dd_law_1097 : decode code 1097 = .ok (.iload_n 3, 1) := by decide +kernel
theorem dd_law_1098 : decode code 1098 = .ok (.iconst 1, 1) := by decide +kernel
theorem dd_law_1099 : decode code 1099 = .ok (.iadd, 1) := by decide +kernel
theorem dd_law_1100 : decode code 1100 = .ok (.iaload, 1) := by decide +kernel
theorem dd_law_1101 : decode code 1101 = .ok (.invokevirtual 142, 3) := by decide +kernel
theorem dd_law_1104 : decode code 1104 = .ok (.if_icmp .eq 28, 3) := by decide +kernel
theorem dd_law_1107 : decode code 1107 = .ok (.iconst 0, 1) := by decide +kernel
theorem dd_law_1108 : decode code 1108 = .ok (.ireturn, 1) := by decide +kernel
theorem dd_law_1109 : decode code 1109 = .ok (.aload_n 1, 1) := by decide +kernel
theorem dd_law_1110 : decode code 1110 = .ok (.aload_n 0, 1) := by decide +kernel
theorem dd_law_1111 : decode code 1111 = .ok (.iload_n 3, 1) := by decide +kernel
theorem dd_law_1112 : decode code 1112 = .ok (.iconst 1, 1) := by decide +kernel
theorem dd_law_1113 : decode code 1113 = .ok (.iadd, 1) := by decide +kernel
theorem dd_law_1114 : decode code 1114 = .ok (.iaload, 1) := by decide +kernel
theorem dd_law_1115 : decode code 1115 = .ok (.invokevirtual 143, 3) := by decide +kernel
theorem dd_law_1118 : decode code 1118 = .ok (.aload_n 2, 1) := by decide +kernel
theorem dd_law_1119 : decode code 1119 = .ok (.aload_n 0, 1) := by decide +kernel
theorem dd_law_1120 : decode code 1120 = .ok (.iload_n 3, 1) := by decide +kernel
theorem dd_law_1121 : decode code 1121 = .ok (.iconst 1, 1) := by decide +kernel
theorem dd_law_1122 : decode code 1122 = .ok (.iadd, 1) := by decide +kernel
theorem dd_law_1123 : decode code 1123 = .ok (.iaload, 1) := by decide +kernel
theorem dd_law_1124 : decode code 1124 = .ok (.invokevirtual 146, 3) := by decide +kernel
theorem dd_law_1127 : decode code 1127 = .ok (.if_icmp .eq 5, 3) := by decide +kernel
theorem dd_law_1130 : decode code 1130 = .ok (.iconst 0, 1) := by decide +kernel
theorem dd_law_1131 : decode code 1131 = .ok (.ireturn, 1) := by decide +kernel
theorem dd_law_1132 : decode code 1132 = .ok (.iinc 3 6, 3) := by decide +kernel
theorem dd_law_1135 : decode code 1135 = .ok (.goto (-1117), 3) := by decide +kernel
theorem dd_law_1138 : decode code 1138 = .ok (.iconst 1, 1) := by decide +kernel
theorem dd_law_1139 : decode code 1139 = .ok (.ireturn, 1) := by decide +kernel
def ss_xs (L : Nat) (xs : Nat → Int32) (i : Int32) : Option Int32 := if ¬ i < 0 ∧ i.toNatClampNeg < L then some (xs i.toNatClampNeg) else none
theorem ss_sld {p : Program} {l : Launch} {e : Env} {R : Room} {s : State} {m : MethodId} {args : Array Value} {below : List Frame} {meth : Method} {c : Code} {H : Heap} {locs : List Loc} {cells slots : Nat} {Q : State → Prop} {cc : ByteArray} {pc : Nat} {ls : Array Slot} {rest : List Value} {A : Nat → Prop} {H0 : Heap} (hexec : p.tables.exec = Jvm.exec) (hb : c.code = cc) {b L : Nat} {xs : Nat → Int32} (hX : va_X b L xs s H0) (hbl : b < H0.size) (hbA : ¬ A b) (hS : va_S A H0 H locs) {i v : Int32} (hv : ss_xs L xs i = some v) (hdg : decode cc pc = .ok (.iaload, 1))
    (kk : W p l e R s m args below meth c H locs cells slots Q (F0 m (pc + 1) ls (.int v :: rest))) : W p l e R s m args below meth c H locs cells slots Q (F0 m pc ls (.int i :: .ref b :: rest)) := by
  obtain ⟨h1, hv⟩ := ss_chk hv
  cases hv
  exact va_sld hexec hb hX hbl hbA hS (ss_vin h1.1 h1.2) hdg kk
def ss_tm : List Term := [.string "SweptSnow$ValleyReader" 48, .string "SweptSnow$RuleReader" 68, .string "SweptSnow$RuleReader" 115, .string "SweptSnow$RuleReader" 103, .string "SweptSnow$RuleReader" 50, .string "SweptSnow$RuleReader" 83, .string "SweptSnow$Tape" 54, .string "SweptSnow$RuleReader" 79, .string "SweptSnow$RuleReader" 81]
def ss_off : List Nat := [48, 84, 94, 171, 183, 193, 205, 218, 232]
theorem ss_n1 : ∀ i, i < 9 → (flatC (Jvm.Cond.and given_1 narrow_1))[ss_off.getD i 0]? = some (Cond.exactly (ss_tm.getD i (.int 0)) "java/lang/String") := by decide +kernel
theorem ss_n2 : ∀ i, i < 9 → (flatC (Jvm.Cond.and given_1 narrow_1))[ss_off.getD i 0 + 1]? = some (Cond.eq (.field (ss_tm.getD i (.int 0)) "java/lang/String" "coder" "B") (.int 0)) := by decide +kernel
theorem ss_n3 : ∀ i, i < 9 → (flatC (Jvm.Cond.and given_1 narrow_1))[ss_off.getD i 0 + 2]? = some (Cond.arrayOf (.field (ss_tm.getD i (.int 0)) "java/lang/String" "value" "[B") .byte) := by decide +kernel
theorem ss_n4 : ∀ i, i < 9 → (flatC (Jvm.Cond.and given_1 narrow_1))[ss_off.getD i 0 + 3]? = some (Cond.eq (.length (.field (ss_tm.getD i (.int 0)) "java/lang/String" "value" "[B")) (.int (Int32.ofNat (ss_sL.getD i 0)))) := by decide +kernel
theorem ss_n5 : ∀ i, i < 9 → ∀ j, j < ss_sL.getD i 0 → (flatC (Jvm.Cond.and given_1 narrow_1))[ss_off.getD i 0 + 4 + j]? = some (Cond.eq (.elem (.field (ss_tm.getD i (.int 0)) "java/lang/String" "value" "[B") (.int (Int32.ofNat j))) (.int ((ss_sB.getD i []).getD j 0))) := by decide +kernel
theorem ss_n6 : ∀ j, j < 9 → ∀ i, i < j → (flatC (Jvm.Cond.and given_1 narrow_1))[ss_off.getD j 0 + 4 + ss_sL.getD j 0 + i]? = some (Cond.not (Cond.eq (ss_tm.getD i (.int 0)) (ss_tm.getD j (.int 0)))) := by decide +kernel
theorem ss_lawc {L kk : Nat} (hL : L ≤ 3072) (hk : 6 * kk ≤ L) (h : ¬ (Int32.ofNat L - (6 : Int32)) < nI (6 * kk)) : 6 * kk + 6 ≤ L := by
  rcases Nat.lt_or_ge L (6 * kk + 6) with q | q
  · refine absurd ?_ h
    rw [Int32.lt_iff_toInt_lt]
    have e1 : (Int32.ofNat L - (6 : Int32)).toInt = (L : Int) - (6 : Nat) := pk_sub_toInt (a := L) (b := 6) (by omega) (by omega)
    rw [e1, nI_toInt (by omega)]
    omega
  · exact q
set_option maxHeartbeats 4000000 in
set_option maxRecDepth 100000 in
/-- what the Statement gives at the start, in our words -/
theorem ss_start {p : Program} {s : State} {m : MethodId} {meth : Method} {c : Code} {b L : Nat} {xs : Nat → Int32} (C0 : lw_At p s m meth c b L xs) : ∃ G : ss_G, ss_b G = s.heap.size ∧ ss_K G s := by
  obtain ⟨hx, hb, hr, hml, hown, hts, hX, hbl, hlocks, hgv⟩ := C0
  have hg : ∀ w ∈ lw_g, w.before #[Value.ref b] s = true := fun w hw => hts w (List.mem_filter.mp hw).1
  have hA : ∀ a : Nat, a < s.heap.size → ¬ (s.heap.size ≤ a) := fun a h => by omega
  obtain ⟨c0, i0, k0⟩ := u_known (C := sR_0) (T := sT_0) (N := 6) (n := 6) hg si_0 (hg _ (ss_in 70 (by decide +kernel) (by decide +kernel)))
  obtain ⟨c1, i1, k1⟩ := u_known (C := sR_1) (T := sT_1) (N := 3) (n := 3) hg si_1 (hg _ (ss_in 659 (by decide +kernel) (by decide +kernel)))
  obtain ⟨c2, i2, k2⟩ := u_known (C := sR_2) (T := sT_2) (N := 6) (n := 6) hg si_2 (hg _ (ss_in 30 (by decide +kernel) (by decide +kernel)))
  obtain ⟨c3, i3, k3⟩ := u_known (C := sR_3) (T := sT_3) (N := 3) (n := 3) hg si_3 (hg _ (ss_in 270 (by decide +kernel) (by decide +kernel)))
  obtain ⟨c4, i4, k4⟩ := u_known (C := sR_4) (T := sT_4) (N := 6) (n := 6) hg si_4 (hg _ (ss_in 192 (by decide +kernel) (by decide +kernel)))
  obtain ⟨c5, i5, k5⟩ := u_known (C := sR_5) (T := sT_5) (N := 10) (n := 10) hg si_5 (hg _ (ss_in 64 (by decide +kernel) (by decide +kernel)))
  obtain ⟨c6, i6, k6⟩ := u_known (C := sR_6) (T := sT_6) (N := 3) (n := 3) hg si_6 (hg _ (ss_in 58 (by decide +kernel) (by decide +kernel)))
  obtain ⟨c7, i7, k7⟩ := u_known (C := sR_7) (T := sT_7) (N := 8) (n := 8) hg si_7 (hg _ (ss_in 290 (by decide +kernel) (by decide +kernel)))
  obtain ⟨c8, i8, k8⟩ := u_known (C := sR_8) (T := sT_8) (N := 8) (n := 8) hg si_8 (hg _ (ss_in 219 (by decide +kernel) (by decide +kernel)))
  obtain ⟨c9, i9, k9⟩ := u_known (C := sR_9) (T := sT_9) (N := 5) (n := 5) hg si_9 (hg _ (ss_in 330 (by decide +kernel) (by decide +kernel)))
  obtain ⟨c10, i10, k10⟩ := u_known (C := sR_10) (T := sT_10) (N := 5) (n := 5) hg si_10 (hg _ (ss_in 353 (by decide +kernel) (by decide +kernel)))
  obtain ⟨c11, i11, k11⟩ := u_known (C := sR_11) (T := sT_11) (N := 11) (n := 11) hg si_11 (hg _ (ss_in 22 (by decide +kernel) (by decide +kernel)))
  obtain ⟨c12, i12, k12⟩ := u_known (C := sR_12) (T := sT_12) (N := 40) (n := 40) hg si_12 (hg _ (ss_in 1107 (by decide +kernel) (by decide +kernel)))
  obtain ⟨a_int, ka_int, co_int, fa_int, ha_int, hk_int⟩ := Cond.arrayClass_spec (hg _ kt_int)
  obtain ⟨a_byte, ka_byte, co_byte, fa_byte, ha_byte, hk_byte⟩ := Cond.arrayClass_spec (hg _ kt_byte)
  obtain ⟨a_boolean, ka_boolean, co_boolean, fa_boolean, ha_boolean, hk_boolean⟩ := Cond.arrayClass_spec (hg _ kt_boolean)
  obtain ⟨a_long, ka_long, co_long, fa_long, ha_long, hk_long⟩ := Cond.arrayClass_spec (hg _ kt_long)
  have w24 := hts (Cond.arrayOver (.object ss_n24)) (List.mem_append_right _ (List.mem_of_getElem? (i := 276) (by decide +kernel)))
  obtain ⟨co_24, a_24, ka_24, f1_24, -, f2_24, f3_24, f4_24⟩ := Cond.arrayOver_spec w24
  have w25 := hts (Cond.arrayOver (.object ss_n25)) (List.mem_append_right _ (List.mem_of_getElem? (i := 217) (by decide +kernel)))
  obtain ⟨co_25, a_25, ka_25, f1_25, -, f2_25, f3_25, f4_25⟩ := Cond.arrayOver_spec w25
  have w26 := hts (Cond.arrayOver (.object ss_n26)) (List.mem_append_right _ (List.mem_of_getElem? (i := 268) (by decide +kernel)))
  obtain ⟨co_26, a_26, ka_26, f1_26, -, f2_26, f3_26, f4_26⟩ := Cond.arrayOver_spec w26
  have hs := flat_of_before _ hgv
  have hs2 : ∀ (k : Nat) (w : Cond), (flatC (Jvm.Cond.and given_1 narrow_1))[k]? = some w → w.before #[Value.ref b] s = true := fun k w h => hs w (List.mem_of_getElem? h)
  obtain ⟨adK, adV, hVS, hVe⟩ := vk_Sof (args := #[Value.ref b]) (s := s) (N := 9) (tm := fun i => ss_tm.getD i (.int 0)) (len := ss_sL) (byt := ss_sB) (A := fun q => s.heap.size ≤ q) (by decide) (fun i hi => hs2 _ _ (ss_n1 i hi)) (fun i hi => hs2 _ _ (ss_n2 i hi)) (fun i hi => hs2 _ _ (ss_n3 i hi)) (fun i hi => hs2 _ _ (ss_n4 i hi)) (fun i hi j hj => hs2 _ _ (ss_n5 i hi j hj)) (fun i j hi hj hij => by
    rcases Nat.lt_or_ge i j with q | q
    · exact Or.inl (hs2 _ _ (ss_n6 j hj i q))
    · exact Or.inr (hs2 _ _ (ss_n6 i hi j (by omega)))) hA
  refine ⟨((fun k => [c0, c1, c2, c3, c4, c5, c6, c7, c8, c9, c10, c11, c12].getD k 0, fun k => [i0, i1, i2, i3, i4, i5, i6, i7, i8, i9, i10, i11, i12].getD k (fun _ => 0)), fun t => [a_int, a_byte, a_boolean, a_long, a_24, a_25, a_26].getD (t - 20) 0, s.heap.size, adK, adV), rfl, ⟨?_, ?_⟩, ⟨va_AO.of w24, va_AO.of w25, va_AO.of w26⟩, ⟨va_Nw.of rfl (hts _ (List.mem_append_right _ (List.mem_of_getElem? (i := 31) (by decide +kernel)))), va_Nw.of rfl (hts _ (List.mem_append_right _ (List.mem_of_getElem? (i := 65) (by decide +kernel)))), va_Nw.of rfl (hts _ (List.mem_append_right _ (List.mem_of_getElem? (i := 220) (by decide +kernel)))), va_Nw.of rfl (hts _ (List.mem_append_right _ (List.mem_of_getElem? (i := 225) (by decide +kernel))))⟩, ⟨vk_R.of (A := #[Value.ref b]) (hts _ (List.mem_append_right _ (List.mem_of_getElem? (i := 460) (by decide +kernel)))) (hVe 0 (by decide)), vk_R.of (A := #[Value.ref b]) (hts _ (List.mem_append_right _ (List.mem_of_getElem? (i := 600) (by decide +kernel)))) (hVe 1 (by decide)), vk_R.of (A := #[Value.ref b]) (hts _ (List.mem_append_right _ (List.mem_of_getElem? (i := 619) (by decide +kernel)))) (hVe 2 (by decide)), vk_R.of (A := #[Value.ref b]) (hts _ (List.mem_append_right _ (List.mem_of_getElem? (i := 629) (by decide +kernel)))) (hVe 3 (by decide)), vk_R.of (A := #[Value.ref b]) (hts _ (List.mem_append_right _ (List.mem_of_getElem? (i := 634) (by decide +kernel)))) (hVe 4 (by decide)), vk_R.of (A := #[Value.ref b]) (hts _ (List.mem_append_right _ (List.mem_of_getElem? (i := 643) (by decide +kernel)))) (hVe 5 (by decide)), vk_R.of (A := #[Value.ref b]) (hts _ (List.mem_append_right _ (List.mem_of_getElem? (i := 653) (by decide +kernel)))) (hVe 6 (by decide)), vk_R.of (A := #[Value.ref b]) (hts _ (List.mem_append_right _ (List.mem_of_getElem? (i := 655) (by decide +kernel)))) (hVe 7 (by decide)), vk_R.of (A := #[Value.ref b]) (hts _ (List.mem_append_right _ (List.mem_of_getElem? (i := 656) (by decide +kernel)))) (hVe 8 (by decide))⟩, hVS, ?_, ?_⟩
  · intro k q hq
    match k, hq with
    | 0, hq => cases hq; exact k0
    | 1, hq => cases hq; exact k1
    | 2, hq => cases hq; exact k2
    | 3, hq => cases hq; exact k3
    | 4, hq => cases hq; exact k4
    | 5, hq => cases hq; exact k5
    | 6, hq => cases hq; exact k6
    | 7, hq => cases hq; exact k7
    | 8, hq => cases hq; exact k8
    | 9, hq => cases hq; exact k9
    | 10, hq => cases hq; exact k10
    | 11, hq => cases hq; exact k11
    | 12, hq => cases hq; exact k12
    | k + 13, hq => simp [ss_cl] at hq
  · intro k q hq
    match k, hq with
    | 0, hq => cases hq; exact ⟨fun n z => ⟨fun k h => (by cases h), ka_int, ha_int, co_int, hk_int⟩, fa_int⟩
    | 1, hq => cases hq; exact ⟨fun n z => ⟨fun k h => (by cases h), ka_byte, ha_byte, co_byte, hk_byte⟩, fa_byte⟩
    | 2, hq => cases hq; exact ⟨fun n z => ⟨fun k h => (by cases h), ka_boolean, ha_boolean, co_boolean, hk_boolean⟩, fa_boolean⟩
    | 3, hq => cases hq; exact ⟨fun n z => ⟨fun k h => (by cases h), ka_long, ha_long, co_long, hk_long⟩, fa_long⟩
    | 4, hq => cases hq; exact ⟨fun n z => ⟨fun k h => (by cases h), ka_24, f2_24, co_24, f3_24⟩, ka_24, co_24, f2_24, f3_24, f1_24, f4_24⟩
    | 5, hq => cases hq; exact ⟨fun n z => ⟨fun k h => (by cases h), ka_25, f2_25, co_25, f3_25⟩, ka_25, co_25, f2_25, f3_25, f1_25, f4_25⟩
    | 6, hq => cases hq; exact ⟨fun n z => ⟨fun k h => (by cases h), ka_26, f2_26, co_26, f3_26⟩, ka_26, co_26, f2_26, f3_26, f1_26, f4_26⟩
    | k + 7, hq => simp at hq
  · exact va_Zof (args := #[Value.ref b]) (hts _ (List.mem_append_right _ (List.mem_of_getElem? (i := 474) (by decide +kernel)))) (hts _ (List.mem_append_right _ (List.mem_of_getElem? (i := 14) (by decide +kernel)))) (va_eqt (hs2 4 _ (by decide +kernel))) hA
  · exact va_Zqof (args := #[Value.ref b]) (hts _ (List.mem_append_right _ (List.mem_of_getElem? (i := 490) (by decide +kernel)))) (hts _ (List.mem_append_right _ (List.mem_of_getElem? (i := 16) (by decide +kernel)))) (hs2 5 _ (by decide +kernel)) hA
