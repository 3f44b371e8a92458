-- the links of the law
theorem in_Law_cell : ga_In mt_Law_cell := ⟨ga_mem 574 (by decide +kernel), by decide +kernel, by decide, ga_mem 10 (by decide +kernel), by decide +kernel⟩
theorem in_Law_low : ga_In mt_Law_low := ⟨ga_mem 577 (by decide +kernel), by decide +kernel, by decide, ga_mem 10 (by decide +kernel), by decide +kernel⟩
theorem in_Law_digest : ga_In mt_Law_digest := ⟨ga_mem 581 (by decide +kernel), by decide +kernel, by decide, ga_mem 10 (by decide +kernel), by decide +kernel⟩
theorem in_Law_act : ga_In mt_Law_act := ⟨ga_mem 643 (by decide +kernel), by decide +kernel, by decide, ga_mem 10 (by decide +kernel), by decide +kernel⟩
theorem in_isR_w : Cond.code mt_Law_isRight.1 mt_Law_isRight.2.1 mt_Law_isRight.2.2.1 mt_Law_isRight.2.2.2 ∈ tables_1_3 := by
  unfold tables_1_3
  repeat (first | exact List.mem_cons_self | apply List.mem_cons_of_mem)
theorem in_isR_g : goodWord (Cond.code mt_Law_isRight.1 mt_Law_isRight.2.1 mt_Law_isRight.2.2.1 mt_Law_isRight.2.2.2) = true := rfl
theorem in_isR_t : Cond.code mt_Law_isRight.1 mt_Law_isRight.2.1 mt_Law_isRight.2.2.1 mt_Law_isRight.2.2.2 ∈ ga_T := by
  refine List.mem_filter.mpr ⟨?_, in_isR_g⟩
  unfold lw_tbl tables_1
  exact List.mem_append_right _ (List.mem_append_right _ (List.mem_append_right _ in_isR_w))
theorem in_Law_isRight : ga_In mt_Law_isRight := ⟨in_isR_t, by decide +kernel, by decide, ga_mem 10 (by decide +kernel), by decide +kernel⟩
theorem kw_Law_7 : Cond.constant "GainTablesLaw" 7 (2147483647 : Int32) ∈ ga_T := ga_mem 578 (by decide +kernel)
theorem kl_Law_8 : Cond.constantLong "GainTablesLaw" 8 (7 : Int64) ∈ ga_T := ga_mem 582 (by decide +kernel)
theorem kl_Law_10 : Cond.constantLong "GainTablesLaw" 10 (31 : Int64) ∈ ga_T := ga_mem 583 (by decide +kernel)
theorem lk_Law_12 : ga_LV "GainTablesLaw" 12 mt_GT_count 1 := ⟨in_GT_count, ga_mem 529 (by decide +kernel), ga_mem 530 (by decide +kernel), ga_mem 531 (by decide +kernel), by decide +kernel⟩
theorem lk_Law_18 : ga_LV "GainTablesLaw" 18 mt_GT_axis 2 := ⟨in_GT_axis, ga_mem 584 (by decide +kernel), ga_mem 585 (by decide +kernel), ga_mem 586 (by decide +kernel), by decide +kernel⟩
theorem lk_Law_22 : ga_LV "GainTablesLaw" 22 mt_GT_border 3 := ⟨in_GT_border, ga_mem 593 (by decide +kernel), ga_mem 594 (by decide +kernel), ga_mem 595 (by decide +kernel), by decide +kernel⟩
theorem lk_Law_26 : ga_LV "GainTablesLaw" 26 mt_GT_region 3 := ⟨in_GT_region, ga_mem 604 (by decide +kernel), ga_mem 605 (by decide +kernel), ga_mem 606 (by decide +kernel), by decide +kernel⟩
theorem lk_Law_29 : ga_LV "GainTablesLaw" 29 mt_GT_operator 2 := ⟨in_GT_operator, ga_mem 609 (by decide +kernel), ga_mem 610 (by decide +kernel), ga_mem 611 (by decide +kernel), by decide +kernel⟩
theorem lk_Law_32 : ga_LV "GainTablesLaw" 32 mt_GT_account 1 := ⟨in_GT_account, ga_mem 617 (by decide +kernel), ga_mem 618 (by decide +kernel), ga_mem 619 (by decide +kernel), by decide +kernel⟩
theorem lk_Law_35 : ga_LV "GainTablesLaw" 35 mt_GT_gain 2 := ⟨in_GT_gain, ga_mem 625 (by decide +kernel), ga_mem 626 (by decide +kernel), ga_mem 627 (by decide +kernel), by decide +kernel⟩
theorem lk_Law_38 : ga_LV "GainTablesLaw" 38 mt_GT_trail 2 := ⟨in_GT_trail, ga_mem 629 (by decide +kernel), ga_mem 630 (by decide +kernel), ga_mem 631 (by decide +kernel), by decide +kernel⟩
theorem lk_Law_41 : ga_LS "GainTablesLaw" 41 mt_Law_low 2 := ⟨in_Law_low, ga_mem 575 (by decide +kernel), ga_mem 576 (by decide +kernel), by decide +kernel⟩
theorem lk_Law_46 : ga_LV "GainTablesLaw" 46 mt_GT_addBorder 4 := ⟨in_GT_addBorder, ga_mem 261 (by decide +kernel), ga_mem 262 (by decide +kernel), ga_mem 263 (by decide +kernel), by decide +kernel⟩
theorem lk_Law_50 : ga_LV "GainTablesLaw" 50 mt_GT_removeBorder 2 := ⟨in_GT_removeBorder, ga_mem 644 (by decide +kernel), ga_mem 645 (by decide +kernel), ga_mem 646 (by decide +kernel), by decide +kernel⟩
theorem lk_Law_53 : ga_LV "GainTablesLaw" 53 mt_GT_setReach 3 := ⟨in_GT_setReach, ga_mem 660 (by decide +kernel), ga_mem 661 (by decide +kernel), ga_mem 662 (by decide +kernel), by decide +kernel⟩
theorem lk_Law_56 : ga_LV "GainTablesLaw" 56 mt_GT_setOperator 3 := ⟨in_GT_setOperator, ga_mem 669 (by decide +kernel), ga_mem 670 (by decide +kernel), ga_mem 671 (by decide +kernel), by decide +kernel⟩
theorem lk_Law_59 : ga_LV "GainTablesLaw" 59 mt_GT_edit 5 := ⟨in_GT_edit, ga_mem 376 (by decide +kernel), ga_mem 377 (by decide +kernel), ga_mem 378 (by decide +kernel), by decide +kernel⟩
theorem lk_Law_63 : ga_LV "GainTablesLaw" 63 mt_GT_scale 3 := ⟨in_GT_scale, ga_mem 674 (by decide +kernel), ga_mem 675 (by decide +kernel), ga_mem 676 (by decide +kernel), by decide +kernel⟩
theorem lk_Law_66 : ga_LV "GainTablesLaw" 66 mt_GT_lock 4 := ⟨in_GT_lock, ga_mem 678 (by decide +kernel), ga_mem 679 (by decide +kernel), ga_mem 680 (by decide +kernel), by decide +kernel⟩
theorem lk_Law_69 : ga_LV "GainTablesLaw" 69 mt_GT_setMargin 1 := ⟨in_GT_setMargin, ga_mem 411 (by decide +kernel), ga_mem 412 (by decide +kernel), ga_mem 413 (by decide +kernel), by decide +kernel⟩
theorem lk_Law_72 : ga_LV "GainTablesLaw" 72 mt_GT_move 2 := ⟨in_GT_move, ga_mem 415 (by decide +kernel), ga_mem 416 (by decide +kernel), ga_mem 417 (by decide +kernel), by decide +kernel⟩
theorem lk_Law_75 : ga_LV "GainTablesLaw" 75 mt_GT_sweep 3 := ⟨in_GT_sweep, ga_mem 505 (by decide +kernel), ga_mem 506 (by decide +kernel), ga_mem 507 (by decide +kernel), by decide +kernel⟩
theorem lk_Law_78 : ga_LV "GainTablesLaw" 78 mt_GT_take 1 := ⟨in_GT_take, ga_mem 683 (by decide +kernel), ga_mem 684 (by decide +kernel), ga_mem 685 (by decide +kernel), by decide +kernel⟩
theorem lk_Law_81 : ga_LV "GainTablesLaw" 81 mt_GT_restore 1 := ⟨in_GT_restore, ga_mem 695 (by decide +kernel), ga_mem 696 (by decide +kernel), ga_mem 697 (by decide +kernel), by decide +kernel⟩
theorem lc_Law_13 : Cond.classLink "GainTablesLaw" 13 "GainTables" ∈ ga_T := ga_mem 22 (by decide +kernel)
theorem ic_GT : Cond.instantiable "GainTables" 9 ∈ ga_T ∧ Cond.initialized "GainTables" ∈ ga_T := ⟨ga_mem 23 (by decide +kernel), ga_mem 11 (by decide +kernel)⟩
theorem li_Law_84 : gc_LI "GainTablesLaw" 84 mt_GT_init := ⟨in_GT_init, rfl, ga_mem 25 (by decide +kernel), rfl, by decide +kernel, Or.inl (ga_mem 24 (by decide +kernel))⟩
theorem lk_Law_85 : ga_LS "GainTablesLaw" 85 mt_Law_cell 2 := ⟨in_Law_cell, ga_mem 572 (by decide +kernel), ga_mem 573 (by decide +kernel), by decide +kernel⟩
theorem lk_Law_89 : ga_LS "GainTablesLaw" 89 mt_Law_digest 1 := ⟨in_Law_digest, ga_mem 579 (by decide +kernel), ga_mem 580 (by decide +kernel), by decide +kernel⟩
theorem lk_Law_93 : ga_LV "GainTablesLaw" 93 mt_GT_effect 2 := ⟨in_GT_effect, ga_mem 541 (by decide +kernel), ga_mem 542 (by decide +kernel), ga_mem 543 (by decide +kernel), by decide +kernel⟩
theorem lk_Law_96 : ga_LS "GainTablesLaw" 96 mt_Law_act 2 := ⟨in_Law_act, ga_mem 641 (by decide +kernel), ga_mem 642 (by decide +kernel), by decide +kernel⟩
theorem kw_Law_100 : Cond.constant "GainTablesLaw" 100 (-2000000009 : Int32) ∈ ga_T := ga_mem 707 (by decide +kernel)
theorem lk_Law_101 : ga_LS "GainTablesLaw" 101 mt_Law_isRight 1 := ⟨in_Law_isRight, ga_mem 704 (by decide +kernel), ga_mem 705 (by decide +kernel), by decide +kernel⟩
theorem lk_Law_105 : ga_LV "GainTablesLaw" 105 mt_GT_undo 0 := ⟨in_GT_undo, ga_mem 513 (by decide +kernel), ga_mem 514 (by decide +kernel), ga_mem 515 (by decide +kernel), by decide +kernel⟩
theorem kw_Law_109 : Cond.constant "GainTablesLaw" 109 (-2000000001 : Int32) ∈ ga_T := ga_mem 708 (by decide +kernel)
theorem kw_Law_110 : Cond.constant "GainTablesLaw" 110 (-2000000002 : Int32) ∈ ga_T := ga_mem 709 (by decide +kernel)
theorem lk_Law_111 : ga_LV "GainTablesLaw" 111 mt_GT_chatter 4 := ⟨in_GT_chatter, ga_mem 556 (by decide +kernel), ga_mem 557 (by decide +kernel), ga_mem 558 (by decide +kernel), by decide +kernel⟩
theorem lk_Law_114 : ga_LV "GainTablesLaw" 114 mt_GT_valueAt 3 := ⟨in_GT_valueAt, ga_mem 546 (by decide +kernel), ga_mem 547 (by decide +kernel), ga_mem 548 (by decide +kernel), by decide +kernel⟩
theorem lk_Law_117 : ga_LV "GainTablesLaw" 117 mt_GT_steepest 3 := ⟨in_GT_steepest, ga_mem 568 (by decide +kernel), ga_mem 569 (by decide +kernel), ga_mem 570 (by decide +kernel), by decide +kernel⟩
theorem lk_Law_120 : ga_LV "GainTablesLaw" 120 mt_GT_append 1 := ⟨in_GT_append, ga_mem 521 (by decide +kernel), ga_mem 522 (by decide +kernel), ga_mem 523 (by decide +kernel), by decide +kernel⟩
