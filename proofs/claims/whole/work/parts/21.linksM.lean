theorem lkX4_7 : Cond.fieldLink RX4 7 "SplitStoreModel" "thrownCode" "I" ∈ zw_G := zw_mem 516 (by decide +kernel) rfl
theorem lkX4_13 : Cond.fieldLink RX4 13 "SplitStoreModel" "sort" "[I" ∈ zw_G := zw_mem 517 (by decide +kernel) rfl
theorem lkX4_17 : Cond.fieldLink RX4 17 "SplitStoreModel" "order" "[I" ∈ zw_G := zw_mem 518 (by decide +kernel) rfl
theorem lkX4_20 : Cond.fieldLink RX4 20 "SplitStoreModel" "next" "[I" ∈ zw_G := zw_mem 519 (by decide +kernel) rfl
theorem lkX4_23 : Cond.fieldLink RX4 23 "SplitStoreModel" "mark" "[Z" ∈ zw_G := zw_mem 520 (by decide +kernel) rfl
theorem lkX4_27 : Cond.fieldLink RX4 27 "SplitStoreModel" "keyOf" "[I" ∈ zw_G := zw_mem 521 (by decide +kernel) rfl
theorem lkX4_30 : Cond.fieldLink RX4 30 "SplitStoreModel" "valueOf" "[I" ∈ zw_G := zw_mem 522 (by decide +kernel) rfl
theorem lkX4_33 : Cond.fieldLink RX4 33 "SplitStoreModel" "born" "[I" ∈ zw_G := zw_mem 523 (by decide +kernel) rfl
theorem lkX4_36 : Cond.fieldLink RX4 36 "SplitStoreModel" "died" "[I" ∈ zw_G := zw_mem 524 (by decide +kernel) rfl
theorem lkX4_39 : Cond.fieldLink RX4 39 "SplitStoreModel" "buckets" "[I" ∈ zw_G := zw_mem 525 (by decide +kernel) rfl
theorem lkX4_42 : Cond.fieldLink RX4 42 "SplitStoreModel" "size" "I" ∈ zw_G := zw_mem 526 (by decide +kernel) rfl
theorem lkX4_45 : Cond.fieldLink RX4 45 "SplitStoreModel" "count" "I" ∈ zw_G := zw_mem 527 (by decide +kernel) rfl
theorem lkX4_48 : Cond.fieldLink RX4 48 "SplitStoreModel" "era" "I" ∈ zw_G := zw_mem 528 (by decide +kernel) rfl
theorem lkX4_51 : Cond.fieldLink RX4 51 "SplitStoreModel" "place" "[I" ∈ zw_G := zw_mem 529 (by decide +kernel) rfl
theorem lkX4_54 : Cond.fieldLink RX4 54 "SplitStoreModel" "operation" "[I" ∈ zw_G := zw_mem 530 (by decide +kernel) rfl
theorem lkX4_57 : Cond.fieldLink RX4 57 "SplitStoreModel" "key" "[I" ∈ zw_G := zw_mem 531 (by decide +kernel) rfl
theorem lkX4_60 : Cond.fieldLink RX4 60 "SplitStoreModel" "value" "[I" ∈ zw_G := zw_mem 532 (by decide +kernel) rfl
theorem lkX4_63 : Cond.fieldLink RX4 63 "SplitStoreModel" "low" "[I" ∈ zw_G := zw_mem 533 (by decide +kernel) rfl
theorem lkX4_66 : Cond.fieldLink RX4 66 "SplitStoreModel" "high" "[I" ∈ zw_G := zw_mem 534 (by decide +kernel) rfl
theorem lkX4_69 : Cond.fieldLink RX4 69 "SplitStoreModel" "at" "[I" ∈ zw_G := zw_mem 535 (by decide +kernel) rfl
theorem lkX4_72 : Cond.fieldLink RX4 72 "SplitStoreModel" "stack" "[I" ∈ zw_G := zw_mem 536 (by decide +kernel) rfl
theorem lkX4_75 : Cond.fieldLink RX4 75 "SplitStoreModel" "depth" "[I" ∈ zw_G := zw_mem 537 (by decide +kernel) rfl
theorem lkX4_78 : Cond.fieldLink RX4 78 "SplitStoreModel" "from" "[I" ∈ zw_G := zw_mem 538 (by decide +kernel) rfl
theorem lkX4_81 : Cond.fieldLink RX4 81 "SplitStoreModel" "prev" "[I" ∈ zw_G := zw_mem 539 (by decide +kernel) rfl
theorem lkX4_84 : Cond.fieldLink RX4 84 "SplitStoreModel" "cur" "[I" ∈ zw_G := zw_mem 540 (by decide +kernel) rfl
theorem lkX4_87 : Cond.fieldLink RX4 87 "SplitStoreModel" "nxt" "[I" ∈ zw_G := zw_mem 541 (by decide +kernel) rfl
theorem lkX4_90 : Cond.fieldLink RX4 90 "SplitStoreModel" "marked" "[Z" ∈ zw_G := zw_mem 542 (by decide +kernel) rfl
theorem lkX4_93 : Cond.fieldLink RX4 93 "SplitStoreModel" "own" "[I" ∈ zw_G := zw_mem 543 (by decide +kernel) rfl
theorem lkX4_96 : Cond.fieldLink RX4 96 "SplitStoreModel" "given" "[I" ∈ zw_G := zw_mem 544 (by decide +kernel) rfl
theorem lkX4_99 : Cond.fieldLink RX4 99 "SplitStoreModel" "cleans" "[Z" ∈ zw_G := zw_mem 545 (by decide +kernel) rfl
theorem lkX4_102 : Cond.fieldLink RX4 102 "SplitStoreModel" "gone" "[I" ∈ zw_G := zw_mem 546 (by decide +kernel) rfl
theorem lkX4_105 : Cond.fieldLink RX4 105 "SplitStoreModel" "row" "[I" ∈ zw_G := zw_mem 547 (by decide +kernel) rfl
theorem lkX4_108 : Cond.fieldLink RX4 108 "SplitStoreModel" "rows" "[I" ∈ zw_G := zw_mem 548 (by decide +kernel) rfl
theorem lkX4_111 : Cond.fieldLink RX4 111 "SplitStoreModel" "results" "[I" ∈ zw_G := zw_mem 549 (by decide +kernel) rfl
theorem lkX4_121 : Cond.methodLink RX4 121 yX4_in ∈ zw_G := zw_mem 628 (by decide +kernel) rfl
theorem lkX4_125 : Cond.constant RX4 125 1000000 ∈ zw_G := zw_mem 631 (by decide +kernel) rfl
theorem lkX4_164 : Cond.methodLink RX4 164 yX4_oneStep ∈ zw_G := zw_mem 636 (by decide +kernel) rfl
theorem lkX4_118 : Cond.methodLink RX4 118 yX4_hash ∈ zw_G := zw_mem 640 (by decide +kernel) rfl
theorem lkX4_141 : Cond.methodLink RX4 141 yX4_parent ∈ zw_G := zw_mem 643 (by decide +kernel) rfl
theorem lkX4_144 : Cond.methodLink RX4 144 yX4_reads ∈ zw_G := zw_mem 646 (by decide +kernel) rfl
theorem lkX4_133 : Cond.methodLink RX4 133 yX4_over ∈ zw_G := zw_mem 650 (by decide +kernel) rfl
theorem lkX4_126 : Cond.methodLink RX4 126 yX4_ends ∈ zw_G := zw_mem 654 (by decide +kernel) rfl
theorem lkX4_148 : Cond.methodLink RX4 148 yX4_look ∈ zw_G := zw_mem 658 (by decide +kernel) rfl
theorem lkX4_130 : Cond.methodLink RX4 130 yX4_wanted ∈ zw_G := zw_mem 662 (by decide +kernel) rfl
theorem lkX4_114 : Cond.methodLink RX4 114 yX4_turned ∈ zw_G := zw_mem 666 (by decide +kernel) rfl
theorem lkX4_137 : Cond.methodLink RX4 137 yX4_change ∈ zw_G := zw_mem 669 (by decide +kernel) rfl
theorem lkX4_152 : Cond.methodLink RX4 152 yX4_retire ∈ zw_G := zw_mem 673 (by decide +kernel) rfl
theorem lkX4_155 : Cond.methodLink RX4 155 yX4_prepare ∈ zw_G := zw_mem 677 (by decide +kernel) rfl
theorem lkX4_158 : Cond.methodLink RX4 158 yX4_putIn ∈ zw_G := zw_mem 681 (by decide +kernel) rfl
theorem lkX4_161 : Cond.methodLink RX4 161 yX4_giveBack ∈ zw_G := zw_mem 685 (by decide +kernel) rfl
set_option maxRecDepth 20000 in
theorem pk_X4_thrown : zw_Vt yX4_thrown cX4_thrown 1 (some .int) 0 := ⟨zw_mem 621 (by decide +kernel) rfl, zw_mem 622 (by decide +kernel) rfl, zw_mem 44 (by decide +kernel) rfl, zw_mem 623 rfl rfl, by decide +kernel⟩
set_option maxRecDepth 20000 in
theorem pk_X4_in : zw_St yX4_in cX4_in 3 (some .boolean) 3 := ⟨zw_mem 629 (by decide +kernel) rfl, zw_mem 44 (by decide +kernel) rfl, zw_mem 630 rfl rfl, by decide +kernel⟩
set_option maxRecDepth 20000 in
theorem pk_X4_turned : zw_St yX4_turned cX4_turned 3 (some .int) 1 := ⟨zw_mem 667 (by decide +kernel) rfl, zw_mem 44 (by decide +kernel) rfl, zw_mem 668 rfl rfl, by decide +kernel⟩
set_option maxRecDepth 20000 in
theorem pk_X4_hash : zw_St yX4_hash cX4_hash 1 (some .int) 1 := ⟨zw_mem 641 (by decide +kernel) rfl, zw_mem 44 (by decide +kernel) rfl, zw_mem 642 rfl rfl, by decide +kernel⟩
set_option maxRecDepth 20000 in
theorem pk_X4_parent : zw_St yX4_parent cX4_parent 2 (some .int) 1 := ⟨zw_mem 644 (by decide +kernel) rfl, zw_mem 44 (by decide +kernel) rfl, zw_mem 645 rfl rfl, by decide +kernel⟩
set_option maxRecDepth 20000 in
theorem pk_X4_wanted : zw_Vt yX4_wanted cX4_wanted 2 (some .int) 1 := ⟨zw_mem 664 (by decide +kernel) rfl, zw_mem 33 (by decide +kernel) rfl, zw_mem 44 (by decide +kernel) rfl, zw_mem 665 rfl rfl, by decide +kernel⟩
set_option maxRecDepth 20000 in
theorem pk_X4_reads : zw_Vt yX4_reads cX4_reads 2 (some .boolean) 1 := ⟨zw_mem 648 (by decide +kernel) rfl, zw_mem 29 (by decide +kernel) rfl, zw_mem 44 (by decide +kernel) rfl, zw_mem 649 rfl rfl, by decide +kernel⟩
set_option maxRecDepth 20000 in
theorem pk_X4_change : zw_Vt yX4_change cX4_change 5 (some .boolean) 4 := ⟨zw_mem 671 (by decide +kernel) rfl, zw_mem 34 (by decide +kernel) rfl, zw_mem 44 (by decide +kernel) rfl, zw_mem 672 rfl rfl, by decide +kernel⟩
set_option maxRecDepth 20000 in
theorem pk_X4_retire : zw_Vt yX4_retire cX4_retire 3 none 2 := ⟨zw_mem 675 (by decide +kernel) rfl, zw_mem 35 (by decide +kernel) rfl, zw_mem 44 (by decide +kernel) rfl, zw_mem 676 rfl rfl, by decide +kernel⟩
set_option maxRecDepth 20000 in
theorem pk_X4_ends : zw_Vt yX4_ends cX4_ends 3 none 2 := ⟨zw_mem 656 (by decide +kernel) rfl, zw_mem 31 (by decide +kernel) rfl, zw_mem 44 (by decide +kernel) rfl, zw_mem 657 rfl rfl, by decide +kernel⟩
set_option maxRecDepth 20000 in
theorem pk_X4_over : zw_Vt yX4_over cX4_over 3 none 2 := ⟨zw_mem 652 (by decide +kernel) rfl, zw_mem 30 (by decide +kernel) rfl, zw_mem 44 (by decide +kernel) rfl, zw_mem 653 rfl rfl, by decide +kernel⟩
set_option maxRecDepth 20000 in
theorem pk_X4_look : zw_Vt yX4_look cX4_look 3 none 1 := ⟨zw_mem 660 (by decide +kernel) rfl, zw_mem 32 (by decide +kernel) rfl, zw_mem 44 (by decide +kernel) rfl, zw_mem 661 rfl rfl, by decide +kernel⟩
set_option maxRecDepth 20000 in
theorem pk_X4_prepare : zw_Vt yX4_prepare cX4_prepare 3 none 1 := ⟨zw_mem 679 (by decide +kernel) rfl, zw_mem 36 (by decide +kernel) rfl, zw_mem 44 (by decide +kernel) rfl, zw_mem 680 rfl rfl, by decide +kernel⟩
set_option maxRecDepth 20000 in
theorem pk_X4_putIn : zw_Vt yX4_putIn cX4_putIn 2 none 1 := ⟨zw_mem 683 (by decide +kernel) rfl, zw_mem 37 (by decide +kernel) rfl, zw_mem 44 (by decide +kernel) rfl, zw_mem 684 rfl rfl, by decide +kernel⟩
set_option maxRecDepth 20000 in
theorem pk_X4_giveBack : zw_Vt yX4_giveBack cX4_giveBack 7 none 1 := ⟨zw_mem 687 (by decide +kernel) rfl, zw_mem 38 (by decide +kernel) rfl, zw_mem 44 (by decide +kernel) rfl, zw_mem 688 rfl rfl, by decide +kernel⟩
set_option maxRecDepth 20000 in
theorem pk_X4_oneStep : zw_Vt yX4_oneStep cX4_oneStep 4 none 1 := ⟨zw_mem 638 (by decide +kernel) rfl, zw_mem 28 (by decide +kernel) rfl, zw_mem 44 (by decide +kernel) rfl, zw_mem 639 rfl rfl, by decide +kernel⟩
set_option maxRecDepth 20000 in
theorem pk_X4_start : zw_Vt yX4_start cX4_start 5 (some .boolean) 4 := ⟨zw_mem 625 (by decide +kernel) rfl, zw_mem 626 (by decide +kernel) rfl, zw_mem 44 (by decide +kernel) rfl, zw_mem 627 rfl rfl, by decide +kernel⟩
set_option maxRecDepth 20000 in
theorem pk_X4_step : zw_Vt yX4_step cX4_step 2 (some .int) 1 := ⟨zw_mem 633 (by decide +kernel) rfl, zw_mem 634 (by decide +kernel) rfl, zw_mem 44 (by decide +kernel) rfl, zw_mem 635 rfl rfl, by decide +kernel⟩
set_option maxRecDepth 20000 in
theorem pk_X4_run : zw_Vt yX4_run cX4_run 4 (some .int) 2 := ⟨zw_mem 690 (by decide +kernel) rfl, zw_mem 691 (by decide +kernel) rfl, zw_mem 44 (by decide +kernel) rfl, zw_mem 692 rfl rfl, by decide +kernel⟩
set_option maxRecDepth 20000 in
theorem pk_X4_result : zw_Vt yX4_result cX4_result 2 (some .int) 1 := ⟨zw_mem 694 (by decide +kernel) rfl, zw_mem 695 (by decide +kernel) rfl, zw_mem 44 (by decide +kernel) rfl, zw_mem 696 rfl rfl, by decide +kernel⟩
set_option maxRecDepth 20000 in
theorem pk_X4_process : zw_Vt yX4_process cX4_process 4 (some .int) 2 := ⟨zw_mem 698 (by decide +kernel) rfl, zw_mem 699 (by decide +kernel) rfl, zw_mem 44 (by decide +kernel) rfl, zw_mem 700 rfl rfl, by decide +kernel⟩
set_option maxRecDepth 20000 in
theorem pk_X4_node : zw_Vt yX4_node cX4_node 3 (some .int) 2 := ⟨zw_mem 702 (by decide +kernel) rfl, zw_mem 703 (by decide +kernel) rfl, zw_mem 44 (by decide +kernel) rfl, zw_mem 704 rfl rfl, by decide +kernel⟩
set_option maxRecDepth 20000 in
theorem pk_X4_bucket : zw_Vt yX4_bucket cX4_bucket 2 (some .int) 1 := ⟨zw_mem 706 (by decide +kernel) rfl, zw_mem 707 (by decide +kernel) rfl, zw_mem 44 (by decide +kernel) rfl, zw_mem 708 rfl rfl, by decide +kernel⟩
set_option maxRecDepth 20000 in
theorem pk_X4_total : zw_Vt yX4_total cX4_total 4 (some .int) 1 := ⟨zw_mem 710 (by decide +kernel) rfl, zw_mem 711 (by decide +kernel) rfl, zw_mem 44 (by decide +kernel) rfl, zw_mem 712 rfl rfl, by decide +kernel⟩
