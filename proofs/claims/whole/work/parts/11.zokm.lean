/-! each method's rows hold, by program -/
set_option maxRecDepth 100000 in
theorem zok_X0_init : zOK zX0_init := zok_of (by decide +kernel) (zls_c (zg_in 241 (by decide +kernel) (by decide +kernel)) (zls_c zpt_RX0_9i (zls_c zpt_RX0_15i (zls_c zpt_RX0_19i (zls_c zpt_RX0_22i (zls_c zpt_RX0_25i (zls_c zpt_RX0_28i (zls_c zpt_RX0_31i (zls_c zpt_RX0_34i (zls_c zpt_RX0_37i (zls_c zpt_RX0_40i zls_n)))))))))))
set_option maxRecDepth 100000 in
theorem zok_X0_collect : zOK zX0_collect := zok_of (by decide +kernel) (zls_c zpt_RX0_9 (zls_c zc_RX0_44_v (zls_c zc_RX0_50_v (zls_c zc_RX0_50_v (zls_c zfd_RX0_9 (zls_c zfd_RX0_15 (zls_c zfd_RX0_9 (zls_c zfd_RX0_19 (zls_c zfd_RX0_9 (zls_c zfd_RX0_22 (zls_c zfd_RX0_9 (zls_c zc_RX0_54_s (zls_c zfd_RX0_9 (zls_c zc_RX0_58_v (zls_c zfd_RX0_9 (zls_c zpt_RX0_9 zls_n))))))))))))))))
set_option maxRecDepth 100000 in
theorem zok_X0_lastLine : zOK zX0_lastLine := zok_of (by decide +kernel) (zls_c zc_RX0_44_v (zls_c zc_RX0_50_v zls_n))
set_option maxRecDepth 100000 in
theorem zok_X0_measureBlock : zOK zX0_measureBlock := zok_of (by decide +kernel) (zls_c zc_RX0_62_v (zls_c zfd_RX0_15 (zls_c zc_RX0_66_v (zls_c zc_RX0_72_v (zls_c zfd_RX0_28 (zls_c zc_RX0_76_v (zls_c zfd_RX0_28 (zls_c zc_RX0_79_v (zls_c zfd_RX0_25 (zls_c zfd_RX0_31 (zls_c zc_RX0_82_v zls_n)))))))))))
set_option maxRecDepth 100000 in
theorem zok_X0_addNumbers : zOK zX0_addNumbers := zok_of (by decide +kernel) (zls_c zfd_RX0_34 (zls_c zfd_RX0_40 (zls_c zfd_RX0_19 (zls_c zfd_RX0_22 (zls_c zfd_RX0_15 (zls_c zc_RX0_85_v (zls_c zfd_RX0_34 (zls_c zfd_RX0_40 (zls_c zfd_RX0_15 (zls_c zc_RX0_89_v zls_n))))))))))
set_option maxRecDepth 100000 in
theorem zok_X0_isDecimal : zOK zX0_isDecimal := zok_of (by decide +kernel) (zls_c zfd_RX0_19 (zls_c zfd_RX0_22 (zls_c zfd_RX0_15 (zls_c zc_RX0_85_v (zls_c zfd_RX0_34 zls_n)))))
set_option maxRecDepth 100000 in
theorem zok_X0_measureDecimal : zOK zX0_measureDecimal := zok_of (by decide +kernel) (zls_c zfd_RX0_15 (zls_c zfd_RX0_19 (zls_c zfd_RX0_22 (zls_c zc_RX0_93_v (zls_c zc_RX0_85_v (zls_c zc_RX0_96_v (zls_c (zg_in 394 (by decide +kernel) (by decide +kernel)) (zls_c zc_RX0_96_v (zls_c (zg_in 394 (by decide +kernel) (by decide +kernel)) (zls_c (zg_in 394 (by decide +kernel) (by decide +kernel)) (zls_c zfd_RX0_37 (zls_c zfd_RX0_31 (zls_c (zg_in 394 (by decide +kernel) (by decide +kernel)) zls_n)))))))))))))
set_option maxRecDepth 100000 in
theorem zok_X0_measurePlain : zOK zX0_measurePlain := zok_of (by decide +kernel) (zls_c zfd_RX0_19 (zls_c zfd_RX0_22 (zls_c zfd_RX0_15 (zls_c zc_RX0_93_v (zls_c (zg_in 394 (by decide +kernel) (by decide +kernel)) (zls_c zfd_RX0_37 (zls_c zfd_RX0_31 zls_n)))))))
set_option maxRecDepth 100000 in
theorem zok_X0_size : zOK zX0_size := zok_of (by decide +kernel) (zls_c zfd_RX0_9 zls_n)
set_option maxRecDepth 100000 in
theorem zok_X0_has : zOK zX0_has := zok_of (by decide +kernel) (zls_c zfd_RX0_9 zls_n)
set_option maxRecDepth 100000 in
theorem zok_X0_fact : zOK zX0_fact := zok_of (by decide +kernel) (zls_c zc_RX0_104_v (zls_c zfd_RX0_15 (zls_c zfd_RX0_19 (zls_c zfd_RX0_22 (zls_c zfd_RX0_25 (zls_c zfd_RX0_28 (zls_c zfd_RX0_31 (zls_c zfd_RX0_34 (zls_c zfd_RX0_37 zls_n)))))))))
set_option maxRecDepth 100000 in
theorem zok_X0_column : zOK zX0_column := zok_of (by decide +kernel) (zls_c zc_RX0_104_v (zls_c zfd_RX0_15 zls_n))
set_option maxRecDepth 100000 in
theorem zok_X0_first : zOK zX0_first := zok_of (by decide +kernel) (zls_c zc_RX0_104_v (zls_c zfd_RX0_19 zls_n))
set_option maxRecDepth 100000 in
theorem zok_X0_last : zOK zX0_last := zok_of (by decide +kernel) (zls_c zc_RX0_104_v (zls_c zfd_RX0_22 zls_n))
set_option maxRecDepth 100000 in
theorem zok_X0_width : zOK zX0_width := zok_of (by decide +kernel) (zls_c zc_RX0_104_v (zls_c zfd_RX0_25 zls_n))
set_option maxRecDepth 100000 in
theorem zok_X0_alignment : zOK zX0_alignment := zok_of (by decide +kernel) (zls_c zc_RX0_104_v (zls_c zfd_RX0_28 zls_n))
set_option maxRecDepth 100000 in
theorem zok_X0_numbers : zOK zX0_numbers := zok_of (by decide +kernel) (zls_c zc_RX0_104_v (zls_c zfd_RX0_34 zls_n))
set_option maxRecDepth 100000 in
theorem zok_X0_fractionWidth : zOK zX0_fractionWidth := zok_of (by decide +kernel) (zls_c zc_RX0_104_v (zls_c zfd_RX0_37 zls_n))
set_option maxRecDepth 100000 in
theorem zok_X0_total : zOK zX0_total := zok_of (by decide +kernel) (zls_c zc_RX0_104_v (zls_c zfd_RX0_40 zls_n))
set_option maxRecDepth 100000 in
theorem zok_X0_countBetween : zOK zX0_countBetween := zok_of (by decide +kernel) (zls_c zfd_RX0_9 (zls_c zfd_RX0_19 (zls_c zfd_RX0_22 zls_n)))
set_option maxRecDepth 100000 in
theorem zok_X0_mixInto : zOK zX0_mixInto := zok_of (by decide +kernel) (zls_c zfd_RX0_9 (zls_c zc_RX0_108_v (zls_c zc_RX0_111_s (zls_c zfd_RX0_40 (zls_c zc_RX0_111_s zls_n)))))
set_option maxRecDepth 100000 in
theorem zok_X1_init : zOK zX1_init := zok_of (by decide +kernel) (zls_c (zg_in 212 (by decide +kernel) (by decide +kernel)) (zls_c zpt_RX1_9i (zls_c zpt_RX1_15i (zls_c zpt_RX1_19i (zls_c zpt_RX1_22i (zls_c zpt_RX1_25i (zls_c zpt_RX1_28i (zls_c zpt_RX1_31i zls_n))))))))
set_option maxRecDepth 100000 in
theorem zok_X1_read : zOK zX1_read := zok_of (by decide +kernel) (zls_c zc_RX1_35_v (zls_c zc_RX1_41_v (zls_c zc_RX1_45_v (zls_c zc_RX1_45_v zls_n))))
set_option maxRecDepth 100000 in
theorem zok_X1_readCell : zOK zX1_readCell := zok_of (by decide +kernel) (zls_c zc_RX1_49_s (zls_c zc_RX1_53_s (zls_c zfd_RX1_19 (zls_c zfd_RX1_22 (zls_c zfd_RX1_25 (zls_c zfd_RX1_28 (zls_c zc_RX1_59_s (zls_c zfd_RX1_31 (zls_c zc_RX1_62_s (zls_c zfd_RX1_15 (zls_c zpt_RX1_9 zls_n)))))))))))
set_option maxRecDepth 100000 in
theorem zok_X1_slot : zOK zX1_slot := zok_of (by decide +kernel) zls_n
set_option maxRecDepth 100000 in
theorem zok_X1_lines : zOK zX1_lines := zok_of (by decide +kernel) (zls_c zfd_RX1_9 zls_n)
set_option maxRecDepth 100000 in
theorem zok_X1_hasLine : zOK zX1_hasLine := zok_of (by decide +kernel) (zls_c zfd_RX1_9 zls_n)
set_option maxRecDepth 100000 in
theorem zok_X1_hasCell : zOK zX1_hasCell := zok_of (by decide +kernel) (zls_c zfd_RX1_9 (zls_c zfd_RX1_15 zls_n))
set_option maxRecDepth 100000 in
theorem zok_X1_endsWithTab : zOK zX1_endsWithTab := zok_of (by decide +kernel) (zls_c zfd_RX1_9 (zls_c zfd_RX1_15 zls_n))
set_option maxRecDepth 100000 in
theorem zok_X1_cellsOf : zOK zX1_cellsOf := zok_of (by decide +kernel) (zls_c zfd_RX1_9 (zls_c zfd_RX1_15 zls_n))
set_option maxRecDepth 100000 in
theorem zok_X1_start : zOK zX1_start := zok_of (by decide +kernel) (zls_c zc_RX1_66_v (zls_c zfd_RX1_19 (zls_c zc_RX1_49_s zls_n)))
set_option maxRecDepth 100000 in
theorem zok_X1_length : zOK zX1_length := zok_of (by decide +kernel) (zls_c zc_RX1_66_v (zls_c zfd_RX1_22 (zls_c zc_RX1_49_s zls_n)))
set_option maxRecDepth 100000 in
theorem zok_X1_kind : zOK zX1_kind := zok_of (by decide +kernel) (zls_c zc_RX1_66_v (zls_c zfd_RX1_25 (zls_c zc_RX1_49_s zls_n)))
set_option maxRecDepth 100000 in
theorem zok_X1_whole : zOK zX1_whole := zok_of (by decide +kernel) (zls_c zc_RX1_66_v (zls_c zfd_RX1_28 (zls_c zc_RX1_49_s zls_n)))
set_option maxRecDepth 100000 in
theorem zok_X1_value : zOK zX1_value := zok_of (by decide +kernel) (zls_c zc_RX1_66_v (zls_c zfd_RX1_31 (zls_c zc_RX1_49_s zls_n)))
set_option maxRecDepth 100000 in
theorem zok_X1_lineStart : zOK zX1_lineStart := zok_of (by decide +kernel) (zls_c zc_RX1_70_v zls_n)
set_option maxRecDepth 100000 in
theorem zok_X1_lineEnd : zOK zX1_lineEnd := zok_of (by decide +kernel) (zls_c zc_RX1_73_v (zls_c zc_RX1_70_v (zls_c zc_RX1_76_v zls_n)))
set_option maxRecDepth 100000 in
theorem zok_X1_hasRoomFor : zOK zX1_hasRoomFor := zok_of (by decide +kernel) (zls_c zfd_RX1_9 (zls_c zc_RX1_73_v (zls_c zc_RX1_76_v zls_n)))
set_option maxRecDepth 100000 in
theorem zok_X1_canErase : zOK zX1_canErase := zok_of (by decide +kernel) (zls_c zc_RX1_76_v (zls_c zc_RX1_79_v (zls_c zc_RX1_76_v (zls_c zc_RX1_82_v (zls_c zc_RX1_76_v (zls_c zc_RX1_73_v (zls_c zc_RX1_73_v zls_n)))))))
set_option maxRecDepth 100000 in
theorem zok_X1_hasFullLine : zOK zX1_hasFullLine := zok_of (by decide +kernel) (zls_c zc_RX1_73_v zls_n)
set_option maxRecDepth 100000 in
theorem zok_X1_cellCount : zOK zX1_cellCount := zok_of (by decide +kernel) (zls_c zfd_RX1_9 (zls_c zc_RX1_73_v zls_n))
set_option maxRecDepth 100000 in
theorem zok_X1_signCount : zOK zX1_signCount := zok_of (by decide +kernel) (zls_c zfd_RX1_9 (zls_c zc_RX1_86_v zls_n))
set_option maxRecDepth 100000 in
theorem zok_X1_signsOf : zOK zX1_signsOf := zok_of (by decide +kernel) (zls_c zc_RX1_73_v (zls_c zc_RX1_76_v zls_n))
set_option maxRecDepth 100000 in
theorem zok_X1_countKind : zOK zX1_countKind := zok_of (by decide +kernel) (zls_c zfd_RX1_9 (zls_c zc_RX1_73_v (zls_c zc_RX1_89_v zls_n)))
set_option maxRecDepth 100000 in
theorem zok_X1_fixedLength : zOK zX1_fixedLength := zok_of (by decide +kernel) (zls_c zc_RX1_73_v (zls_c zc_RX1_76_v (zls_c zc_RX1_79_v zls_n)))
set_option maxRecDepth 100000 in
theorem zok_X2_init : zOK zX2_init := zok_of (by decide +kernel) (zls_c (zg_in 151 (by decide +kernel) (by decide +kernel)) (zls_c zpt_RX2_9i (zls_c zpt_RX2_15i (zls_c zpt_RX2_19i (zls_c zpt_RX2_22i zls_n)))))
set_option maxRecDepth 100000 in
theorem zok_X2_alignment : zOK zX2_alignment := zok_of (by decide +kernel) (zls_c zfd_RX2_9 (zls_c zfd_RX2_9 zls_n))
set_option maxRecDepth 100000 in
theorem zok_X2_padding : zOK zX2_padding := zok_of (by decide +kernel) (zls_c zfd_RX2_15 zls_n)
set_option maxRecDepth 100000 in
theorem zok_X2_changeAlignment : zOK zX2_changeAlignment := zok_of (by decide +kernel) (zls_c zc_RX2_25_v (zls_c zfd_RX2_9 (zls_c zfd_RX2_9 zls_n)))
set_option maxRecDepth 100000 in
theorem zok_X2_allowsSpacing : zOK zX2_allowsSpacing := zok_of (by decide +kernel) zls_n
set_option maxRecDepth 100000 in
theorem zok_X2_changeSpacing : zOK zX2_changeSpacing := zok_of (by decide +kernel) (zls_c zfd_RX2_15 (zls_c zpt_RX2_15 (zls_c zfd_RX2_19 (zls_c zpt_RX2_19 (zls_c zfd_RX2_22 (zls_c zpt_RX2_22 zls_n))))))
set_option maxRecDepth 100000 in
theorem zok_X2_widthFor : zOK zX2_widthFor := zok_of (by decide +kernel) (zls_c zfd_RX2_19 (zls_c (zg_in 403 (by decide +kernel) (by decide +kernel)) (zls_c zfd_RX2_15 (zls_c zfd_RX2_22 (zls_c zfd_RX2_22 (zls_c zfd_RX2_22 (zls_c zfd_RX2_22 zls_n)))))))
set_option maxRecDepth 100000 in
theorem zok_X2_mixInto : zOK zX2_mixInto := zok_of (by decide +kernel) (zls_c zfd_RX2_9 (zls_c zc_RX2_35_s (zls_c zfd_RX2_15 (zls_c zc_RX2_35_s (zls_c zfd_RX2_19 (zls_c zc_RX2_35_s (zls_c zfd_RX2_22 (zls_c zc_RX2_35_s zls_n))))))))
set_option maxRecDepth 100000 in
theorem zok_X3_init : zOK zX3_init := zok_of (by decide +kernel) (zls_c (zg_in 170 (by decide +kernel) (by decide +kernel)) (zls_c (zg_in 171 (by decide +kernel) (by decide +kernel)) (zls_c zpt_RX3_11i (zls_c znw_RX3_9 (zls_c zc_RX3_17_s (zls_c zpt_RX3_18i (zls_c zpt_RX3_22i (zls_c zpt_RX3_26i (zls_c zpt_RX3_29i (zls_c zfd_RX3_11 (zls_c zfd_RX3_18 zls_n)))))))))))
set_option maxRecDepth 100000 in
theorem zok_X3_page : zOK zX3_page := zok_of (by decide +kernel) (zls_c zfd_RX3_18 zls_n)
set_option maxRecDepth 100000 in
theorem zok_X3_undos : zOK zX3_undos := zok_of (by decide +kernel) (zls_c zfd_RX3_26 zls_n)
set_option maxRecDepth 100000 in
theorem zok_X3_redos : zOK zX3_redos := zok_of (by decide +kernel) (zls_c zfd_RX3_29 zls_n)
set_option maxRecDepth 100000 in
theorem zok_X3_save : zOK zX3_save := zok_of (by decide +kernel) (zls_c zc_RX3_32_v (zls_c zfd_RX3_11 (zls_c znw_RX3_9 (zls_c zc_RX3_17_s (zls_c zfd_RX3_11 (zls_c zfd_RX3_18 (zls_c zc_RX3_36_v (zls_c zpt_RX3_18 (zls_c zpt_RX3_22 (zls_c zfd_RX3_26 (zls_c (zg_in 745 (by decide +kernel) (by decide +kernel)) (zls_c zpt_RX3_26 (zls_c zpt_RX3_29 zls_n)))))))))))))
set_option maxRecDepth 100000 in
theorem zok_X3_stepBack : zOK zX3_stepBack := zok_of (by decide +kernel) (zls_c zfd_RX3_26 (zls_c zfd_RX3_22 (zls_c zfd_RX3_22 (zls_c zc_RX3_46_v (zls_c zfd_RX3_26 (zls_c zpt_RX3_26 (zls_c zfd_RX3_29 (zls_c zpt_RX3_29 zls_n))))))))
set_option maxRecDepth 100000 in
theorem zok_X3_stepForward : zOK zX3_stepForward := zok_of (by decide +kernel) (zls_c zfd_RX3_29 (zls_c zc_RX3_32_v (zls_c zc_RX3_46_v (zls_c zfd_RX3_29 (zls_c zpt_RX3_29 (zls_c zfd_RX3_26 (zls_c zpt_RX3_26 zls_n)))))))
set_option maxRecDepth 100000 in
theorem zok_X3_placeBehind : zOK zX3_placeBehind := zok_of (by decide +kernel) (zls_c zfd_RX3_22 (zls_c zfd_RX3_22 zls_n))
set_option maxRecDepth 100000 in
theorem zok_X3_goTo : zOK zX3_goTo := zok_of (by decide +kernel) (zls_c zfd_RX3_11 (zls_c zpt_RX3_18 (zls_c zpt_RX3_22 zls_n)))
set_option maxRecDepth 100000 in
theorem zok_X4_init : zOK zX4_init := zok_of (by decide +kernel) (zls_c (zg_in 137 (by decide +kernel) (by decide +kernel)) (zls_c zpt_RX4_9i (zls_c zpt_RX4_15i zls_n)))
set_option maxRecDepth 100000 in
theorem zok_X4_length : zOK zX4_length := zok_of (by decide +kernel) (zls_c zfd_RX4_15 zls_n)
set_option maxRecDepth 100000 in
theorem zok_X4_isFull : zOK zX4_isFull := zok_of (by decide +kernel) (zls_c zfd_RX4_15 (zls_c zfd_RX4_9 zls_n))
set_option maxRecDepth 100000 in
theorem zok_X4_add : zOK zX4_add := zok_of (by decide +kernel) (zls_c zfd_RX4_15 (zls_c zfd_RX4_9 (zls_c zfd_RX4_9 (zls_c zfd_RX4_15 (zls_c zfd_RX4_15 (zls_c zpt_RX4_15 (zls_c zfd_RX4_15 zls_n)))))))
set_option maxRecDepth 100000 in
theorem zok_X4_empty : zOK zX4_empty := zok_of (by decide +kernel) (zls_c zfd_RX4_15 (zls_c zpt_RX4_15 zls_n))
set_option maxRecDepth 100000 in
theorem zok_X4_codeAt : zOK zX4_codeAt := zok_of (by decide +kernel) (zls_c zfd_RX4_15 (zls_c zfd_RX4_9 zls_n))
set_option maxRecDepth 100000 in
theorem zok_X4_pageCodeAt : zOK zX4_pageCodeAt := zok_of (by decide +kernel) (zls_c zc_RX4_19_v zls_n)
set_option maxRecDepth 100000 in
theorem zok_X4_firstFault : zOK zX4_firstFault := zok_of (by decide +kernel) (zls_c zfd_RX4_15 (zls_c zfd_RX4_9 (zls_c zc_RX4_23_s (zls_c zfd_RX4_15 zls_n))))
set_option maxRecDepth 100000 in
theorem zok_X4_mixInto : zOK zX4_mixInto := zok_of (by decide +kernel) (zls_c zfd_RX4_15 (zls_c zc_RX4_27_s (zls_c zfd_RX4_15 (zls_c zfd_RX4_9 (zls_c zc_RX4_27_s zls_n)))))
set_option maxRecDepth 100000 in
theorem zok_X5_init : zOK zX5_init := zok_of (by decide +kernel) (zls_c (zg_in 206 (by decide +kernel) (by decide +kernel)) (zls_c znw_RX5_9 (zls_c zc_RX5_11_s (zls_c zpt_RX5_12i (zls_c znw_RX5_18 (zls_c zc_RX5_20_s (zls_c zpt_RX5_21i (zls_c zpt_RX5_25i (zls_c zpt_RX5_29i zls_n)))))))))
set_option maxRecDepth 100000 in
theorem zok_X5_placeCells : zOK zX5_placeCells := zok_of (by decide +kernel) (zls_c zfd_RX5_12 (zls_c zc_RX5_32_v (zls_c zfd_RX5_12 (zls_c zc_RX5_36_v (zls_c zfd_RX5_29 (zls_c zc_RX5_40_s (zls_c zfd_RX5_21 (zls_c zc_RX5_44_v (zls_c zfd_RX5_21 (zls_c zc_RX5_47_v (zls_c zfd_RX5_21 (zls_c zc_RX5_50_v (zls_c zfd_RX5_29 (zls_c zfd_RX5_21 (zls_c zc_RX5_53_v (zls_c zc_RX5_40_s (zls_c zfd_RX5_12 (zls_c zc_RX5_32_v (zls_c zc_RX5_56_v zls_n)))))))))))))))))))
set_option maxRecDepth 100000 in
theorem zok_X5_placeCellsOf : zOK zX5_placeCellsOf := zok_of (by decide +kernel) (zls_c zfd_RX5_12 (zls_c zc_RX5_36_v (zls_c zc_RX5_40_s (zls_c zfd_RX5_25 (zls_c zfd_RX5_21 (zls_c zfd_RX5_29 (zls_c zc_RX5_60_v zls_n)))))))
set_option maxRecDepth 100000 in
theorem zok_X5_x : zOK zX5_x := zok_of (by decide +kernel) (zls_c zfd_RX5_12 (zls_c zc_RX5_63_v (zls_c zfd_RX5_25 (zls_c zc_RX5_40_s zls_n))))
set_option maxRecDepth 100000 in
theorem zok_X5_blockNumber : zOK zX5_blockNumber := zok_of (by decide +kernel) (zls_c zfd_RX5_12 (zls_c zc_RX5_63_v (zls_c zfd_RX5_29 (zls_c zc_RX5_40_s zls_n))))
set_option maxRecDepth 100000 in
theorem zok_X5_shift : zOK zX5_shift := zok_of (by decide +kernel) (zls_c zc_RX5_67_v (zls_c zfd_RX5_21 (zls_c zc_RX5_60_v (zls_c zc_RX5_70_v (zls_c zfd_RX5_12 (zls_c zc_RX5_75_v (zls_c zfd_RX5_21 (zls_c zc_RX5_78_v (zls_c zfd_RX5_12 (zls_c zc_RX5_81_v (zls_c zfd_RX5_21 (zls_c zc_RX5_84_v (zls_c zfd_RX5_12 (zls_c zc_RX5_87_v zls_n))))))))))))))
set_option maxRecDepth 100000 in
theorem zok_X5_cellFact : zOK zX5_cellFact := zok_of (by decide +kernel) (zls_c zfd_RX5_12 (zls_c zc_RX5_75_v (zls_c zfd_RX5_12 (zls_c zc_RX5_81_v (zls_c zc_RX5_90_v (zls_c zc_RX5_93_v (zls_c zc_RX5_67_v zls_n)))))))
set_option maxRecDepth 100000 in
theorem zok_X5_lineFact : zOK zX5_lineFact := zok_of (by decide +kernel) (zls_c zfd_RX5_12 (zls_c zc_RX5_36_v (zls_c zc_RX5_97_v (zls_c zfd_RX5_12 (zls_c zc_RX5_100_v (zls_c zfd_RX5_12 (zls_c zc_RX5_103_v zls_n)))))))
set_option maxRecDepth 100000 in
theorem zok_X5_shownLength : zOK zX5_shownLength := zok_of (by decide +kernel) (zls_c zfd_RX5_12 (zls_c zc_RX5_36_v (zls_c zc_RX5_90_v (zls_c zfd_RX5_12 (zls_c zc_RX5_75_v zls_n)))))
set_option maxRecDepth 100000 in
theorem zok_X5_greatestShownLength : zOK zX5_greatestShownLength := zok_of (by decide +kernel) (zls_c zfd_RX5_12 (zls_c zc_RX5_32_v (zls_c zc_RX5_97_v (zls_c (zg_in 514 (by decide +kernel) (by decide +kernel)) zls_n))))
set_option maxRecDepth 100000 in
theorem zok_X5_cellAt : zOK zX5_cellAt := zok_of (by decide +kernel) (zls_c zfd_RX5_12 (zls_c zc_RX5_36_v (zls_c zc_RX5_90_v zls_n)))
set_option maxRecDepth 100000 in
theorem zok_X5_countOtherX : zOK zX5_countOtherX := zok_of (by decide +kernel) (zls_c zfd_RX5_12 (zls_c zc_RX5_32_v (zls_c zfd_RX5_12 (zls_c zc_RX5_36_v (zls_c zfd_RX5_12 (zls_c zc_RX5_63_v (zls_c zc_RX5_90_v (zls_c zc_RX5_90_v zls_n))))))))
set_option maxRecDepth 100000 in
theorem zok_X6_init : zOK zX6_init := zok_of (by decide +kernel) (zls_c (zg_in 890 (by decide +kernel) (by decide +kernel)) (zls_c zpt_RX6_9i (zls_c (zg_in 891 (by decide +kernel) (by decide +kernel)) (zls_c zpt_RX6_21i (zls_c zfd_RX6_21 (zls_c zfd_RX6_9 zls_n))))))
set_option maxRecDepth 100000 in
theorem zok_X6_lineAt : zOK zX6_lineAt := zok_of (by decide +kernel) (zls_c zfd_RX6_21 (zls_c zfd_RX6_9 zls_n))
set_option maxRecDepth 100000 in
theorem zok_X6_move : zOK zX6_move := zok_of (by decide +kernel) (zls_c zfd_RX6_21 (zls_c zfd_RX6_21 (zls_c zfd_RX6_9 (zls_c zfd_RX6_9 (zls_c zfd_RX6_9 (zls_c zfd_RX6_9 (zls_c zfd_RX6_9 (zls_c zfd_RX6_9 zls_n))))))))
set_option maxRecDepth 100000 in
theorem zok_X6_moved : zOK zX6_moved := zok_of (by decide +kernel) (zls_c zfd_RX6_21 (zls_c zfd_RX6_9 zls_n))
set_option maxRecDepth 100000 in
theorem zok_X7_init : zOK zX7_init := zok_of (by decide +kernel) (zls_c (zg_in 177 (by decide +kernel) (by decide +kernel)) (zls_c zpt_RX7_9i (zls_c zpt_RX7_15i zls_n)))
set_option maxRecDepth 100000 in
theorem zok_X7_size : zOK zX7_size := zok_of (by decide +kernel) (zls_c zfd_RX7_15 zls_n)
set_option maxRecDepth 100000 in
theorem zok_X7_codeAt : zOK zX7_codeAt := zok_of (by decide +kernel) (zls_c zfd_RX7_15 (zls_c zfd_RX7_9 zls_n))
set_option maxRecDepth 100000 in
theorem zok_X7_clear : zOK zX7_clear := zok_of (by decide +kernel) (zls_c zpt_RX7_15 zls_n)
set_option maxRecDepth 100000 in
theorem zok_X7_add : zOK zX7_add := zok_of (by decide +kernel) (zls_c zfd_RX7_15 (zls_c zfd_RX7_9 (zls_c zfd_RX7_9 (zls_c zfd_RX7_15 (zls_c zfd_RX7_15 (zls_c zpt_RX7_15 zls_n))))))
set_option maxRecDepth 100000 in
theorem zok_X7_addFrom : zOK zX7_addFrom := zok_of (by decide +kernel) (zls_c zc_RX7_19_v (zls_c zc_RX7_23_v zls_n))
set_option maxRecDepth 100000 in
theorem zok_X7_becomeCopyOf : zOK zX7_becomeCopyOf := zok_of (by decide +kernel) (zls_c zfd_RX7_9 (zls_c zfd_RX7_9 (zls_c zfd_RX7_15 (zls_c (zg_in 742 (by decide +kernel) (by decide +kernel)) (zls_c zfd_RX7_15 (zls_c zpt_RX7_15 zls_n))))))
set_option maxRecDepth 100000 in
theorem zok_X7_put : zOK zX7_put := zok_of (by decide +kernel) (zls_c zc_RX7_33_v (zls_c zfd_RX7_9 zls_n))
set_option maxRecDepth 100000 in
theorem zok_X7_putInput : zOK zX7_putInput := zok_of (by decide +kernel) (zls_c zc_RX7_37_v (zls_c zc_RX7_33_v (zls_c zc_RX7_37_v (zls_c zfd_RX7_9 (zls_c zc_RX7_43_v zls_n)))))
set_option maxRecDepth 100000 in
theorem zok_X7_open : zOK zX7_open := zok_of (by decide +kernel) (zls_c zfd_RX7_15 (zls_c zfd_RX7_9 (zls_c zfd_RX7_15 (zls_c zfd_RX7_9 (zls_c zfd_RX7_9 (zls_c zfd_RX7_15 (zls_c (zg_in 742 (by decide +kernel) (by decide +kernel)) (zls_c zfd_RX7_15 (zls_c zpt_RX7_15 zls_n)))))))))
set_option maxRecDepth 100000 in
theorem zok_X7_cut : zOK zX7_cut := zok_of (by decide +kernel) (zls_c zfd_RX7_15 (zls_c zfd_RX7_15 (zls_c zfd_RX7_9 (zls_c zfd_RX7_9 (zls_c zfd_RX7_15 (zls_c (zg_in 742 (by decide +kernel) (by decide +kernel)) (zls_c zfd_RX7_15 (zls_c zpt_RX7_15 zls_n))))))))
set_option maxRecDepth 100000 in
theorem zok_X7_runStart : zOK zX7_runStart := zok_of (by decide +kernel) (zls_c zc_RX7_19_v zls_n)
set_option maxRecDepth 100000 in
theorem zok_X7_countRuns : zOK zX7_countRuns := zok_of (by decide +kernel) (zls_c zc_RX7_46_v zls_n)
set_option maxRecDepth 100000 in
theorem zok_X7_replaceRuns : zOK zX7_replaceRuns := zok_of (by decide +kernel) (zls_c zc_RX7_46_v (zls_c zc_RX7_50_v (zls_c zc_RX7_54_v zls_n)))
set_option maxRecDepth 100000 in
theorem zok_X8_kindOf : zOK zX8_kindOf := zok_of (by decide +kernel) (zls_c zc_RX8_9_s (zls_c zc_RX8_15_s zls_n))
set_option maxRecDepth 100000 in
theorem zok_X8_isBlank : zOK zX8_isBlank := zok_of (by decide +kernel) (zls_c zc_RX8_18_v zls_n)
set_option maxRecDepth 100000 in
theorem zok_X8_isNumber : zOK zX8_isNumber := zok_of (by decide +kernel) (zls_c zc_RX8_18_v (zls_c zc_RX8_24_s zls_n))
set_option maxRecDepth 100000 in
theorem zok_X8_wholeLength : zOK zX8_wholeLength := zok_of (by decide +kernel) (zls_c zc_RX8_18_v zls_n)
set_option maxRecDepth 100000 in
theorem zok_X8_valueOf : zOK zX8_valueOf := zok_of (by decide +kernel) (zls_c zc_RX8_18_v (zls_c zc_RX8_24_s (zls_c (zg_in 334 (by decide +kernel) (by decide +kernel)) (zls_c zc_RX8_30_s (zls_c (zg_in 336 (by decide +kernel) (by decide +kernel)) (zls_c (zg_in 334 (by decide +kernel) (by decide +kernel)) (zls_c zc_RX8_18_v zls_n)))))))
set_option maxRecDepth 100000 in
theorem zok_X9_init : zOK zX9_init := zok_of (by decide +kernel) (zls_c (zg_in 129 (by decide +kernel) (by decide +kernel)) (zls_c znw_RX9_9 (zls_c zc_RX9_11_s (zls_c zpt_RX9_12i (zls_c znw_RX9_16 (zls_c zc_RX9_18_s (zls_c zpt_RX9_19i (zls_c znw_RX9_23 (zls_c zc_RX9_25_s (zls_c zpt_RX9_26i (zls_c znw_RX9_30 (zls_c zc_RX9_32_s (zls_c zpt_RX9_33i (zls_c znw_RX9_30 (zls_c zc_RX9_32_s (zls_c zpt_RX9_37i (zls_c zfd_RX9_33 (zls_c zc_RX9_40_v zls_n))))))))))))))))))
set_option maxRecDepth 100000 in
theorem zok_X9_append : zOK zX9_append := zok_of (by decide +kernel) (zls_c ⟨by decide, rfl, 46, 48, "not a character", List.mem_of_getElem? (i := 647) (by decide +kernel), (zg_in 606 (by decide +kernel) (by decide +kernel)), (zg_in 117 (by decide +kernel) (by decide +kernel)), ztw_RX9_0_48, (by decide +kernel), Or.inl ⟨(by decide +kernel), (by decide +kernel), (by decide +kernel)⟩⟩ (zls_c zfd_RX9_12 (zls_c zc_RX9_51_v (zls_c ⟨by decide, rfl, 57, 59, "the buffer is full", List.mem_of_getElem? (i := 687) (by decide +kernel), (zg_in 678 (by decide +kernel) (by decide +kernel)), (zg_in 118 (by decide +kernel) (by decide +kernel)), ztw_RX9_1_59, (by decide +kernel), Or.inl ⟨(by decide +kernel), (by decide +kernel), (by decide +kernel)⟩⟩ (zls_c zfd_RX9_12 (zls_c zc_RX9_60_v zls_n))))))
set_option maxRecDepth 100000 in
theorem zok_X9_clearInput : zOK zX9_clearInput := zok_of (by decide +kernel) (zls_c zfd_RX9_12 (zls_c zc_RX9_64_v zls_n))
set_option maxRecDepth 100000 in
theorem zok_X9_firstError : zOK zX9_firstError := zok_of (by decide +kernel) (zls_c ⟨by decide, rfl, 68, 48, "no such kind", List.mem_of_getElem? (i := 705) (by decide +kernel), (zg_in 606 (by decide +kernel) (by decide +kernel)), (zg_in 117 (by decide +kernel) (by decide +kernel)), ztw_RX9_0_48, (by decide +kernel), Or.inl ⟨(by decide +kernel), (by decide +kernel), (by decide +kernel)⟩⟩ (zls_c zfd_RX9_12 (zls_c zc_RX9_70_v zls_n)))
set_option maxRecDepth 100000 in
theorem zok_X9_load : zOK zX9_load := zok_of (by decide +kernel) (zls_c zc_RX9_73_v (zls_c zfd_RX9_26 (zls_c zc_RX9_77_v (zls_c zc_RX9_81_v (zls_c zfd_RX9_12 (zls_c zc_RX9_86_v (zls_c zfd_RX9_12 (zls_c zc_RX9_64_v (zls_c zfd_RX9_33 (zls_c zc_RX9_40_v (zls_c zc_RX9_90_v (zls_c zc_RX9_94_v zls_n))))))))))))
set_option maxRecDepth 100000 in
theorem zok_X9_type : zOK zX9_type := zok_of (by decide +kernel) (zls_c zc_RX9_99_v (zls_c zc_RX9_90_v (zls_c zc_RX9_103_v (zls_c zfd_RX9_26 (zls_c zc_RX9_77_v (zls_c zc_RX9_107_v (zls_c zfd_RX9_33 (zls_c zc_RX9_40_v (zls_c zc_RX9_90_v (zls_c zc_RX9_94_v (zls_c zc_RX9_90_v (zls_c zc_RX9_111_v (zls_c zc_RX9_90_v (zls_c zc_RX9_114_v zls_n))))))))))))))
set_option maxRecDepth 100000 in
theorem zok_X9_erase : zOK zX9_erase := zok_of (by decide +kernel) (zls_c zc_RX9_117_v (zls_c zc_RX9_90_v (zls_c zc_RX9_121_v (zls_c ⟨by decide, rfl, 125, 59, "nothing can be erased here", List.mem_of_getElem? (i := 833) (by decide +kernel), (zg_in 678 (by decide +kernel) (by decide +kernel)), (zg_in 118 (by decide +kernel) (by decide +kernel)), ztw_RX9_1_59, (by decide +kernel), Or.inl ⟨(by decide +kernel), (by decide +kernel), (by decide +kernel)⟩⟩ (zls_c zc_RX9_90_v (zls_c zc_RX9_103_v (zls_c zfd_RX9_26 (zls_c zc_RX9_127_v (zls_c zc_RX9_130_v (zls_c zfd_RX9_26 (zls_c zc_RX9_77_v (zls_c zc_RX9_133_v (zls_c zfd_RX9_33 (zls_c zc_RX9_40_v zls_n))))))))))))))
set_option maxRecDepth 100000 in
theorem zok_X9_setCell : zOK zX9_setCell := zok_of (by decide +kernel) (zls_c zc_RX9_136_v (zls_c zc_RX9_73_v (zls_c zc_RX9_90_v (zls_c zc_RX9_103_v (zls_c zc_RX9_90_v (zls_c zc_RX9_114_v (zls_c zfd_RX9_26 (zls_c zc_RX9_77_v (zls_c zc_RX9_133_v (zls_c zfd_RX9_12 (zls_c zc_RX9_86_v (zls_c zfd_RX9_12 (zls_c zc_RX9_64_v (zls_c zfd_RX9_33 (zls_c zc_RX9_40_v zls_n)))))))))))))))
set_option maxRecDepth 100000 in
theorem zok_X9_insertLine : zOK zX9_insertLine := zok_of (by decide +kernel) (zls_c zc_RX9_90_v (zls_c zc_RX9_94_v (zls_c ⟨by decide, rfl, 141, 143, "no such place for a line", List.mem_of_getElem? (i := 852) (by decide +kernel), (zg_in 790 (by decide +kernel) (by decide +kernel)), (zg_in 120 (by decide +kernel) (by decide +kernel)), ztw_RX9_2_143, (by decide +kernel), Or.inl ⟨(by decide +kernel), (by decide +kernel), (by decide +kernel)⟩⟩ (zls_c zc_RX9_73_v (zls_c ⟨by decide, rfl, 144, 59, "there are 24 lines", List.mem_of_getElem? (i := 853) (by decide +kernel), (zg_in 678 (by decide +kernel) (by decide +kernel)), (zg_in 118 (by decide +kernel) (by decide +kernel)), ztw_RX9_1_59, (by decide +kernel), Or.inl ⟨(by decide +kernel), (by decide +kernel), (by decide +kernel)⟩⟩ (zls_c zfd_RX9_26 (zls_c zc_RX9_127_v (zls_c zc_RX9_146_v (zls_c zc_RX9_90_v (zls_c zc_RX9_149_v (zls_c zfd_RX9_26 (zls_c zc_RX9_77_v (zls_c zc_RX9_107_v (zls_c zfd_RX9_12 (zls_c zc_RX9_86_v (zls_c zfd_RX9_12 (zls_c zc_RX9_64_v (zls_c zfd_RX9_33 (zls_c zc_RX9_40_v (zls_c zc_RX9_90_v (zls_c zc_RX9_94_v zls_n)))))))))))))))))))))
set_option maxRecDepth 100000 in
theorem zok_X9_removeLine : zOK zX9_removeLine := zok_of (by decide +kernel) (zls_c zc_RX9_152_v (zls_c zc_RX9_90_v (zls_c zc_RX9_94_v (zls_c ⟨by decide, rfl, 155, 59, "there is only one line", List.mem_of_getElem? (i := 873) (by decide +kernel), (zg_in 678 (by decide +kernel) (by decide +kernel)), (zg_in 118 (by decide +kernel) (by decide +kernel)), ztw_RX9_1_59, (by decide +kernel), Or.inl ⟨(by decide +kernel), (by decide +kernel), (by decide +kernel)⟩⟩ (zls_c zc_RX9_90_v (zls_c zc_RX9_94_v (zls_c zc_RX9_90_v (zls_c zc_RX9_149_v (zls_c zc_RX9_90_v (zls_c zc_RX9_157_v (zls_c zfd_RX9_26 (zls_c zc_RX9_77_v (zls_c zc_RX9_133_v (zls_c zfd_RX9_33 (zls_c zc_RX9_40_v (zls_c zc_RX9_90_v (zls_c zc_RX9_94_v zls_n)))))))))))))))))
set_option maxRecDepth 100000 in
theorem zok_X9_moveLine : zOK zX9_moveLine := zok_of (by decide +kernel) (zls_c zc_RX9_152_v (zls_c zc_RX9_152_v (zls_c znw_RX9_160 (zls_c zc_RX9_90_v (zls_c zc_RX9_94_v (zls_c zc_RX9_162_s (zls_c zc_RX9_164_v (zls_c zc_RX9_167_v (zls_c zfd_RX9_33 (zls_c zc_RX9_40_v (zls_c zfd_RX9_33 (zls_c zfd_RX9_171 (zls_c zc_RX9_175_v zls_n)))))))))))))
set_option maxRecDepth 100000 in
theorem zok_X9_sort : zOK zX9_sort := zok_of (by decide +kernel) (zls_c zc_RX9_178_v (zls_c zfd_RX9_33 (zls_c zfd_RX9_171 (zls_c zc_RX9_181_v (zls_c zfd_RX9_33 (zls_c zfd_RX9_171 (zls_c zc_RX9_184_v (zls_c ⟨by decide, rfl, 187, 48, "skip is out of range", List.mem_of_getElem? (i := 935) (by decide +kernel), (zg_in 606 (by decide +kernel) (by decide +kernel)), (zg_in 117 (by decide +kernel) (by decide +kernel)), ztw_RX9_0_48, (by decide +kernel), Or.inl ⟨(by decide +kernel), (by decide +kernel), (by decide +kernel)⟩⟩ (zls_c znw_RX9_160 (zls_c zc_RX9_90_v (zls_c zc_RX9_94_v (zls_c zc_RX9_162_s (zls_c zfd_RX9_33 (zls_c zfd_RX9_171 (zls_c zc_RX9_189_v (zls_c zc_RX9_192_v (zls_c zc_RX9_167_v (zls_c zfd_RX9_33 (zls_c zc_RX9_40_v (zls_c zc_RX9_196_v zls_n))))))))))))))))))))
set_option maxRecDepth 100000 in
theorem zok_X9_insertColumn : zOK zX9_insertColumn := zok_of (by decide +kernel) (zls_c zc_RX9_178_v (zls_c zfd_RX9_33 (zls_c zfd_RX9_171 (zls_c zc_RX9_181_v (zls_c zfd_RX9_33 (zls_c zfd_RX9_171 (zls_c zc_RX9_184_v (zls_c zc_RX9_90_v (zls_c zc_RX9_199_v (zls_c ⟨by decide, rfl, 203, 59, "a line has 8 cells", List.mem_of_getElem? (i := 975) (by decide +kernel), (zg_in 678 (by decide +kernel) (by decide +kernel)), (zg_in 118 (by decide +kernel) (by decide +kernel)), ztw_RX9_1_59, (by decide +kernel), Or.inl ⟨(by decide +kernel), (by decide +kernel), (by decide +kernel)⟩⟩ (zls_c zfd_RX9_33 (zls_c zfd_RX9_171 (zls_c zc_RX9_189_v (zls_c zfd_RX9_26 (zls_c zc_RX9_77_v (zls_c zc_RX9_90_v (zls_c zc_RX9_103_v (zls_c zc_RX9_107_v (zls_c zfd_RX9_33 (zls_c zc_RX9_40_v zls_n))))))))))))))))))))
set_option maxRecDepth 100000 in
theorem zok_X9_removeColumn : zOK zX9_removeColumn := zok_of (by decide +kernel) (zls_c zc_RX9_178_v (zls_c zfd_RX9_33 (zls_c zfd_RX9_171 (zls_c zc_RX9_181_v (zls_c zfd_RX9_33 (zls_c zfd_RX9_171 (zls_c zc_RX9_184_v (zls_c zfd_RX9_33 (zls_c zfd_RX9_171 (zls_c zc_RX9_189_v (zls_c zfd_RX9_26 (zls_c zc_RX9_77_v (zls_c zc_RX9_90_v (zls_c zc_RX9_205_v (zls_c zc_RX9_90_v (zls_c zc_RX9_103_v (zls_c zc_RX9_90_v (zls_c zc_RX9_114_v (zls_c zc_RX9_133_v (zls_c zfd_RX9_33 (zls_c zc_RX9_40_v zls_n)))))))))))))))))))))
set_option maxRecDepth 100000 in
theorem zok_X9_retab : zOK zX9_retab := zok_of (by decide +kernel) (zls_c zc_RX9_152_v (zls_c ⟨by decide, rfl, 208, 48, "gap is out of range", List.mem_of_getElem? (i := 990) (by decide +kernel), (zg_in 606 (by decide +kernel) (by decide +kernel)), (zg_in 117 (by decide +kernel) (by decide +kernel)), ztw_RX9_0_48, (by decide +kernel), Or.inl ⟨(by decide +kernel), (by decide +kernel), (by decide +kernel)⟩⟩ (zls_c zc_RX9_90_v (zls_c zc_RX9_149_v (zls_c zc_RX9_90_v (zls_c zc_RX9_157_v (zls_c zfd_RX9_26 (zls_c zc_RX9_127_v (zls_c zc_RX9_210_v (zls_c zc_RX9_90_v (zls_c zc_RX9_111_v (zls_c ⟨by decide, rfl, 214, 59, "the line would have too many cells", List.mem_of_getElem? (i := 999) (by decide +kernel), (zg_in 678 (by decide +kernel) (by decide +kernel)), (zg_in 118 (by decide +kernel) (by decide +kernel)), ztw_RX9_1_59, (by decide +kernel), Or.inl ⟨(by decide +kernel), (by decide +kernel), (by decide +kernel)⟩⟩ (zls_c zfd_RX9_26 (zls_c zc_RX9_77_v (zls_c zc_RX9_216_v (zls_c zfd_RX9_33 (zls_c zc_RX9_40_v zls_n)))))))))))))))))
set_option maxRecDepth 100000 in
theorem zok_X9_undo : zOK zX9_undo := zok_of (by decide +kernel) (zls_c zfd_RX9_26 (zls_c zc_RX9_219_v (zls_c ⟨by decide, rfl, 222, 59, "nothing is kept for undo", List.mem_of_getElem? (i := 1013) (by decide +kernel), (zg_in 678 (by decide +kernel) (by decide +kernel)), (zg_in 118 (by decide +kernel) (by decide +kernel)), ztw_RX9_1_59, (by decide +kernel), Or.inl ⟨(by decide +kernel), (by decide +kernel), (by decide +kernel)⟩⟩ (zls_c zfd_RX9_26 (zls_c zc_RX9_224_v (zls_c zfd_RX9_33 (zls_c zc_RX9_40_v (zls_c zfd_RX9_26 (zls_c zc_RX9_219_v zls_n)))))))))
set_option maxRecDepth 100000 in
theorem zok_X9_redo : zOK zX9_redo := zok_of (by decide +kernel) (zls_c zfd_RX9_26 (zls_c zc_RX9_227_v (zls_c ⟨by decide, rfl, 230, 59, "nothing is kept for redo", List.mem_of_getElem? (i := 1029) (by decide +kernel), (zg_in 678 (by decide +kernel) (by decide +kernel)), (zg_in 118 (by decide +kernel) (by decide +kernel)), ztw_RX9_1_59, (by decide +kernel), Or.inl ⟨(by decide +kernel), (by decide +kernel), (by decide +kernel)⟩⟩ (zls_c zfd_RX9_26 (zls_c zc_RX9_232_v (zls_c zfd_RX9_33 (zls_c zc_RX9_40_v (zls_c zfd_RX9_26 (zls_c zc_RX9_227_v zls_n)))))))))
set_option maxRecDepth 100000 in
theorem zok_X9_setAlignment : zOK zX9_setAlignment := zok_of (by decide +kernel) (zls_c ⟨by decide, rfl, 235, 48, "no such column or alignment", List.mem_of_getElem? (i := 1041) (by decide +kernel), (zg_in 606 (by decide +kernel) (by decide +kernel)), (zg_in 117 (by decide +kernel) (by decide +kernel)), ztw_RX9_0_48, (by decide +kernel), Or.inl ⟨(by decide +kernel), (by decide +kernel), (by decide +kernel)⟩⟩ (zls_c zfd_RX9_19 (zls_c zc_RX9_237_v (zls_c zfd_RX9_33 (zls_c zc_RX9_40_v zls_n)))))
set_option maxRecDepth 100000 in
theorem zok_X9_setSpacing : zOK zX9_setSpacing := zok_of (by decide +kernel) (zls_c zfd_RX9_19 (zls_c zc_RX9_240_v (zls_c ⟨by decide, rfl, 243, 48, "no such spacing", List.mem_of_getElem? (i := 1058) (by decide +kernel), (zg_in 606 (by decide +kernel) (by decide +kernel)), (zg_in 117 (by decide +kernel) (by decide +kernel)), ztw_RX9_0_48, (by decide +kernel), Or.inl ⟨(by decide +kernel), (by decide +kernel), (by decide +kernel)⟩⟩ (zls_c zfd_RX9_19 (zls_c zc_RX9_245_v (zls_c zfd_RX9_33 (zls_c zc_RX9_40_v zls_n)))))))
set_option maxRecDepth 100000 in
theorem zok_X9_count : zOK zX9_count := zok_of (by decide +kernel) (zls_c ⟨by decide, rfl, 248, 48, "no such number", List.mem_of_getElem? (i := 1070) (by decide +kernel), (zg_in 606 (by decide +kernel) (by decide +kernel)), (zg_in 117 (by decide +kernel) (by decide +kernel)), ztw_RX9_0_48, (by decide +kernel), Or.inl ⟨(by decide +kernel), (by decide +kernel), (by decide +kernel)⟩⟩ (zls_c zc_RX9_250_v zls_n))
set_option maxRecDepth 100000 in
theorem zok_X9_line : zOK zX9_line := zok_of (by decide +kernel) (zls_c zc_RX9_152_v (zls_c ⟨by decide, rfl, 253, 48, "no such property", List.mem_of_getElem? (i := 1078) (by decide +kernel), (zg_in 606 (by decide +kernel) (by decide +kernel)), (zg_in 117 (by decide +kernel) (by decide +kernel)), ztw_RX9_0_48, (by decide +kernel), Or.inl ⟨(by decide +kernel), (by decide +kernel), (by decide +kernel)⟩⟩ (zls_c zfd_RX9_33 (zls_c zc_RX9_255_v zls_n))))
set_option maxRecDepth 100000 in
theorem zok_X9_cell : zOK zX9_cell := zok_of (by decide +kernel) (zls_c zc_RX9_136_v (zls_c ⟨by decide, rfl, 253, 48, "no such property", List.mem_of_getElem? (i := 1078) (by decide +kernel), (zg_in 606 (by decide +kernel) (by decide +kernel)), (zg_in 117 (by decide +kernel) (by decide +kernel)), ztw_RX9_0_48, (by decide +kernel), Or.inl ⟨(by decide +kernel), (by decide +kernel), (by decide +kernel)⟩⟩ (zls_c zfd_RX9_33 (zls_c zfd_RX9_19 (zls_c zc_RX9_258_v zls_n)))))
set_option maxRecDepth 100000 in
theorem zok_X9_letter : zOK zX9_letter := zok_of (by decide +kernel) (zls_c zc_RX9_136_v (zls_c zc_RX9_90_v (zls_c zc_RX9_114_v (zls_c ⟨by decide, rfl, 262, 143, "no sign behind this offset", List.mem_of_getElem? (i := 1093) (by decide +kernel), (zg_in 790 (by decide +kernel) (by decide +kernel)), (zg_in 120 (by decide +kernel) (by decide +kernel)), ztw_RX9_2_143, (by decide +kernel), Or.inr ⟨(by decide +kernel), (by decide +kernel), (by decide +kernel)⟩⟩ (zls_c zc_RX9_264_v zls_n)))))
set_option maxRecDepth 100000 in
theorem zok_X9_shown : zOK zX9_shown := zok_of (by decide +kernel) (zls_c zc_RX9_267_v (zls_c zfd_RX9_33 (zls_c zc_RX9_270_v (zls_c zfd_RX9_33 (zls_c zc_RX9_273_v (zls_c zfd_RX9_33 (zls_c zfd_RX9_19 (zls_c zc_RX9_276_v (zls_c zc_RX9_90_v (zls_c zc_RX9_114_v (zls_c zc_RX9_264_v zls_n)))))))))))
set_option maxRecDepth 100000 in
theorem zok_X9_hit : zOK zX9_hit := zok_of (by decide +kernel) (zls_c zc_RX9_267_v (zls_c zfd_RX9_33 (zls_c zc_RX9_270_v zls_n)))
set_option maxRecDepth 100000 in
theorem zok_X9_find : zOK zX9_find := zok_of (by decide +kernel) (zls_c zc_RX9_136_v (zls_c zc_RX9_73_v (zls_c zc_RX9_90_v (zls_c zc_RX9_94_v (zls_c zc_RX9_90_v (zls_c zc_RX9_111_v (zls_c zc_RX9_280_v zls_n)))))))
set_option maxRecDepth 100000 in
theorem zok_X9_block : zOK zX9_block := zok_of (by decide +kernel) (zls_c zc_RX9_178_v (zls_c ⟨by decide, rfl, 253, 48, "no such property", List.mem_of_getElem? (i := 1078) (by decide +kernel), (zg_in 606 (by decide +kernel) (by decide +kernel)), (zg_in 117 (by decide +kernel) (by decide +kernel)), ztw_RX9_0_48, (by decide +kernel), Or.inl ⟨(by decide +kernel), (by decide +kernel), (by decide +kernel)⟩⟩ (zls_c zfd_RX9_33 (zls_c zfd_RX9_171 (zls_c zc_RX9_283_v zls_n)))))
set_option maxRecDepth 100000 in
theorem zok_X9_sum : zOK zX9_sum := zok_of (by decide +kernel) (zls_c zc_RX9_178_v (zls_c zfd_RX9_33 (zls_c zfd_RX9_171 (zls_c zc_RX9_286_v zls_n))))
set_option maxRecDepth 100000 in
theorem zok_X9_mean : zOK zX9_mean := zok_of (by decide +kernel) (zls_c zc_RX9_178_v (zls_c zfd_RX9_33 (zls_c zfd_RX9_171 (zls_c zc_RX9_290_v (zls_c zfd_RX9_33 (zls_c zfd_RX9_171 (zls_c zc_RX9_286_v zls_n)))))))
set_option maxRecDepth 100000 in
theorem zok_X9_touched : zOK zX9_touched := zok_of (by decide +kernel) (zls_c zc_RX9_152_v (zls_c zfd_RX9_33 (zls_c zfd_RX9_171 (zls_c zc_RX9_293_v zls_n))))
set_option maxRecDepth 100000 in
theorem zok_X9_ifTyped : zOK zX9_ifTyped := zok_of (by decide +kernel) (zls_c zc_RX9_99_v (zls_c zc_RX9_90_v (zls_c zc_RX9_103_v (zls_c zfd_RX9_26 (zls_c zc_RX9_127_v (zls_c zc_RX9_107_v (zls_c zfd_RX9_37 (zls_c zc_RX9_40_v (zls_c zfd_RX9_26 (zls_c zc_RX9_127_v (zls_c zc_RX9_133_v (zls_c zfd_RX9_33 (zls_c zfd_RX9_37 (zls_c zc_RX9_296_v zls_n))))))))))))))
set_option maxRecDepth 100000 in
theorem zok_X9_digest : zOK zX9_digest := zok_of (by decide +kernel) (zls_c (zg_in 470 (by decide +kernel) (by decide +kernel)) (zls_c zc_RX9_250_v (zls_c zc_RX9_302_s (zls_c zfd_RX9_19 (zls_c zc_RX9_306_v (zls_c zc_RX9_90_v (zls_c zc_RX9_94_v (zls_c zc_RX9_310_v (zls_c zfd_RX9_33 (zls_c zfd_RX9_171 (zls_c zc_RX9_314_v (zls_c zfd_RX9_12 (zls_c zc_RX9_315_v zls_n)))))))))))))
set_option maxRecDepth 100000 in
theorem zok_X9_cells : zOK zX9_cells := zok_of (by decide +kernel) (zls_c zfd_RX9_33 (zls_c zfd_RX9_316 zls_n))
set_option maxRecDepth 100000 in
theorem zok_X9_measure : zOK zX9_measure := zok_of (by decide +kernel) (zls_c zfd_RX9_316 (zls_c zfd_RX9_26 (zls_c zc_RX9_127_v (zls_c zc_RX9_319_v (zls_c zfd_RX9_171 (zls_c zfd_RX9_316 (zls_c zfd_RX9_19 (zls_c zc_RX9_323_v (zls_c zc_RX9_327_v zls_n)))))))))
set_option maxRecDepth 100000 in
theorem zok_X9_requireLine : zOK zX9_requireLine := zok_of (by decide +kernel) (zls_c zc_RX9_90_v (zls_c zc_RX9_330_v (zls_c ⟨by decide, rfl, 334, 143, "no such line", List.mem_of_getElem? (i := 872) (by decide +kernel), (zg_in 790 (by decide +kernel) (by decide +kernel)), (zg_in 120 (by decide +kernel) (by decide +kernel)), ztw_RX9_2_143, (by decide +kernel), Or.inr ⟨(by decide +kernel), (by decide +kernel), (by decide +kernel)⟩⟩ zls_n)))
set_option maxRecDepth 100000 in
theorem zok_X9_requireCell : zOK zX9_requireCell := zok_of (by decide +kernel) (zls_c zc_RX9_90_v (zls_c zc_RX9_336_v (zls_c ⟨by decide, rfl, 339, 143, "no such line or cell", List.mem_of_getElem? (i := 799) (by decide +kernel), (zg_in 790 (by decide +kernel) (by decide +kernel)), (zg_in 120 (by decide +kernel) (by decide +kernel)), ztw_RX9_2_143, (by decide +kernel), Or.inr ⟨(by decide +kernel), (by decide +kernel), (by decide +kernel)⟩⟩ zls_n)))
set_option maxRecDepth 100000 in
theorem zok_X9_requireOffset : zOK zX9_requireOffset := zok_of (by decide +kernel) (zls_c zc_RX9_136_v (zls_c zc_RX9_90_v (zls_c zc_RX9_114_v (zls_c ⟨by decide, rfl, 341, 143, "no such offset", List.mem_of_getElem? (i := 806) (by decide +kernel), (zg_in 790 (by decide +kernel) (by decide +kernel)), (zg_in 120 (by decide +kernel) (by decide +kernel)), ztw_RX9_2_143, (by decide +kernel), Or.inr ⟨(by decide +kernel), (by decide +kernel), (by decide +kernel)⟩⟩ zls_n))))
set_option maxRecDepth 100000 in
theorem zok_X9_requireTypable : zOK zX9_requireTypable := zok_of (by decide +kernel) (zls_c zc_RX9_117_v (zls_c zc_RX9_343_s (zls_c ⟨by decide, rfl, 346, 48, "neither a sign nor a tab nor a line end", List.mem_of_getElem? (i := 808) (by decide +kernel), (zg_in 606 (by decide +kernel) (by decide +kernel)), (zg_in 117 (by decide +kernel) (by decide +kernel)), ztw_RX9_0_48, (by decide +kernel), Or.inr ⟨(by decide +kernel), (by decide +kernel), (by decide +kernel)⟩⟩ (zls_c zc_RX9_90_v (zls_c zc_RX9_348_v (zls_c ⟨by decide, rfl, 351, 59, "the cell, the line or the text is full", List.mem_of_getElem? (i := 813) (by decide +kernel), (zg_in 678 (by decide +kernel) (by decide +kernel)), (zg_in 118 (by decide +kernel) (by decide +kernel)), ztw_RX9_1_59, (by decide +kernel), Or.inr ⟨(by decide +kernel), (by decide +kernel), (by decide +kernel)⟩⟩ zls_n))))))
set_option maxRecDepth 100000 in
theorem zok_X9_requireShownPlace : zOK zX9_requireShownPlace := zok_of (by decide +kernel) (zls_c zc_RX9_152_v (zls_c ⟨by decide, rfl, 353, 143, "no such column", List.mem_of_getElem? (i := 1105) (by decide +kernel), (zg_in 790 (by decide +kernel) (by decide +kernel)), (zg_in 120 (by decide +kernel) (by decide +kernel)), ztw_RX9_2_143, (by decide +kernel), Or.inr ⟨(by decide +kernel), (by decide +kernel), (by decide +kernel)⟩⟩ zls_n))
set_option maxRecDepth 100000 in
theorem zok_X9_requireBlock : zOK zX9_requireBlock := zok_of (by decide +kernel) (zls_c zfd_RX9_33 (zls_c zfd_RX9_171 (zls_c zc_RX9_175_v (zls_c ⟨by decide, rfl, 355, 143, "no such block", List.mem_of_getElem? (i := 932) (by decide +kernel), (zg_in 790 (by decide +kernel) (by decide +kernel)), (zg_in 120 (by decide +kernel) (by decide +kernel)), ztw_RX9_2_143, (by decide +kernel), Or.inr ⟨(by decide +kernel), (by decide +kernel), (by decide +kernel)⟩⟩ zls_n))))
set_option maxRecDepth 100000 in
theorem zok_X9_requireInput : zOK zX9_requireInput := zok_of (by decide +kernel) (zls_c zfd_RX9_12 (zls_c zc_RX9_70_v (zls_c zfd_RX9_12 (zls_c zc_RX9_357_v (zls_c ⟨by decide, rfl, 359, 59, "the buffer has a syntax error", List.mem_of_getElem? (i := 729) (by decide +kernel), (zg_in 678 (by decide +kernel) (by decide +kernel)), (zg_in 118 (by decide +kernel) (by decide +kernel)), ztw_RX9_1_59, (by decide +kernel), Or.inr ⟨(by decide +kernel), (by decide +kernel), (by decide +kernel)⟩⟩ zls_n)))))
set_option maxRecDepth 100000 in
theorem zok_X9_signAt : zOK zX9_signAt := zok_of (by decide +kernel) (zls_c zfd_RX9_26 (zls_c zc_RX9_127_v (zls_c zc_RX9_90_v (zls_c zc_RX9_103_v (zls_c zc_RX9_130_v zls_n)))))
set_option maxRecDepth 100000 in
theorem zok_X9_equalsInput : zOK zX9_equalsInput := zok_of (by decide +kernel) (zls_c zc_RX9_90_v (zls_c zc_RX9_114_v (zls_c zfd_RX9_12 (zls_c zc_RX9_357_v (zls_c zfd_RX9_12 (zls_c zc_RX9_357_v (zls_c zc_RX9_264_v (zls_c zfd_RX9_12 (zls_c zc_RX9_361_v zls_n)))))))))
set_option maxRecDepth 100000 in
theorem zok_X9_arrange : zOK zX9_arrange := zok_of (by decide +kernel) (zls_c zfd_RX9_26 (zls_c zc_RX9_127_v (zls_c zfd_RX9_26 (zls_c zc_RX9_77_v (zls_c zc_RX9_81_v (zls_c zc_RX9_90_v (zls_c zc_RX9_94_v (zls_c zc_RX9_362_v (zls_c zc_RX9_365_v (zls_c zc_RX9_90_v (zls_c zc_RX9_149_v (zls_c zc_RX9_90_v (zls_c zc_RX9_157_v (zls_c zc_RX9_367_v zls_n))))))))))))))
set_option maxRecDepth 100000 in
theorem zok_X9_sortLines : zOK zX9_sortLines := zok_of (by decide +kernel) (zls_c zc_RX9_362_v (zls_c zc_RX9_362_v (zls_c zc_RX9_371_v (zls_c zc_RX9_164_v zls_n))))
set_option maxRecDepth 100000 in
theorem zok_X9_comesBefore : zOK zX9_comesBefore := zok_of (by decide +kernel) (zls_c zc_RX9_90_v (zls_c zc_RX9_205_v (zls_c zc_RX9_90_v (zls_c zc_RX9_205_v (zls_c zc_RX9_375_s (zls_c zc_RX9_375_s (zls_c zc_RX9_90_v (zls_c zc_RX9_378_v (zls_c zc_RX9_90_v (zls_c zc_RX9_378_v (zls_c zc_RX9_382_s (zls_c zc_RX9_388_v zls_n))))))))))))
set_option maxRecDepth 100000 in
theorem zok_X9_sortRank : zOK zX9_sortRank := zok_of (by decide +kernel) zls_n
set_option maxRecDepth 100000 in
theorem zok_X9_compareWords : zOK zX9_compareWords := zok_of (by decide +kernel) (zls_c zc_RX9_90_v (zls_c zc_RX9_114_v (zls_c zc_RX9_90_v (zls_c zc_RX9_114_v (zls_c zc_RX9_264_v (zls_c zc_RX9_264_v (zls_c zc_RX9_391_s (zls_c zc_RX9_391_s zls_n))))))))
set_option maxRecDepth 100000 in
theorem zok_X9_countFact : zOK zX9_countFact := zok_of (by decide +kernel) (zls_c zc_RX9_90_v (zls_c zc_RX9_94_v (zls_c zc_RX9_90_v (zls_c zc_RX9_395_v (zls_c zc_RX9_90_v (zls_c zc_RX9_398_v (zls_c zfd_RX9_33 (zls_c zfd_RX9_171 (zls_c zc_RX9_175_v (zls_c zc_RX9_90_v (zls_c zc_RX9_401_v (zls_c zc_RX9_90_v (zls_c zc_RX9_401_v (zls_c zfd_RX9_33 (zls_c zc_RX9_404_v (zls_c zfd_RX9_26 (zls_c zc_RX9_219_v (zls_c zfd_RX9_26 (zls_c zc_RX9_227_v zls_n)))))))))))))))))))
set_option maxRecDepth 100000 in
theorem zok_X9_mixLine : zOK zX9_mixLine := zok_of (by decide +kernel) (zls_c zfd_RX9_33 (zls_c zc_RX9_255_v (zls_c zc_RX9_302_s (zls_c zc_RX9_90_v (zls_c zc_RX9_111_v (zls_c zfd_RX9_33 (zls_c zfd_RX9_19 (zls_c zc_RX9_258_v (zls_c zc_RX9_302_s (zls_c zc_RX9_90_v (zls_c zc_RX9_114_v (zls_c zc_RX9_264_v (zls_c zc_RX9_302_s zls_n)))))))))))))
set_option maxRecDepth 100000 in
theorem zok_X9_mix : zOK zX9_mix := zok_of (by decide +kernel) (zls_c (zg_in 526 (by decide +kernel) (by decide +kernel)) zls_n)
set_option maxRecDepth 100000 in
theorem zok_X9_isSign : zOK zX9_isSign := zok_of (by decide +kernel) (zls_c zc_RX9_409_s zls_n)
set_option maxRecDepth 100000 in
theorem zok_X9_isDigit : zOK zX9_isDigit := zok_of (by decide +kernel) zls_n
set_option maxRecDepth 100000 in
theorem zok_X10_init : zOK zX10_init := zok_of (by decide +kernel) (zls_c (zg_in 1188 (by decide +kernel) (by decide +kernel)) (zls_c zpt_RX10_7i (zls_c zpt_RX10_13i (zls_c (zg_in 1189 (by decide +kernel) (by decide +kernel)) (zls_c zpt_RX10_17i (zls_c (zg_in 1189 (by decide +kernel) (by decide +kernel)) (zls_c zpt_RX10_20i (zls_c zpt_RX10_23i (zls_c zpt_RX10_26i (zls_c zpt_RX10_30i (zls_c zpt_RX10_33i (zls_c zpt_RX10_36i (zls_c zpt_RX10_39i (zls_c zpt_RX10_42i (zls_c zpt_RX10_45i (zls_c zpt_RX10_48i (zls_c zpt_RX10_51i (zls_c zpt_RX10_54i (zls_c zpt_RX10_57i (zls_c zpt_RX10_60i (zls_c zfd_RX10_7 (zls_c zfd_RX10_7 (zls_c zfd_RX10_23 zls_n)))))))))))))))))))))))
set_option maxRecDepth 100000 in
theorem zok_X10_thrown : zOK zX10_thrown := zok_of (by decide +kernel) (zls_c zfd_RX10_63 zls_n)
set_option maxRecDepth 100000 in
theorem zok_X10_within : zOK zX10_within := zok_of (by decide +kernel) zls_n
set_option maxRecDepth 100000 in
theorem zok_X10_cells : zOK zX10_cells := zok_of (by decide +kernel) (zls_c zfd_RX10_7 zls_n)
set_option maxRecDepth 100000 in
theorem zok_X10_lengthOf : zOK zX10_lengthOf := zok_of (by decide +kernel) (zls_c zfd_RX10_7 zls_n)
set_option maxRecDepth 100000 in
theorem zok_X10_setLength : zOK zX10_setLength := zok_of (by decide +kernel) (zls_c zfd_RX10_7 zls_n)
set_option maxRecDepth 100000 in
theorem zok_X10_place : zOK zX10_place := zok_of (by decide +kernel) zls_n
set_option maxRecDepth 100000 in
theorem zok_X10_signOf : zOK zX10_signOf := zok_of (by decide +kernel) (zls_c zfd_RX10_7 (zls_c zc_RX10_66_s zls_n))
set_option maxRecDepth 100000 in
theorem zok_X10_isLine : zOK zX10_isLine := zok_of (by decide +kernel) (zls_c zfd_RX10_7 (zls_c zc_RX10_70_s zls_n))
set_option maxRecDepth 100000 in
theorem zok_X10_isCell : zOK zX10_isCell := zok_of (by decide +kernel) (zls_c zc_RX10_74_v (zls_c zc_RX10_78_v (zls_c zc_RX10_70_s zls_n)))
set_option maxRecDepth 100000 in
theorem zok_X10_isPlace : zOK zX10_isPlace := zok_of (by decide +kernel) (zls_c zc_RX10_82_v (zls_c zc_RX10_86_v (zls_c zc_RX10_70_s zls_n)))
set_option maxRecDepth 100000 in
theorem zok_X10_copyCell : zOK zX10_copyCell := zok_of (by decide +kernel) (zls_c zc_RX10_86_v (zls_c zc_RX10_90_v (zls_c zfd_RX10_7 (zls_c zc_RX10_66_s (zls_c zc_RX10_94_v zls_n)))))
set_option maxRecDepth 100000 in
theorem zok_X10_copyLine : zOK zX10_copyLine := zok_of (by decide +kernel) (zls_c zfd_RX10_7 (zls_c zc_RX10_78_v (zls_c zc_RX10_97_v zls_n)))
set_option maxRecDepth 100000 in
theorem zok_X10_openLine : zOK zX10_openLine := zok_of (by decide +kernel) (zls_c zfd_RX10_7 (zls_c zc_RX10_101_v (zls_c zfd_RX10_7 (zls_c zfd_RX10_7 (zls_c zc_RX10_90_v zls_n)))))
set_option maxRecDepth 100000 in
theorem zok_X10_closeLine : zOK zX10_closeLine := zok_of (by decide +kernel) (zls_c zfd_RX10_7 (zls_c zc_RX10_101_v (zls_c zfd_RX10_7 zls_n)))
set_option maxRecDepth 100000 in
theorem zok_X10_openCell : zOK zX10_openCell := zok_of (by decide +kernel) (zls_c zc_RX10_78_v (zls_c zc_RX10_97_v (zls_c zfd_RX10_7 (zls_c zc_RX10_90_v zls_n))))
set_option maxRecDepth 100000 in
theorem zok_X10_closeCell : zOK zX10_closeCell := zok_of (by decide +kernel) (zls_c zc_RX10_78_v (zls_c zc_RX10_97_v (zls_c zfd_RX10_7 zls_n)))
set_option maxRecDepth 100000 in
theorem zok_X10_giveTail : zOK zX10_giveTail := zok_of (by decide +kernel) (zls_c zc_RX10_86_v (zls_c zc_RX10_86_v (zls_c zfd_RX10_7 (zls_c zc_RX10_66_s (zls_c zc_RX10_94_v (zls_c zc_RX10_90_v (zls_c zc_RX10_90_v zls_n)))))))
set_option maxRecDepth 100000 in
theorem zok_X10_save : zOK zX10_save := zok_of (by decide +kernel) (zls_c zfd_RX10_105 (zls_c (zg_in 1189 (by decide +kernel) (by decide +kernel)) (zls_c zfd_RX10_17 (zls_c zfd_RX10_17 (zls_c zfd_RX10_105 (zls_c zpt_RX10_105 (zls_c zfd_RX10_17 (zls_c zfd_RX10_105 (zls_c zfd_RX10_7 (zls_c zfd_RX10_105 (zls_c zpt_RX10_105 (zls_c zpt_RX10_108 zls_n))))))))))))
set_option maxRecDepth 100000 in
theorem zok_X10_undo : zOK zX10_undo := zok_of (by decide +kernel) (zls_c zfd_RX10_105 (zls_c zpt_RX10_63 (zls_c zfd_RX10_63 (zls_c zfd_RX10_105 (zls_c zpt_RX10_105 (zls_c zfd_RX10_20 (zls_c zfd_RX10_108 (zls_c zfd_RX10_7 (zls_c zfd_RX10_7 (zls_c zfd_RX10_17 (zls_c zfd_RX10_105 (zls_c zfd_RX10_108 (zls_c zpt_RX10_108 (zls_c zfd_RX10_105 zls_n))))))))))))))
set_option maxRecDepth 100000 in
theorem zok_X10_redo : zOK zX10_redo := zok_of (by decide +kernel) (zls_c zfd_RX10_108 (zls_c zpt_RX10_63 (zls_c zfd_RX10_63 (zls_c zfd_RX10_108 (zls_c zpt_RX10_108 (zls_c zfd_RX10_17 (zls_c zfd_RX10_105 (zls_c zfd_RX10_7 (zls_c zfd_RX10_7 (zls_c zfd_RX10_20 (zls_c zfd_RX10_108 (zls_c zfd_RX10_105 (zls_c zpt_RX10_105 (zls_c zfd_RX10_108 zls_n))))))))))))))
set_option maxRecDepth 100000 in
theorem zok_X10_append : zOK zX10_append := zok_of (by decide +kernel) (zls_c zc_RX10_70_s (zls_c zfd_RX10_111 (zls_c zpt_RX10_63 (zls_c zfd_RX10_63 (zls_c zfd_RX10_33 (zls_c zfd_RX10_111 (zls_c zfd_RX10_111 (zls_c zpt_RX10_111 (zls_c zfd_RX10_111 zls_n)))))))))
set_option maxRecDepth 100000 in
theorem zok_X10_clearInput : zOK zX10_clearInput := zok_of (by decide +kernel) (zls_c zpt_RX10_63 (zls_c zfd_RX10_111 (zls_c zpt_RX10_111 zls_n)))
set_option maxRecDepth 100000 in
theorem zok_X10_isFigure : zOK zX10_isFigure := zok_of (by decide +kernel) (zls_c zc_RX10_70_s zls_n)
set_option maxRecDepth 100000 in
theorem zok_X10_isSign : zOK zX10_isSign := zok_of (by decide +kernel) (zls_c zc_RX10_70_s (zls_c zc_RX10_70_s (zls_c zc_RX10_114_s zls_n)))
set_option maxRecDepth 100000 in
theorem zok_X10_rightLength : zOK zX10_rightLength := zok_of (by decide +kernel) (zls_c zfd_RX10_111 (zls_c zfd_RX10_33 (zls_c zc_RX10_117_s zls_n)))
set_option maxRecDepth 100000 in
theorem zok_X10_isRight : zOK zX10_isRight := zok_of (by decide +kernel) (zls_c zc_RX10_120_v (zls_c zfd_RX10_111 zls_n))
set_option maxRecDepth 100000 in
theorem zok_X10_firstError : zOK zX10_firstError := zok_of (by decide +kernel) (zls_c zc_RX10_70_s (zls_c zpt_RX10_63 (zls_c zfd_RX10_63 (zls_c zc_RX10_120_v zls_n))))
set_option maxRecDepth 100000 in
theorem zok_X10_layBuffer : zOK zX10_layBuffer := zok_of (by decide +kernel) (zls_c zfd_RX10_111 (zls_c zc_RX10_78_v (zls_c zfd_RX10_33 (zls_c zfd_RX10_7 (zls_c zc_RX10_90_v (zls_c zfd_RX10_33 (zls_c zfd_RX10_7 (zls_c zfd_RX10_7 (zls_c zc_RX10_90_v (zls_c zfd_RX10_7 (zls_c zc_RX10_86_v (zls_c zc_RX10_66_s (zls_c zfd_RX10_33 (zls_c zc_RX10_86_v (zls_c zc_RX10_90_v (zls_c zpt_RX10_111 zls_n))))))))))))))))
set_option maxRecDepth 100000 in
theorem zok_X10_load : zOK zX10_load := zok_of (by decide +kernel) (zls_c zc_RX10_123_v (zls_c zpt_RX10_63 (zls_c zfd_RX10_63 (zls_c zc_RX10_126_v (zls_c zfd_RX10_7 (zls_c zfd_RX10_7 (zls_c zc_RX10_90_v (zls_c zc_RX10_129_v (zls_c zfd_RX10_7 zls_n)))))))))
set_option maxRecDepth 100000 in
theorem zok_X10_isCode : zOK zX10_isCode := zok_of (by decide +kernel) (zls_c zc_RX10_117_s zls_n)
set_option maxRecDepth 100000 in
theorem zok_X10_typing : zOK zX10_typing := zok_of (by decide +kernel) (zls_c zc_RX10_133_v (zls_c zc_RX10_136_v (zls_c zc_RX10_78_v (zls_c zfd_RX10_7 (zls_c zc_RX10_86_v zls_n)))))
set_option maxRecDepth 100000 in
theorem zok_X10_putSign : zOK zX10_putSign := zok_of (by decide +kernel) (zls_c zc_RX10_86_v (zls_c zfd_RX10_7 (zls_c zc_RX10_66_s (zls_c zc_RX10_94_v (zls_c zfd_RX10_7 (zls_c zc_RX10_66_s (zls_c zc_RX10_86_v (zls_c zc_RX10_90_v (zls_c zc_RX10_86_v zls_n)))))))))
set_option maxRecDepth 100000 in
theorem zok_X10_putTab : zOK zX10_putTab := zok_of (by decide +kernel) (zls_c zc_RX10_139_v (zls_c zc_RX10_142_v (zls_c zc_RX10_78_v zls_n)))
set_option maxRecDepth 100000 in
theorem zok_X10_putEnd : zOK zX10_putEnd := zok_of (by decide +kernel) (zls_c zc_RX10_146_v (zls_c zc_RX10_142_v (zls_c zc_RX10_78_v (zls_c zc_RX10_97_v (zls_c zfd_RX10_7 (zls_c zc_RX10_78_v (zls_c zfd_RX10_7 (zls_c zfd_RX10_7 zls_n))))))))
set_option maxRecDepth 100000 in
theorem zok_X10_put : zOK zX10_put := zok_of (by decide +kernel) (zls_c zc_RX10_149_v (zls_c zc_RX10_152_v (zls_c zc_RX10_155_v zls_n)))
set_option maxRecDepth 100000 in
theorem zok_X10_type : zOK zX10_type := zok_of (by decide +kernel) (zls_c zc_RX10_159_v (zls_c zpt_RX10_63 (zls_c zfd_RX10_63 (zls_c zc_RX10_126_v (zls_c zc_RX10_162_v zls_n)))))
set_option maxRecDepth 100000 in
theorem zok_X10_behind : zOK zX10_behind := zok_of (by decide +kernel) (zls_c zc_RX10_86_v (zls_c zc_RX10_94_v (zls_c zc_RX10_78_v (zls_c zfd_RX10_7 zls_n))))
set_option maxRecDepth 100000 in
theorem zok_X10_mayErase : zOK zX10_mayErase := zok_of (by decide +kernel) (zls_c zc_RX10_86_v (zls_c zc_RX10_86_v (zls_c zc_RX10_86_v (zls_c zc_RX10_86_v (zls_c zc_RX10_78_v (zls_c zc_RX10_78_v zls_n))))))
set_option maxRecDepth 100000 in
theorem zok_X10_takeSign : zOK zX10_takeSign := zok_of (by decide +kernel) (zls_c zc_RX10_86_v (zls_c zfd_RX10_7 (zls_c zc_RX10_66_s (zls_c zc_RX10_94_v (zls_c zc_RX10_86_v (zls_c zc_RX10_90_v zls_n))))))
set_option maxRecDepth 100000 in
theorem zok_X10_takeEnd : zOK zX10_takeEnd := zok_of (by decide +kernel) (zls_c zc_RX10_142_v (zls_c zc_RX10_78_v (zls_c zc_RX10_97_v (zls_c zfd_RX10_7 (zls_c zc_RX10_78_v (zls_c zc_RX10_165_v zls_n))))))
set_option maxRecDepth 100000 in
theorem zok_X10_erase : zOK zX10_erase := zok_of (by decide +kernel) (zls_c zc_RX10_133_v (zls_c zc_RX10_168_v (zls_c zc_RX10_171_v (zls_c zpt_RX10_63 (zls_c zfd_RX10_63 (zls_c zc_RX10_126_v (zls_c zc_RX10_142_v (zls_c zc_RX10_174_v (zls_c zc_RX10_177_v (zls_c zc_RX10_180_v zls_n))))))))))
set_option maxRecDepth 100000 in
theorem zok_X10_setCell : zOK zX10_setCell := zok_of (by decide +kernel) (zls_c zc_RX10_82_v (zls_c zc_RX10_123_v (zls_c zpt_RX10_63 (zls_c zfd_RX10_63 (zls_c zc_RX10_126_v (zls_c zc_RX10_86_v (zls_c zfd_RX10_111 (zls_c zfd_RX10_7 (zls_c zc_RX10_66_s (zls_c zfd_RX10_33 (zls_c zfd_RX10_111 (zls_c zc_RX10_90_v (zls_c zpt_RX10_111 zls_n)))))))))))))
set_option maxRecDepth 100000 in
theorem zok_X10_insertLine : zOK zX10_insertLine := zok_of (by decide +kernel) (zls_c zfd_RX10_7 (zls_c zc_RX10_70_s (zls_c zc_RX10_123_v (zls_c zfd_RX10_7 (zls_c zpt_RX10_63 (zls_c zfd_RX10_63 (zls_c zc_RX10_126_v (zls_c zc_RX10_146_v (zls_c zc_RX10_129_v (zls_c zfd_RX10_7 zls_n))))))))))
set_option maxRecDepth 100000 in
theorem zok_X10_removeLine : zOK zX10_removeLine := zok_of (by decide +kernel) (zls_c zc_RX10_74_v (zls_c zfd_RX10_7 (zls_c zpt_RX10_63 (zls_c zfd_RX10_63 (zls_c zc_RX10_126_v (zls_c zc_RX10_165_v (zls_c zfd_RX10_7 zls_n)))))))
set_option maxRecDepth 100000 in
theorem zok_X10_setAside : zOK zX10_setAside := zok_of (by decide +kernel) (zls_c zfd_RX10_13 (zls_c zfd_RX10_7 zls_n))
set_option maxRecDepth 100000 in
theorem zok_X10_takeAside : zOK zX10_takeAside := zok_of (by decide +kernel) (zls_c zfd_RX10_7 (zls_c zfd_RX10_13 (zls_c zfd_RX10_7 (zls_c zfd_RX10_13 (zls_c zfd_RX10_7 (zls_c zc_RX10_66_s (zls_c zfd_RX10_13 (zls_c zc_RX10_66_s zls_n))))))))
set_option maxRecDepth 100000 in
theorem zok_X10_moveLine : zOK zX10_moveLine := zok_of (by decide +kernel) (zls_c zc_RX10_74_v (zls_c zc_RX10_74_v (zls_c zpt_RX10_63 (zls_c zfd_RX10_63 (zls_c zc_RX10_126_v (zls_c zc_RX10_183_v (zls_c zc_RX10_165_v (zls_c zc_RX10_146_v (zls_c zc_RX10_186_v (zls_c zc_RX10_189_v zls_n))))))))))
set_option maxRecDepth 100000 in
theorem zok_X10_isBlank : zOK zX10_isBlank := zok_of (by decide +kernel) (zls_c zc_RX10_86_v (zls_c zc_RX10_94_v zls_n))
set_option maxRecDepth 100000 in
theorem zok_X10_figuresFrom : zOK zX10_figuresFrom := zok_of (by decide +kernel) (zls_c zc_RX10_86_v (zls_c zc_RX10_94_v (zls_c zc_RX10_114_s zls_n)))
set_option maxRecDepth 100000 in
theorem zok_X10_isNumber : zOK zX10_isNumber := zok_of (by decide +kernel) (zls_c zc_RX10_86_v (zls_c zc_RX10_94_v (zls_c zc_RX10_193_v (zls_c zc_RX10_70_s (zls_c zc_RX10_86_v (zls_c zc_RX10_70_s (zls_c zc_RX10_193_v (zls_c zc_RX10_94_v (zls_c zc_RX10_70_s (zls_c zc_RX10_86_v zls_n))))))))))
set_option maxRecDepth 100000 in
theorem zok_X10_kindOf : zOK zX10_kindOf := zok_of (by decide +kernel) (zls_c zc_RX10_196_v (zls_c zc_RX10_199_v zls_n))
set_option maxRecDepth 100000 in
theorem zok_X10_wholeLength : zOK zX10_wholeLength := zok_of (by decide +kernel) (zls_c zc_RX10_86_v (zls_c zc_RX10_94_v zls_n))
set_option maxRecDepth 100000 in
theorem zok_X10_partLength : zOK zX10_partLength := zok_of (by decide +kernel) (zls_c zc_RX10_86_v (zls_c zc_RX10_202_v zls_n))
set_option maxRecDepth 100000 in
theorem zok_X10_valueOf : zOK zX10_valueOf := zok_of (by decide +kernel) (zls_c zc_RX10_86_v (zls_c zc_RX10_94_v (zls_c zc_RX10_114_s (zls_c (zg_in 1514 (by decide +kernel) (by decide +kernel)) (zls_c (zg_in 1515 (by decide +kernel) (by decide +kernel)) (zls_c zc_RX10_114_s (zls_c (zg_in 1514 (by decide +kernel) (by decide +kernel)) (zls_c zc_RX10_94_v zls_n))))))))
set_option maxRecDepth 100000 in
theorem zok_X10_isEnded : zOK zX10_isEnded := zok_of (by decide +kernel) (zls_c zc_RX10_74_v (zls_c zc_RX10_78_v zls_n))
set_option maxRecDepth 100000 in
theorem zok_X10_numbersIn : zOK zX10_numbersIn := zok_of (by decide +kernel) (zls_c zfd_RX10_39 (zls_c zfd_RX10_42 (zls_c zfd_RX10_36 (zls_c zc_RX10_209_v zls_n))))
set_option maxRecDepth 100000 in
theorem zok_X10_isDecimal : zOK zX10_isDecimal := zok_of (by decide +kernel) (zls_c zc_RX10_212_v (zls_c zfd_RX10_39 (zls_c zfd_RX10_42 (zls_c zfd_RX10_39 (zls_c zfd_RX10_42 (zls_c zfd_RX10_39 (zls_c zfd_RX10_36 (zls_c zc_RX10_209_v zls_n))))))))
set_option maxRecDepth 100000 in
theorem zok_X10_measure : zOK zX10_measure := zok_of (by decide +kernel) (zls_c zfd_RX10_36 (zls_c zfd_RX10_45 (zls_c zfd_RX10_23 (zls_c zfd_RX10_23 (zls_c zc_RX10_215_v (zls_c zfd_RX10_51 (zls_c zfd_RX10_39 (zls_c zfd_RX10_42 (zls_c zfd_RX10_45 (zls_c zc_RX10_209_v (zls_c zc_RX10_86_v (zls_c zc_RX10_86_v (zls_c zc_RX10_202_v (zls_c zc_RX10_202_v (zls_c zfd_RX10_51 (zls_c zc_RX10_218_v (zls_c zfd_RX10_51 (zls_c zc_RX10_218_v (zls_c zfd_RX10_51 (zls_c zfd_RX10_48 (zls_c zfd_RX10_51 (zls_c zfd_RX10_51 (zls_c zfd_RX10_48 (zls_c zfd_RX10_221 (zls_c zfd_RX10_48 (zls_c zfd_RX10_221 (zls_c zfd_RX10_26 (zls_c zfd_RX10_54 (zls_c zfd_RX10_30 (zls_c zfd_RX10_30 (zls_c zfd_RX10_30 zls_n)))))))))))))))))))))))))))))))
set_option maxRecDepth 100000 in
theorem zok_X10_layBlocks : zOK zX10_layBlocks := zok_of (by decide +kernel) (zls_c zpt_RX10_224 (zls_c zfd_RX10_7 (zls_c zc_RX10_227_v (zls_c zc_RX10_227_v (zls_c zfd_RX10_36 (zls_c zfd_RX10_224 (zls_c zfd_RX10_39 (zls_c zfd_RX10_224 (zls_c zc_RX10_227_v (zls_c zfd_RX10_42 (zls_c zfd_RX10_224 (zls_c zfd_RX10_224 (zls_c zc_RX10_230_v (zls_c zfd_RX10_224 (zls_c zpt_RX10_224 (zls_c zfd_RX10_224 zls_n))))))))))))))))
set_option maxRecDepth 100000 in
theorem zok_X10_blockOf : zOK zX10_blockOf := zok_of (by decide +kernel) (zls_c zfd_RX10_224 (zls_c zc_RX10_227_v (zls_c zfd_RX10_36 (zls_c zfd_RX10_39 (zls_c zfd_RX10_42 (zls_c zc_RX10_70_s zls_n))))))
set_option maxRecDepth 100000 in
theorem zok_X10_xOf : zOK zX10_xOf := zok_of (by decide +kernel) (zls_c zfd_RX10_54 (zls_c zc_RX10_233_v zls_n))
set_option maxRecDepth 100000 in
theorem zok_X10_shiftOf : zOK zX10_shiftOf := zok_of (by decide +kernel) (zls_c zc_RX10_233_v (zls_c zfd_RX10_45 (zls_c zfd_RX10_54 (zls_c zfd_RX10_26 (zls_c zfd_RX10_45 (zls_c zc_RX10_209_v (zls_c zfd_RX10_51 (zls_c zc_RX10_202_v (zls_c zfd_RX10_45 (zls_c zc_RX10_86_v (zls_c zc_RX10_86_v zls_n)))))))))))
set_option maxRecDepth 100000 in
theorem zok_X10_shownLength : zOK zX10_shownLength := zok_of (by decide +kernel) (zls_c zc_RX10_78_v (zls_c zc_RX10_236_v (zls_c zc_RX10_78_v (zls_c zc_RX10_86_v zls_n))))
set_option maxRecDepth 100000 in
theorem zok_X10_isBlock : zOK zX10_isBlock := zok_of (by decide +kernel) (zls_c zc_RX10_189_v (zls_c zc_RX10_70_s zls_n))
set_option maxRecDepth 100000 in
theorem zok_X10_comparedWords : zOK zX10_comparedWords := zok_of (by decide +kernel) (zls_c zc_RX10_86_v (zls_c zc_RX10_86_v (zls_c zc_RX10_94_v (zls_c zc_RX10_94_v (zls_c zc_RX10_86_v (zls_c zc_RX10_86_v (zls_c zc_RX10_94_v (zls_c zc_RX10_94_v zls_n))))))))
set_option maxRecDepth 100000 in
theorem zok_X10_rankOf : zOK zX10_rankOf := zok_of (by decide +kernel) zls_n
set_option maxRecDepth 100000 in
theorem zok_X10_isBehind : zOK zX10_isBehind := zok_of (by decide +kernel) (zls_c zc_RX10_209_v (zls_c zc_RX10_239_s (zls_c zc_RX10_209_v (zls_c zc_RX10_239_s (zls_c zc_RX10_242_v (zls_c zc_RX10_242_v (zls_c zc_RX10_246_v zls_n)))))))
set_option maxRecDepth 100000 in
theorem zok_X10_sortNow : zOK zX10_sortNow := zok_of (by decide +kernel) (zls_c zfd_RX10_42 (zls_c zfd_RX10_57 (zls_c zfd_RX10_36 (zls_c zc_RX10_249_v (zls_c zfd_RX10_57 (zls_c zfd_RX10_57 (zls_c zfd_RX10_57 (zls_c zc_RX10_183_v (zls_c zfd_RX10_57 (zls_c zc_RX10_186_v (zls_c zfd_RX10_57 zls_n)))))))))))
set_option maxRecDepth 100000 in
theorem zok_X10_sort : zOK zX10_sort := zok_of (by decide +kernel) (zls_c zc_RX10_253_v (zls_c zfd_RX10_42 (zls_c zfd_RX10_39 (zls_c zc_RX10_70_s (zls_c zpt_RX10_63 (zls_c zfd_RX10_63 (zls_c zc_RX10_126_v (zls_c zfd_RX10_39 (zls_c zc_RX10_256_v zls_n)))))))))
set_option maxRecDepth 100000 in
theorem zok_X10_hasRoom : zOK zX10_hasRoom := zok_of (by decide +kernel) (zls_c zfd_RX10_39 (zls_c zfd_RX10_42 (zls_c zc_RX10_78_v zls_n)))
set_option maxRecDepth 100000 in
theorem zok_X10_insertColumn : zOK zX10_insertColumn := zok_of (by decide +kernel) (zls_c zc_RX10_253_v (zls_c zc_RX10_260_v (zls_c zpt_RX10_63 (zls_c zfd_RX10_63 (zls_c zc_RX10_126_v (zls_c zfd_RX10_39 (zls_c zfd_RX10_42 (zls_c zfd_RX10_36 (zls_c zc_RX10_139_v (zls_c zfd_RX10_42 (zls_c zfd_RX10_39 zls_n)))))))))))
set_option maxRecDepth 100000 in
theorem zok_X10_removeColumn : zOK zX10_removeColumn := zok_of (by decide +kernel) (zls_c zc_RX10_253_v (zls_c zpt_RX10_63 (zls_c zfd_RX10_63 (zls_c zc_RX10_126_v (zls_c zfd_RX10_39 (zls_c zfd_RX10_42 (zls_c zfd_RX10_36 (zls_c zc_RX10_196_v (zls_c zfd_RX10_36 (zls_c zc_RX10_174_v zls_n))))))))))
set_option maxRecDepth 100000 in
theorem zok_X10_runAt : zOK zX10_runAt := zok_of (by decide +kernel) (zls_c zc_RX10_86_v (zls_c zc_RX10_94_v zls_n))
set_option maxRecDepth 100000 in
theorem zok_X10_runs : zOK zX10_runs := zok_of (by decide +kernel) (zls_c zc_RX10_78_v (zls_c zc_RX10_86_v (zls_c zc_RX10_263_v zls_n)))
set_option maxRecDepth 100000 in
theorem zok_X10_makeTabs : zOK zX10_makeTabs := zok_of (by decide +kernel) (zls_c zc_RX10_78_v (zls_c zc_RX10_86_v (zls_c zc_RX10_263_v (zls_c zc_RX10_139_v (zls_c zc_RX10_142_v (zls_c zc_RX10_90_v zls_n))))))
set_option maxRecDepth 100000 in
theorem zok_X10_retab : zOK zX10_retab := zok_of (by decide +kernel) (zls_c zc_RX10_74_v (zls_c zc_RX10_70_s (zls_c zc_RX10_78_v (zls_c zc_RX10_266_v (zls_c zpt_RX10_63 (zls_c zfd_RX10_63 (zls_c zc_RX10_126_v (zls_c zc_RX10_266_v (zls_c zc_RX10_269_v zls_n)))))))))
set_option maxRecDepth 100000 in
theorem zok_X10_setAlignment : zOK zX10_setAlignment := zok_of (by decide +kernel) (zls_c zc_RX10_70_s (zls_c zc_RX10_70_s (zls_c zpt_RX10_63 (zls_c zfd_RX10_63 (zls_c zfd_RX10_23 (zls_c zfd_RX10_23 zls_n))))))
set_option maxRecDepth 100000 in
theorem zok_X10_setSpacing : zOK zX10_setSpacing := zok_of (by decide +kernel) (zls_c zc_RX10_70_s (zls_c zc_RX10_70_s (zls_c zc_RX10_70_s (zls_c zpt_RX10_63 (zls_c zfd_RX10_63 (zls_c zfd_RX10_26 (zls_c zfd_RX10_221 (zls_c zfd_RX10_30 (zls_c zfd_RX10_26 (zls_c zpt_RX10_26 (zls_c zfd_RX10_221 (zls_c zpt_RX10_221 (zls_c zfd_RX10_30 (zls_c zpt_RX10_30 zls_n))))))))))))))
set_option maxRecDepth 100000 in
theorem zok_X10_allCells : zOK zX10_allCells := zok_of (by decide +kernel) (zls_c zfd_RX10_7 (zls_c zc_RX10_78_v zls_n))
set_option maxRecDepth 100000 in
theorem zok_X10_signsIn : zOK zX10_signsIn := zok_of (by decide +kernel) (zls_c zc_RX10_78_v (zls_c zc_RX10_86_v zls_n))
set_option maxRecDepth 100000 in
theorem zok_X10_allSigns : zOK zX10_allSigns := zok_of (by decide +kernel) (zls_c zfd_RX10_7 (zls_c zc_RX10_272_v zls_n))
set_option maxRecDepth 100000 in
theorem zok_X10_ofKind : zOK zX10_ofKind := zok_of (by decide +kernel) (zls_c zfd_RX10_7 (zls_c zc_RX10_78_v (zls_c zc_RX10_209_v zls_n)))
set_option maxRecDepth 100000 in
theorem zok_X10_longest : zOK zX10_longest := zok_of (by decide +kernel) (zls_c zfd_RX10_7 (zls_c zc_RX10_275_v (zls_c zc_RX10_275_v zls_n)))
set_option maxRecDepth 100000 in
theorem zok_X10_counted : zOK zX10_counted := zok_of (by decide +kernel) (zls_c zfd_RX10_7 (zls_c zc_RX10_278_v (zls_c zc_RX10_281_v (zls_c zfd_RX10_224 (zls_c zc_RX10_284_v (zls_c zc_RX10_284_v (zls_c zc_RX10_287_v (zls_c zfd_RX10_105 (zls_c zfd_RX10_108 zls_n)))))))))
set_option maxRecDepth 100000 in
theorem zok_X10_count : zOK zX10_count := zok_of (by decide +kernel) (zls_c zc_RX10_70_s (zls_c zpt_RX10_63 (zls_c zc_RX10_189_v (zls_c zfd_RX10_63 (zls_c zc_RX10_290_v zls_n)))))
set_option maxRecDepth 100000 in
theorem zok_X10_fixedLength : zOK zX10_fixedLength := zok_of (by decide +kernel) (zls_c zc_RX10_78_v (zls_c zc_RX10_86_v (zls_c zc_RX10_78_v zls_n)))
set_option maxRecDepth 100000 in
theorem zok_X10_lineNow : zOK zX10_lineNow := zok_of (by decide +kernel) (zls_c zc_RX10_78_v (zls_c zc_RX10_275_v (zls_c zc_RX10_272_v (zls_c zc_RX10_293_v zls_n))))
set_option maxRecDepth 100000 in
theorem zok_X10_line : zOK zX10_line := zok_of (by decide +kernel) (zls_c zc_RX10_74_v (zls_c zc_RX10_70_s (zls_c zpt_RX10_63 (zls_c zc_RX10_189_v (zls_c zfd_RX10_63 (zls_c zc_RX10_296_v zls_n))))))
set_option maxRecDepth 100000 in
theorem zok_X10_cellNow : zOK zX10_cellNow := zok_of (by decide +kernel) (zls_c zc_RX10_86_v (zls_c zc_RX10_209_v (zls_c zc_RX10_236_v (zls_c zc_RX10_299_v (zls_c zc_RX10_233_v zls_n)))))
set_option maxRecDepth 100000 in
theorem zok_X10_cell : zOK zX10_cell := zok_of (by decide +kernel) (zls_c zc_RX10_82_v (zls_c zc_RX10_70_s (zls_c zpt_RX10_63 (zls_c zc_RX10_189_v (zls_c zfd_RX10_63 (zls_c zc_RX10_302_v zls_n))))))
set_option maxRecDepth 100000 in
theorem zok_X10_letter : zOK zX10_letter := zok_of (by decide +kernel) (zls_c zc_RX10_82_v (zls_c zc_RX10_86_v (zls_c zc_RX10_70_s (zls_c zpt_RX10_63 (zls_c zfd_RX10_63 (zls_c zc_RX10_94_v zls_n))))))
set_option maxRecDepth 100000 in
theorem zok_X10_shownNow : zOK zX10_shownNow := zok_of (by decide +kernel) (zls_c zc_RX10_78_v (zls_c zc_RX10_236_v (zls_c zc_RX10_299_v (zls_c zc_RX10_86_v (zls_c zc_RX10_70_s (zls_c zc_RX10_94_v zls_n))))))
set_option maxRecDepth 100000 in
theorem zok_X10_shown : zOK zX10_shown := zok_of (by decide +kernel) (zls_c zc_RX10_74_v (zls_c zpt_RX10_63 (zls_c zc_RX10_189_v (zls_c zfd_RX10_63 (zls_c zc_RX10_305_v zls_n)))))
set_option maxRecDepth 100000 in
theorem zok_X10_hit : zOK zX10_hit := zok_of (by decide +kernel) (zls_c zc_RX10_74_v (zls_c zpt_RX10_63 (zls_c zc_RX10_189_v (zls_c zfd_RX10_63 (zls_c zc_RX10_78_v (zls_c zc_RX10_236_v zls_n))))))
set_option maxRecDepth 100000 in
theorem zok_X10_isBuffer : zOK zX10_isBuffer := zok_of (by decide +kernel) (zls_c zc_RX10_86_v (zls_c zfd_RX10_111 (zls_c zfd_RX10_111 (zls_c zc_RX10_94_v (zls_c zfd_RX10_33 zls_n)))))
set_option maxRecDepth 100000 in
theorem zok_X10_findNow : zOK zX10_findNow := zok_of (by decide +kernel) (zls_c zfd_RX10_7 (zls_c zc_RX10_78_v (zls_c zc_RX10_308_v zls_n)))
set_option maxRecDepth 100000 in
theorem zok_X10_find : zOK zX10_find := zok_of (by decide +kernel) (zls_c zc_RX10_82_v (zls_c zc_RX10_123_v (zls_c zpt_RX10_63 (zls_c zfd_RX10_63 (zls_c zc_RX10_311_v zls_n)))))
set_option maxRecDepth 100000 in
theorem zok_X10_blockNow : zOK zX10_blockNow := zok_of (by decide +kernel) (zls_c zfd_RX10_36 (zls_c zfd_RX10_39 (zls_c zfd_RX10_42 (zls_c zfd_RX10_54 (zls_c zfd_RX10_45 (zls_c zfd_RX10_48 (zls_c zc_RX10_212_v (zls_c zfd_RX10_51 zls_n))))))))
set_option maxRecDepth 100000 in
theorem zok_X10_block : zOK zX10_block := zok_of (by decide +kernel) (zls_c zc_RX10_253_v (zls_c zc_RX10_70_s (zls_c zpt_RX10_63 (zls_c zfd_RX10_63 (zls_c zc_RX10_314_v zls_n)))))
set_option maxRecDepth 100000 in
theorem zok_X10_sumOf : zOK zX10_sumOf := zok_of (by decide +kernel) (zls_c zfd_RX10_39 (zls_c zfd_RX10_42 (zls_c zfd_RX10_36 (zls_c zc_RX10_209_v (zls_c zfd_RX10_36 (zls_c zc_RX10_242_v zls_n))))))
set_option maxRecDepth 100000 in
theorem zok_X10_sum : zOK zX10_sum := zok_of (by decide +kernel) (zls_c zc_RX10_253_v (zls_c zpt_RX10_63 (zls_c zfd_RX10_63 (zls_c zc_RX10_317_v zls_n))))
set_option maxRecDepth 100000 in
theorem zok_X10_mean : zOK zX10_mean := zok_of (by decide +kernel) (zls_c zc_RX10_253_v (zls_c zpt_RX10_63 (zls_c zfd_RX10_63 (zls_c zc_RX10_212_v (zls_c zc_RX10_317_v (zls_c zc_RX10_212_v zls_n))))))
set_option maxRecDepth 100000 in
theorem zok_X10_touched : zOK zX10_touched := zok_of (by decide +kernel) (zls_c zc_RX10_74_v (zls_c zpt_RX10_63 (zls_c zfd_RX10_63 (zls_c zc_RX10_189_v (zls_c zfd_RX10_224 (zls_c zfd_RX10_39 (zls_c zfd_RX10_42 zls_n)))))))
set_option maxRecDepth 100000 in
theorem zok_X10_changedX : zOK zX10_changedX := zok_of (by decide +kernel) (zls_c zc_RX10_189_v (zls_c zfd_RX10_7 (zls_c zfd_RX10_60 (zls_c zc_RX10_78_v (zls_c zc_RX10_236_v (zls_c zfd_RX10_7 (zls_c zc_RX10_183_v (zls_c zc_RX10_162_v (zls_c zc_RX10_189_v (zls_c zfd_RX10_7 (zls_c zc_RX10_78_v (zls_c zfd_RX10_60 (zls_c zc_RX10_236_v (zls_c zfd_RX10_7 (zls_c zfd_RX10_13 zls_n)))))))))))))))
set_option maxRecDepth 100000 in
theorem zok_X10_ifTyped : zOK zX10_ifTyped := zok_of (by decide +kernel) (zls_c zc_RX10_159_v (zls_c zpt_RX10_63 (zls_c zfd_RX10_63 (zls_c zc_RX10_321_v zls_n))))
set_option maxRecDepth 100000 in
theorem zok_X10_mix : zOK zX10_mix := zok_of (by decide +kernel) (zls_c (zg_in 1689 (by decide +kernel) (by decide +kernel)) (zls_c zfd_RX10_326 (zls_c zpt_RX10_326 zls_n)))
set_option maxRecDepth 100000 in
theorem zok_X10_mixLine : zOK zX10_mixLine := zok_of (by decide +kernel) (zls_c zc_RX10_296_v (zls_c zc_RX10_330_v (zls_c zc_RX10_78_v (zls_c zc_RX10_302_v (zls_c zc_RX10_330_v (zls_c zc_RX10_86_v (zls_c zc_RX10_94_v (zls_c zc_RX10_330_v zls_n))))))))
set_option maxRecDepth 100000 in
theorem zok_X10_digest : zOK zX10_digest := zok_of (by decide +kernel) (zls_c zpt_RX10_63 (zls_c (zg_in 1684 (by decide +kernel) (by decide +kernel)) (zls_c zpt_RX10_326 (zls_c zc_RX10_189_v (zls_c zc_RX10_290_v (zls_c zc_RX10_330_v (zls_c zfd_RX10_23 (zls_c zc_RX10_330_v (zls_c zfd_RX10_26 (zls_c zc_RX10_330_v (zls_c zfd_RX10_221 (zls_c zc_RX10_330_v (zls_c zfd_RX10_30 (zls_c zc_RX10_330_v (zls_c zfd_RX10_7 (zls_c zc_RX10_336_v (zls_c zfd_RX10_224 (zls_c zc_RX10_314_v (zls_c zc_RX10_330_v (zls_c zc_RX10_317_v (zls_c zc_RX10_330_v (zls_c zfd_RX10_111 (zls_c zc_RX10_330_v (zls_c zfd_RX10_111 (zls_c zfd_RX10_33 (zls_c zc_RX10_330_v (zls_c zfd_RX10_326 zls_n)))))))))))))))))))))))))))
set_option maxRecDepth 100000 in
theorem zok_J6_compare_7cf53 : zOK zJ6_compare_7cf53 := zok_of (by decide +kernel) zls_n
set_option maxRecDepth 100000 in
theorem zok_J13_compare_74951 : zOK zJ13_compare_74951 := zok_of (by decide +kernel) zls_n
set_option maxRecDepth 100000 in
theorem zok_L_append : zOK zL_append := zok_of (by decide +kernel) (zls_c zc_RL_7_v zls_n)
set_option maxRecDepth 100000 in
theorem zok_L_firstError : zOK zL_firstError := zok_of (by decide +kernel) (zls_c zc_RL_17_v zls_n)
set_option maxRecDepth 100000 in
theorem zok_L_load : zOK zL_load := zok_of (by decide +kernel) (zls_c zc_RL_20_v zls_n)
set_option maxRecDepth 100000 in
theorem zok_L_type : zOK zL_type := zok_of (by decide +kernel) (zls_c zc_RL_24_v zls_n)
set_option maxRecDepth 100000 in
theorem zok_L_erase : zOK zL_erase := zok_of (by decide +kernel) (zls_c zc_RL_30_v zls_n)
set_option maxRecDepth 100000 in
theorem zok_L_setCell : zOK zL_setCell := zok_of (by decide +kernel) (zls_c zc_RL_34_v zls_n)
set_option maxRecDepth 100000 in
theorem zok_L_insertLine : zOK zL_insertLine := zok_of (by decide +kernel) (zls_c zc_RL_38_v zls_n)
set_option maxRecDepth 100000 in
theorem zok_L_removeLine : zOK zL_removeLine := zok_of (by decide +kernel) (zls_c zc_RL_41_v zls_n)
set_option maxRecDepth 100000 in
theorem zok_L_moveLine : zOK zL_moveLine := zok_of (by decide +kernel) (zls_c zc_RL_44_v zls_n)
set_option maxRecDepth 100000 in
theorem zok_L_sort : zOK zL_sort := zok_of (by decide +kernel) (zls_c zc_RL_47_v zls_n)
set_option maxRecDepth 100000 in
theorem zok_L_insertColumn : zOK zL_insertColumn := zok_of (by decide +kernel) (zls_c zc_RL_51_v zls_n)
set_option maxRecDepth 100000 in
theorem zok_L_removeColumn : zOK zL_removeColumn := zok_of (by decide +kernel) (zls_c zc_RL_54_v zls_n)
set_option maxRecDepth 100000 in
theorem zok_L_retab : zOK zL_retab := zok_of (by decide +kernel) (zls_c zc_RL_57_v zls_n)
set_option maxRecDepth 100000 in
theorem zok_L_undo : zOK zL_undo := zok_of (by decide +kernel) (zls_c zc_RL_60_v zls_n)
set_option maxRecDepth 100000 in
theorem zok_L_redo : zOK zL_redo := zok_of (by decide +kernel) (zls_c zc_RL_63_v zls_n)
set_option maxRecDepth 100000 in
theorem zok_L_setAlignment : zOK zL_setAlignment := zok_of (by decide +kernel) (zls_c zc_RL_66_v zls_n)
set_option maxRecDepth 100000 in
theorem zok_L_setSpacing : zOK zL_setSpacing := zok_of (by decide +kernel) (zls_c zc_RL_69_v zls_n)
set_option maxRecDepth 100000 in
theorem zok_L_count : zOK zL_count := zok_of (by decide +kernel) (zls_c zc_RL_72_v zls_n)
set_option maxRecDepth 100000 in
theorem zok_L_line : zOK zL_line := zok_of (by decide +kernel) (zls_c zc_RL_75_v zls_n)
set_option maxRecDepth 100000 in
theorem zok_L_cell : zOK zL_cell := zok_of (by decide +kernel) (zls_c zc_RL_78_v zls_n)
set_option maxRecDepth 100000 in
theorem zok_L_letter : zOK zL_letter := zok_of (by decide +kernel) (zls_c zc_RL_81_v zls_n)
set_option maxRecDepth 100000 in
theorem zok_L_shown : zOK zL_shown := zok_of (by decide +kernel) (zls_c zc_RL_84_v zls_n)
set_option maxRecDepth 100000 in
theorem zok_L_hit : zOK zL_hit := zok_of (by decide +kernel) (zls_c zc_RL_87_v zls_n)
set_option maxRecDepth 100000 in
theorem zok_L_find : zOK zL_find := zok_of (by decide +kernel) (zls_c zc_RL_90_v zls_n)
set_option maxRecDepth 100000 in
theorem zok_L_block : zOK zL_block := zok_of (by decide +kernel) (zls_c zc_RL_93_v zls_n)
set_option maxRecDepth 100000 in
theorem zok_L_sum : zOK zL_sum := zok_of (by decide +kernel) (zls_c zc_RL_96_v zls_n)
set_option maxRecDepth 100000 in
theorem zok_L_mean : zOK zL_mean := zok_of (by decide +kernel) (zls_c zc_RL_100_v zls_n)
set_option maxRecDepth 100000 in
theorem zok_L_touched : zOK zL_touched := zok_of (by decide +kernel) (zls_c zc_RL_104_v zls_n)
set_option maxRecDepth 100000 in
theorem zok_L_ifTyped : zOK zL_ifTyped := zok_of (by decide +kernel) (zls_c zc_RL_107_v zls_n)
