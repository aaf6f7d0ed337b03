theorem dc_0 : dcOk cX0_init cd_0 := by unfold dcOk; decide +kernel
theorem dc_1 : dcOk cX0_cellsFor cd_1 := by unfold dcOk; decide +kernel
theorem dc_2 : dcOk cX0_pointsLeft cd_2 := by unfold dcOk; decide +kernel
theorem dc_3 : dcOk cX0_explore cd_3 := by unfold dcOk; decide +kernel
theorem dc_4 : dcOk cX0_spread cd_4 := by unfold dcOk; decide +kernel
theorem dc_5 : dcOk cX0_note cd_5 := by unfold dcOk; decide +kernel
theorem dc_6 : dcOk cX1_init cd_6 := by unfold dcOk; decide +kernel
theorem dc_7 : dcOk cX1_canTie cd_7 := by unfold dcOk; decide +kernel
theorem dc_8 : dcOk cX1_storm cd_8 := by unfold dcOk; decide +kernel
theorem dc_9 : dcOk cX1_seize cd_9 := by unfold dcOk; decide +kernel
theorem dc_10 : dcOk cX2_init cd_10 := by unfold dcOk; decide +kernel
theorem dc_11 : dcOk cX2_arcOf cd_11 := by unfold dcOk; decide +kernel
theorem dc_12 : dcOk cX2_isHidden cd_12 := by unfold dcOk; decide +kernel
theorem dc_13 : dcOk cX2_rakes cd_13 := by unfold dcOk; decide +kernel
theorem dc_14 : dcOk cX2_forceOn cd_14 := by unfold dcOk; decide +kernel
theorem dc_15 : dcOk cX2_canShoot cd_15 := by unfold dcOk; decide +kernel
theorem dc_16 : dcOk cX2_shoot cd_16 := by unfold dcOk; decide +kernel
theorem dc_17 : dcOk cX2_hitHull cd_17 := by unfold dcOk; decide +kernel
theorem dc_18 : dcOk cX2_strongestShot cd_18 := by unfold dcOk; decide +kernel
theorem dc_19 : dcOk cX3_init cd_19 := by unfold dcOk; decide +kernel
theorem dc_20 : dcOk cX3_canMove cd_20 := by unfold dcOk; decide +kernel
theorem dc_21 : dcOk cX3_move cd_21 := by unfold dcOk; decide +kernel
theorem dc_22 : dcOk cX3_canSwing cd_22 := by unfold dcOk; decide +kernel
theorem dc_23 : dcOk cX3_readyForRound cd_23 := by unfold dcOk; decide +kernel
theorem dc_24 : dcOk cX3_finishRound cd_24 := by unfold dcOk; decide +kernel
theorem dc_25 : dcOk cX3_drift cd_25 := by unfold dcOk; decide +kernel
theorem dc_26 : dcOk cX3_obey cd_26 := by unfold dcOk; decide +kernel
theorem dc_27 : dcOk cX3_obeyAhead cd_27 := by unfold dcOk; decide +kernel
theorem dc_28 : dcOk cX3_obeyTurn cd_28 := by unfold dcOk; decide +kernel
theorem dc_29 : dcOk cX4_init cd_29 := by unfold dcOk; decide +kernel
theorem dc_30 : dcOk cX4_save cd_30 := by unfold dcOk; decide +kernel
theorem dc_31 : dcOk cX4_dropOldest cd_31 := by unfold dcOk; decide +kernel
theorem dc_32 : dcOk cX4_restore cd_32 := by unfold dcOk; decide +kernel
theorem dc_33 : dcOk cX5_init cd_33 := by unfold dcOk; decide +kernel
theorem dc_34 : dcOk cX5_isFull cd_34 := by unfold dcOk; decide +kernel
theorem dc_35 : dcOk cX5_add cd_35 := by unfold dcOk; decide +kernel
theorem dc_36 : dcOk cX5_byteAt cd_36 := by unfold dcOk; decide +kernel
theorem dc_37 : dcOk cX5_errorPosition cd_37 := by unfold dcOk; decide +kernel
theorem dc_38 : dcOk cX5_placeBehind cd_38 := by unfold dcOk; decide +kernel
theorem dc_39 : dcOk cX5_placeBehindFirst cd_39 := by unfold dcOk; decide +kernel
theorem dc_40 : dcOk cX6_init cd_40 := by unfold dcOk; decide +kernel
theorem dc_41 : dcOk cX6_makeAnew cd_41 := by unfold dcOk; decide +kernel
theorem dc_42 : dcOk cX6_copyFrom cd_42 := by unfold dcOk; decide +kernel
theorem dc_43 : dcOk cX6_cellCount cd_43 := by unfold dcOk; decide +kernel
theorem dc_44 : dcOk cX6_isCell cd_44 := by unfold dcOk; decide +kernel
theorem dc_45 : dcOk cX6_isShip cd_45 := by unfold dcOk; decide +kernel
theorem dc_46 : dcOk cX6_rowOf cd_46 := by unfold dcOk; decide +kernel
theorem dc_47 : dcOk cX6_columnOf cd_47 := by unfold dcOk; decide +kernel
theorem dc_48 : dcOk cX6_isRock cd_48 := by unfold dcOk; decide +kernel
theorem dc_49 : dcOk cX6_markRock cd_49 := by unfold dcOk; decide +kernel
theorem dc_50 : dcOk cX6_shipOn cd_50 := by unfold dcOk; decide +kernel
theorem dc_51 : dcOk cX6_isFree cd_51 := by unfold dcOk; decide +kernel
theorem dc_52 : dcOk cX6_occupant cd_52 := by unfold dcOk; decide +kernel
theorem dc_53 : dcOk cX6_neighbour cd_53 := by unfold dcOk; decide +kernel
theorem dc_54 : dcOk cX6_movesBetween cd_54 := by unfold dcOk; decide +kernel
theorem dc_55 : dcOk cX6_sight cd_55 := by unfold dcOk; decide +kernel
theorem dc_56 : dcOk cX6_sector cd_56 := by unfold dcOk; decide +kernel
theorem dc_57 : dcOk cX6_angleToWind cd_57 := by unfold dcOk; decide +kernel
theorem dc_58 : dcOk cX6_angleBetween cd_58 := by unfold dcOk; decide +kernel
theorem dc_59 : dcOk cX6_factorOf cd_59 := by unfold dcOk; decide +kernel
theorem dc_60 : dcOk cX6_speedIn cd_60 := by unfold dcOk; decide +kernel
theorem dc_61 : dcOk cX6_fairestWind cd_61 := by unfold dcOk; decide +kernel
theorem dc_62 : dcOk cX6_untie cd_62 := by unfold dcOk; decide +kernel
theorem dc_63 : dcOk cX6_tiedShips cd_63 := by unfold dcOk; decide +kernel
theorem dc_64 : dcOk cX6_shipsAfloat cd_64 := by unfold dcOk; decide +kernel
theorem dc_65 : dcOk cX6_weightOf cd_65 := by unfold dcOk; decide +kernel
theorem dc_66 : dcOk cX6_rockCount cd_66 := by unfold dcOk; decide +kernel
theorem dc_67 : dcOk cX6_lastRock cd_67 := by unfold dcOk; decide +kernel
theorem dc_68 : dcOk cX6_numberAbout cd_68 := by unfold dcOk; decide +kernel
theorem dc_69 : dcOk cX6_numberAboutShip cd_69 := by unfold dcOk; decide +kernel
theorem dc_70 : dcOk cX7_init cd_70 := by unfold dcOk; decide +kernel
theorem dc_71 : dcOk cX7_launch cd_71 := by unfold dcOk; decide +kernel
theorem dc_72 : dcOk cX7_copyFrom cd_72 := by unfold dcOk; decide +kernel
theorem dc_73 : dcOk cX7_isAfloat cd_73 := by unfold dcOk; decide +kernel
theorem dc_74 : dcOk cX7_isTied cd_74 := by unfold dcOk; decide +kernel
theorem dc_75 : dcOk cX7_canSail cd_75 := by unfold dcOk; decide +kernel
theorem dc_76 : dcOk cX7_headingAfter cd_76 := by unfold dcOk; decide +kernel
theorem dc_77 : dcOk cX7_swing cd_77 := by unfold dcOk; decide +kernel
theorem dc_78 : dcOk cX7_gunsOn cd_78 := by unfold dcOk; decide +kernel
theorem dc_79 : dcOk cX7_waitOn cd_79 := by unfold dcOk; decide +kernel
theorem dc_80 : dcOk cX7_startWait cd_80 := by unfold dcOk; decide +kernel
theorem dc_81 : dcOk cX7_shortenWaits cd_81 := by unfold dcOk; decide +kernel
theorem dc_82 : dcOk cX8_init cd_82 := by unfold dcOk; decide +kernel
theorem dc_83 : dcOk cX8_begin cd_83 := by unfold dcOk; decide +kernel
theorem dc_84 : dcOk cX8_setRock cd_84 := by unfold dcOk; decide +kernel
theorem dc_85 : dcOk cX8_setWind cd_85 := by unfold dcOk; decide +kernel
theorem dc_86 : dcOk cX8_addShip cd_86 := by unfold dcOk; decide +kernel
theorem dc_87 : dcOk cX8_value cd_87 := by unfold dcOk; decide +kernel
theorem dc_88 : dcOk cX8_ship cd_88 := by unfold dcOk; decide +kernel
theorem dc_89 : dcOk cX8_at cd_89 := by unfold dcOk; decide +kernel
theorem dc_90 : dcOk cX8_distance cd_90 := by unfold dcOk; decide +kernel
theorem dc_91 : dcOk cX8_bearing cd_91 := by unfold dcOk; decide +kernel
theorem dc_92 : dcOk cX8_ahead cd_92 := by unfold dcOk; decide +kernel
theorem dc_93 : dcOk cX8_turn cd_93 := by unfold dcOk; decide +kernel
theorem dc_94 : dcOk cX8_endRound cd_94 := by unfold dcOk; decide +kernel
theorem dc_95 : dcOk cX8_force cd_95 := by unfold dcOk; decide +kernel
theorem dc_96 : dcOk cX8_fire cd_96 := by unfold dcOk; decide +kernel
theorem dc_97 : dcOk cX8_grapple cd_97 := by unfold dcOk; decide +kernel
theorem dc_98 : dcOk cX8_cut cd_98 := by unfold dcOk; decide +kernel
theorem dc_99 : dcOk cX8_board cd_99 := by unfold dcOk; decide +kernel
theorem dc_100 : dcOk cX8_reach cd_100 := by unfold dcOk; decide +kernel
theorem dc_101 : dcOk cX8_pointsAt cd_101 := by unfold dcOk; decide +kernel
theorem dc_102 : dcOk cX8_bestShot cd_102 := by unfold dcOk; decide +kernel
theorem dc_103 : dcOk cX8_bestWind cd_103 := by unfold dcOk; decide +kernel
theorem dc_104 : dcOk cX8_balance cd_104 := by unfold dcOk; decide +kernel
theorem dc_105 : dcOk cX8_append cd_105 := by unfold dcOk; decide +kernel
theorem dc_106 : dcOk cX8_carryOut cd_106 := by unfold dcOk; decide +kernel
theorem dc_107 : dcOk cX8_undo cd_107 := by unfold dcOk; decide +kernel
theorem dc_108 : dcOk cX8_digest cd_108 := by unfold dcOk; decide +kernel
theorem dc_109 : dcOk cX8_needCell cd_109 := by unfold dcOk; decide +kernel
theorem dc_110 : dcOk cX8_needShip cd_110 := by unfold dcOk; decide +kernel
theorem dc_111 : dcOk cX8_needTwoShips cd_111 := by unfold dcOk; decide +kernel
theorem dc_112 : dcOk cX8_isSide cd_112 := by unfold dcOk; decide +kernel
theorem dc_113 : dcOk cX8_isDirection cd_113 := by unfold dcOk; decide +kernel
theorem dc_114 : dcOk cJ9_floorMod_7cf53 cd_114 := by unfold dcOk; decide +kernel
theorem dc_115 : dcOk cJ9_abs_0f7a4 cd_115 := by unfold dcOk; decide +kernel
theorem dc_116 : dcOk cJ9_max_7cf53 cd_116 := by unfold dcOk; decide +kernel
theorem dc_117 : dcOk cJ9_min_7cf53 cd_117 := by unfold dcOk; decide +kernel
theorem dc_118 : dcOk cJ7_fill_53178 cd_118 := by unfold dcOk; decide +kernel
theorem dc_119 : dcOk cL_lot cd_119 := by unfold dcOk; decide +kernel
theorem dc_120 : dcOk cL_low cd_120 := by unfold dcOk; decide +kernel
theorem dc_121 : dcOk cL_begin cd_121 := by unfold dcOk; decide +kernel
theorem dc_122 : dcOk cL_setRock cd_122 := by unfold dcOk; decide +kernel
theorem dc_123 : dcOk cL_setWind cd_123 := by unfold dcOk; decide +kernel
theorem dc_124 : dcOk cL_addShip cd_124 := by unfold dcOk; decide +kernel
theorem dc_125 : dcOk cL_value cd_125 := by unfold dcOk; decide +kernel
theorem dc_126 : dcOk cL_ship cd_126 := by unfold dcOk; decide +kernel
theorem dc_127 : dcOk cL_at cd_127 := by unfold dcOk; decide +kernel
theorem dc_128 : dcOk cL_distance cd_128 := by unfold dcOk; decide +kernel
theorem dc_129 : dcOk cL_bearing cd_129 := by unfold dcOk; decide +kernel
theorem dc_130 : dcOk cL_ahead cd_130 := by unfold dcOk; decide +kernel
theorem dc_131 : dcOk cL_turn cd_131 := by unfold dcOk; decide +kernel
theorem dc_132 : dcOk cL_force cd_132 := by unfold dcOk; decide +kernel
theorem dc_133 : dcOk cL_fire cd_133 := by unfold dcOk; decide +kernel
theorem dc_134 : dcOk cL_grapple cd_134 := by unfold dcOk; decide +kernel
theorem dc_135 : dcOk cL_cut cd_135 := by unfold dcOk; decide +kernel
theorem dc_136 : dcOk cL_board cd_136 := by unfold dcOk; decide +kernel
theorem dc_137 : dcOk cL_reach cd_137 := by unfold dcOk; decide +kernel
theorem dc_138 : dcOk cL_pointsAt cd_138 := by unfold dcOk; decide +kernel
theorem dc_139 : dcOk cL_bestShot cd_139 := by unfold dcOk; decide +kernel
theorem dc_140 : dcOk cL_bestWind cd_140 := by unfold dcOk; decide +kernel
theorem dc_141 : dcOk cL_balance cd_141 := by unfold dcOk; decide +kernel
theorem dc_142 : dcOk cL_append cd_142 := by unfold dcOk; decide +kernel
theorem dc_143 : dcOk cL_undo cd_143 := by unfold dcOk; decide +kernel
theorem dc_144_0 : dcOk cL_sound (cd_144.extract 0 100) := by unfold dcOk; decide +kernel
theorem dc_144_1 : dcOk cL_sound (cd_144.extract 100 200) := by unfold dcOk; decide +kernel
theorem dc_144_2 : dcOk cL_sound (cd_144.extract 200 300) := by unfold dcOk; decide +kernel
theorem dc_144_3 : dcOk cL_sound (cd_144.extract 300 323) := by unfold dcOk; decide +kernel
theorem dc_144 : dcOk cL_sound cd_144 := by
  have e : cd_144 = cd_144.extract 0 100 ++ (cd_144.extract 100 200 ++ (cd_144.extract 200 300 ++ (cd_144.extract 300 323))) := by decide +kernel
  rw [e]; intro r hr
  rcases List.mem_append.mp hr with hr | hr
  · exact dc_144_0 r hr
  rcases List.mem_append.mp hr with hr | hr
  · exact dc_144_1 r hr
  rcases List.mem_append.mp hr with hr | hr
  · exact dc_144_2 r hr
  exact dc_144_3 r hr
theorem dc_145 : dcOk cL_cells cd_145 := by unfold dcOk; decide +kernel
theorem dc_146_0 : dcOk cL_thoughts (cd_146.extract 0 100) := by unfold dcOk; decide +kernel
theorem dc_146_1 : dcOk cL_thoughts (cd_146.extract 100 200) := by unfold dcOk; decide +kernel
theorem dc_146_2 : dcOk cL_thoughts (cd_146.extract 200 300) := by unfold dcOk; decide +kernel
theorem dc_146_3 : dcOk cL_thoughts (cd_146.extract 300 317) := by unfold dcOk; decide +kernel
theorem dc_146 : dcOk cL_thoughts cd_146 := by
  have e : cd_146 = cd_146.extract 0 100 ++ (cd_146.extract 100 200 ++ (cd_146.extract 200 300 ++ (cd_146.extract 300 317))) := by decide +kernel
  rw [e]; intro r hr
  rcases List.mem_append.mp hr with hr | hr
  · exact dc_146_0 r hr
  rcases List.mem_append.mp hr with hr | hr
  · exact dc_146_1 r hr
  rcases List.mem_append.mp hr with hr | hr
  · exact dc_146_2 r hr
  exact dc_146_3 r hr
theorem dc_147_0 : dcOk cL_moves (cd_147.extract 0 100) := by unfold dcOk; decide +kernel
theorem dc_147_1 : dcOk cL_moves (cd_147.extract 100 200) := by unfold dcOk; decide +kernel
theorem dc_147_2 : dcOk cL_moves (cd_147.extract 200 250) := by unfold dcOk; decide +kernel
theorem dc_147 : dcOk cL_moves cd_147 := by
  have e : cd_147 = cd_147.extract 0 100 ++ (cd_147.extract 100 200 ++ (cd_147.extract 200 250)) := by decide +kernel
  rw [e]; intro r hr
  rcases List.mem_append.mp hr with hr | hr
  · exact dc_147_0 r hr
  rcases List.mem_append.mp hr with hr | hr
  · exact dc_147_1 r hr
  exact dc_147_2 r hr
theorem dc_148_0 : dcOk cL_fights (cd_148.extract 0 100) := by unfold dcOk; decide +kernel
theorem dc_148_1 : dcOk cL_fights (cd_148.extract 100 200) := by unfold dcOk; decide +kernel
theorem dc_148_2 : dcOk cL_fights (cd_148.extract 200 272) := by unfold dcOk; decide +kernel
theorem dc_148 : dcOk cL_fights cd_148 := by
  have e : cd_148 = cd_148.extract 0 100 ++ (cd_148.extract 100 200 ++ (cd_148.extract 200 272)) := by decide +kernel
  rw [e]; intro r hr
  rcases List.mem_append.mp hr with hr | hr
  · exact dc_148_0 r hr
  rcases List.mem_append.mp hr with hr | hr
  · exact dc_148_1 r hr
  exact dc_148_2 r hr
theorem dc_149_0 : dcOk cL_ropes (cd_149.extract 0 100) := by unfold dcOk; decide +kernel
theorem dc_149_1 : dcOk cL_ropes (cd_149.extract 100 200) := by unfold dcOk; decide +kernel
theorem dc_149_2 : dcOk cL_ropes (cd_149.extract 200 300) := by unfold dcOk; decide +kernel
theorem dc_149_3 : dcOk cL_ropes (cd_149.extract 300 304) := by unfold dcOk; decide +kernel
theorem dc_149 : dcOk cL_ropes cd_149 := by
  have e : cd_149 = cd_149.extract 0 100 ++ (cd_149.extract 100 200 ++ (cd_149.extract 200 300 ++ (cd_149.extract 300 304))) := by decide +kernel
  rw [e]; intro r hr
  rcases List.mem_append.mp hr with hr | hr
  · exact dc_149_0 r hr
  rcases List.mem_append.mp hr with hr | hr
  · exact dc_149_1 r hr
  rcases List.mem_append.mp hr with hr | hr
  · exact dc_149_2 r hr
  exact dc_149_3 r hr
theorem dc_150 : dcOk cL_rounds cd_150 := by unfold dcOk; decide +kernel
theorem dc_151_0 : dcOk cL_refuses (cd_151.extract 0 100) := by unfold dcOk; decide +kernel
theorem dc_151_1 : dcOk cL_refuses (cd_151.extract 100 200) := by unfold dcOk; decide +kernel
theorem dc_151_2 : dcOk cL_refuses (cd_151.extract 200 204) := by unfold dcOk; decide +kernel
theorem dc_151 : dcOk cL_refuses cd_151 := by
  have e : cd_151 = cd_151.extract 0 100 ++ (cd_151.extract 100 200 ++ (cd_151.extract 200 204)) := by decide +kernel
  rw [e]; intro r hr
  rcases List.mem_append.mp hr with hr | hr
  · exact dc_151_0 r hr
  rcases List.mem_append.mp hr with hr | hr
  · exact dc_151_1 r hr
  exact dc_151_2 r hr
theorem dc_152_0 : dcOk cL_law (cd_152.extract 0 100) := by unfold dcOk; decide +kernel
theorem dc_152_1 : dcOk cL_law (cd_152.extract 100 200) := by unfold dcOk; decide +kernel
theorem dc_152_2 : dcOk cL_law (cd_152.extract 200 300) := by unfold dcOk; decide +kernel
theorem dc_152_3 : dcOk cL_law (cd_152.extract 300 363) := by unfold dcOk; decide +kernel
theorem dc_152 : dcOk cL_law cd_152 := by
  have e : cd_152 = cd_152.extract 0 100 ++ (cd_152.extract 100 200 ++ (cd_152.extract 200 300 ++ (cd_152.extract 300 363))) := by decide +kernel
  rw [e]; intro r hr
  rcases List.mem_append.mp hr with hr | hr
  · exact dc_152_0 r hr
  rcases List.mem_append.mp hr with hr | hr
  · exact dc_152_1 r hr
  rcases List.mem_append.mp hr with hr | hr
  · exact dc_152_2 r hr
  exact dc_152_3 r hr
theorem dc_ok (m : Nat) (h : m < 153) : dcOk (mCc m) (cdOf m) := by
  match m, h with
  | 0, _ => exact dc_0
  | 1, _ => exact dc_1
  | 2, _ => exact dc_2
  | 3, _ => exact dc_3
  | 4, _ => exact dc_4
  | 5, _ => exact dc_5
  | 6, _ => exact dc_6
  | 7, _ => exact dc_7
  | 8, _ => exact dc_8
  | 9, _ => exact dc_9
  | 10, _ => exact dc_10
  | 11, _ => exact dc_11
  | 12, _ => exact dc_12
  | 13, _ => exact dc_13
  | 14, _ => exact dc_14
  | 15, _ => exact dc_15
  | 16, _ => exact dc_16
  | 17, _ => exact dc_17
  | 18, _ => exact dc_18
  | 19, _ => exact dc_19
  | 20, _ => exact dc_20
  | 21, _ => exact dc_21
  | 22, _ => exact dc_22
  | 23, _ => exact dc_23
  | 24, _ => exact dc_24
  | 25, _ => exact dc_25
  | 26, _ => exact dc_26
  | 27, _ => exact dc_27
  | 28, _ => exact dc_28
  | 29, _ => exact dc_29
  | 30, _ => exact dc_30
  | 31, _ => exact dc_31
  | 32, _ => exact dc_32
  | 33, _ => exact dc_33
  | 34, _ => exact dc_34
  | 35, _ => exact dc_35
  | 36, _ => exact dc_36
  | 37, _ => exact dc_37
  | 38, _ => exact dc_38
  | 39, _ => exact dc_39
  | 40, _ => exact dc_40
  | 41, _ => exact dc_41
  | 42, _ => exact dc_42
  | 43, _ => exact dc_43
  | 44, _ => exact dc_44
  | 45, _ => exact dc_45
  | 46, _ => exact dc_46
  | 47, _ => exact dc_47
  | 48, _ => exact dc_48
  | 49, _ => exact dc_49
  | 50, _ => exact dc_50
  | 51, _ => exact dc_51
  | 52, _ => exact dc_52
  | 53, _ => exact dc_53
  | 54, _ => exact dc_54
  | 55, _ => exact dc_55
  | 56, _ => exact dc_56
  | 57, _ => exact dc_57
  | 58, _ => exact dc_58
  | 59, _ => exact dc_59
  | 60, _ => exact dc_60
  | 61, _ => exact dc_61
  | 62, _ => exact dc_62
  | 63, _ => exact dc_63
  | 64, _ => exact dc_64
  | 65, _ => exact dc_65
  | 66, _ => exact dc_66
  | 67, _ => exact dc_67
  | 68, _ => exact dc_68
  | 69, _ => exact dc_69
  | 70, _ => exact dc_70
  | 71, _ => exact dc_71
  | 72, _ => exact dc_72
  | 73, _ => exact dc_73
  | 74, _ => exact dc_74
  | 75, _ => exact dc_75
  | 76, _ => exact dc_76
  | 77, _ => exact dc_77
  | 78, _ => exact dc_78
  | 79, _ => exact dc_79
  | 80, _ => exact dc_80
  | 81, _ => exact dc_81
  | 82, _ => exact dc_82
  | 83, _ => exact dc_83
  | 84, _ => exact dc_84
  | 85, _ => exact dc_85
  | 86, _ => exact dc_86
  | 87, _ => exact dc_87
  | 88, _ => exact dc_88
  | 89, _ => exact dc_89
  | 90, _ => exact dc_90
  | 91, _ => exact dc_91
  | 92, _ => exact dc_92
  | 93, _ => exact dc_93
  | 94, _ => exact dc_94
  | 95, _ => exact dc_95
  | 96, _ => exact dc_96
  | 97, _ => exact dc_97
  | 98, _ => exact dc_98
  | 99, _ => exact dc_99
  | 100, _ => exact dc_100
  | 101, _ => exact dc_101
  | 102, _ => exact dc_102
  | 103, _ => exact dc_103
  | 104, _ => exact dc_104
  | 105, _ => exact dc_105
  | 106, _ => exact dc_106
  | 107, _ => exact dc_107
  | 108, _ => exact dc_108
  | 109, _ => exact dc_109
  | 110, _ => exact dc_110
  | 111, _ => exact dc_111
  | 112, _ => exact dc_112
  | 113, _ => exact dc_113
  | 114, _ => exact dc_114
  | 115, _ => exact dc_115
  | 116, _ => exact dc_116
  | 117, _ => exact dc_117
  | 118, _ => exact dc_118
  | 119, _ => exact dc_119
  | 120, _ => exact dc_120
  | 121, _ => exact dc_121
  | 122, _ => exact dc_122
  | 123, _ => exact dc_123
  | 124, _ => exact dc_124
  | 125, _ => exact dc_125
  | 126, _ => exact dc_126
  | 127, _ => exact dc_127
  | 128, _ => exact dc_128
  | 129, _ => exact dc_129
  | 130, _ => exact dc_130
  | 131, _ => exact dc_131
  | 132, _ => exact dc_132
  | 133, _ => exact dc_133
  | 134, _ => exact dc_134
  | 135, _ => exact dc_135
  | 136, _ => exact dc_136
  | 137, _ => exact dc_137
  | 138, _ => exact dc_138
  | 139, _ => exact dc_139
  | 140, _ => exact dc_140
  | 141, _ => exact dc_141
  | 142, _ => exact dc_142
  | 143, _ => exact dc_143
  | 144, _ => exact dc_144
  | 145, _ => exact dc_145
  | 146, _ => exact dc_146
  | 147, _ => exact dc_147
  | 148, _ => exact dc_148
  | 149, _ => exact dc_149
  | 150, _ => exact dc_150
  | 151, _ => exact dc_151
  | 152, _ => exact dc_152
  | n + 153, h => exact absurd h (by omega)
