def zmkP (q : zMT) : Prop := lw_tbl[q.2.2.2.2.2.2.2.1]? = some (.code q.1 q.2.1 q.2.2.1 q.2.2.2.1)
theorem zML_ok : ∀ q ∈ zML, zlchk q = true := by decide +kernel
theorem zm_ok_0 : zmchk zm_0 = true := by decide +kernel
set_option maxRecDepth 20000 in
theorem zmk_ok_0 : zmkP zm_0 := rfl
theorem zm_ok_1 : zmchk zm_1 = true := by decide +kernel
set_option maxRecDepth 20000 in
theorem zmk_ok_1 : zmkP zm_1 := rfl
theorem zm_ok_2 : zmchk zm_2 = true := by decide +kernel
set_option maxRecDepth 20000 in
theorem zmk_ok_2 : zmkP zm_2 := rfl
theorem zm_ok_3 : zmchk zm_3 = true := by decide +kernel
set_option maxRecDepth 20000 in
theorem zmk_ok_3 : zmkP zm_3 := rfl
theorem zm_ok_4 : zmchk zm_4 = true := by decide +kernel
set_option maxRecDepth 20000 in
theorem zmk_ok_4 : zmkP zm_4 := rfl
theorem zm_ok_5 : zmchk zm_5 = true := by decide +kernel
set_option maxRecDepth 20000 in
theorem zmk_ok_5 : zmkP zm_5 := rfl
theorem zm_ok_6 : zmchk zm_6 = true := by decide +kernel
set_option maxRecDepth 20000 in
theorem zmk_ok_6 : zmkP zm_6 := rfl
theorem zm_ok_7 : zmchk zm_7 = true := by decide +kernel
set_option maxRecDepth 20000 in
theorem zmk_ok_7 : zmkP zm_7 := rfl
theorem zm_ok_8 : zmchk zm_8 = true := by decide +kernel
set_option maxRecDepth 20000 in
theorem zmk_ok_8 : zmkP zm_8 := rfl
theorem zm_ok_9 : zmchk zm_9 = true := by decide +kernel
set_option maxRecDepth 20000 in
theorem zmk_ok_9 : zmkP zm_9 := rfl
theorem zm_ok_10 : zmchk zm_10 = true := by decide +kernel
set_option maxRecDepth 20000 in
theorem zmk_ok_10 : zmkP zm_10 := rfl
theorem zm_ok_11 : zmchk zm_11 = true := by decide +kernel
set_option maxRecDepth 20000 in
theorem zmk_ok_11 : zmkP zm_11 := rfl
theorem zm_ok_12 : zmchk zm_12 = true := by decide +kernel
set_option maxRecDepth 20000 in
theorem zmk_ok_12 : zmkP zm_12 := rfl
theorem zm_ok_13 : zmchk zm_13 = true := by decide +kernel
set_option maxRecDepth 20000 in
theorem zmk_ok_13 : zmkP zm_13 := rfl
theorem zm_ok_14 : zmchk zm_14 = true := by decide +kernel
set_option maxRecDepth 20000 in
theorem zmk_ok_14 : zmkP zm_14 := rfl
theorem zm_ok_15 : zmchk zm_15 = true := by decide +kernel
set_option maxRecDepth 20000 in
theorem zmk_ok_15 : zmkP zm_15 := rfl
theorem zm_ok_16 : zmchk zm_16 = true := by decide +kernel
set_option maxRecDepth 20000 in
theorem zmk_ok_16 : zmkP zm_16 := rfl
theorem zm_ok_17 : zmchk zm_17 = true := by decide +kernel
set_option maxRecDepth 20000 in
theorem zmk_ok_17 : zmkP zm_17 := rfl
theorem zm_ok_18 : zmchk zm_18 = true := by decide +kernel
set_option maxRecDepth 20000 in
theorem zmk_ok_18 : zmkP zm_18 := rfl
theorem zm_ok_19 : zmchk zm_19 = true := by decide +kernel
set_option maxRecDepth 20000 in
theorem zmk_ok_19 : zmkP zm_19 := rfl
theorem zm_ok_20 : zmchk zm_20 = true := by decide +kernel
set_option maxRecDepth 20000 in
theorem zmk_ok_20 : zmkP zm_20 := rfl
theorem zm_ok_21 : zmchk zm_21 = true := by decide +kernel
set_option maxRecDepth 20000 in
theorem zmk_ok_21 : zmkP zm_21 := rfl
theorem zm_ok_22 : zmchk zm_22 = true := by decide +kernel
set_option maxRecDepth 20000 in
theorem zmk_ok_22 : zmkP zm_22 := rfl
theorem zm_ok_23 : zmchk zm_23 = true := by decide +kernel
set_option maxRecDepth 20000 in
theorem zmk_ok_23 : zmkP zm_23 := rfl
theorem zm_ok_24 : zmchk zm_24 = true := by decide +kernel
set_option maxRecDepth 20000 in
theorem zmk_ok_24 : zmkP zm_24 := rfl
theorem zm_ok_25 : zmchk zm_25 = true := by decide +kernel
set_option maxRecDepth 20000 in
theorem zmk_ok_25 : zmkP zm_25 := rfl
theorem zm_ok_26 : zmchk zm_26 = true := by decide +kernel
set_option maxRecDepth 20000 in
theorem zmk_ok_26 : zmkP zm_26 := rfl
theorem zm_ok_27 : zmchk zm_27 = true := by decide +kernel
set_option maxRecDepth 20000 in
theorem zmk_ok_27 : zmkP zm_27 := rfl
theorem zm_ok_28 : zmchk zm_28 = true := by decide +kernel
set_option maxRecDepth 20000 in
theorem zmk_ok_28 : zmkP zm_28 := rfl
theorem zm_ok_29 : zmchk zm_29 = true := by decide +kernel
set_option maxRecDepth 20000 in
theorem zmk_ok_29 : zmkP zm_29 := rfl
theorem zm_ok_30 : zmchk zm_30 = true := by decide +kernel
set_option maxRecDepth 20000 in
theorem zmk_ok_30 : zmkP zm_30 := rfl
theorem zm_ok_31 : zmchk zm_31 = true := by decide +kernel
set_option maxRecDepth 20000 in
theorem zmk_ok_31 : zmkP zm_31 := rfl
theorem zm_ok_32 : zmchk zm_32 = true := by decide +kernel
set_option maxRecDepth 20000 in
theorem zmk_ok_32 : zmkP zm_32 := rfl
theorem zm_ok_33 : zmchk zm_33 = true := by decide +kernel
set_option maxRecDepth 20000 in
theorem zmk_ok_33 : zmkP zm_33 := rfl
theorem zm_ok_34 : zmchk zm_34 = true := by decide +kernel
set_option maxRecDepth 20000 in
theorem zmk_ok_34 : zmkP zm_34 := rfl
theorem zm_ok_35 : zmchk zm_35 = true := by decide +kernel
set_option maxRecDepth 20000 in
theorem zmk_ok_35 : zmkP zm_35 := rfl
theorem zm_ok_36 : zmchk zm_36 = true := by decide +kernel
set_option maxRecDepth 20000 in
theorem zmk_ok_36 : zmkP zm_36 := rfl
theorem zm_ok_37 : zmchk zm_37 = true := by decide +kernel
set_option maxRecDepth 20000 in
theorem zmk_ok_37 : zmkP zm_37 := rfl
theorem zm_ok_38 : zmchk zm_38 = true := by decide +kernel
set_option maxRecDepth 20000 in
theorem zmk_ok_38 : zmkP zm_38 := rfl
theorem zm_ok_39 : zmchk zm_39 = true := by decide +kernel
set_option maxRecDepth 20000 in
theorem zmk_ok_39 : zmkP zm_39 := rfl
theorem zm_ok_40 : zmchk zm_40 = true := by decide +kernel
set_option maxRecDepth 20000 in
theorem zmk_ok_40 : zmkP zm_40 := rfl
theorem zm_ok_41 : zmchk zm_41 = true := by decide +kernel
set_option maxRecDepth 20000 in
theorem zmk_ok_41 : zmkP zm_41 := rfl
theorem zm_ok_42 : zmchk zm_42 = true := by decide +kernel
set_option maxRecDepth 20000 in
theorem zmk_ok_42 : zmkP zm_42 := rfl
theorem zm_ok_43 : zmchk zm_43 = true := by decide +kernel
set_option maxRecDepth 20000 in
theorem zmk_ok_43 : zmkP zm_43 := rfl
theorem zm_ok_44 : zmchk zm_44 = true := by decide +kernel
set_option maxRecDepth 20000 in
theorem zmk_ok_44 : zmkP zm_44 := rfl
theorem zm_ok_45 : zmchk zm_45 = true := by decide +kernel
set_option maxRecDepth 20000 in
theorem zmk_ok_45 : zmkP zm_45 := rfl
theorem zm_ok_46 : zmchk zm_46 = true := by decide +kernel
set_option maxRecDepth 20000 in
theorem zmk_ok_46 : zmkP zm_46 := rfl
theorem zm_ok_47 : zmchk zm_47 = true := by decide +kernel
set_option maxRecDepth 20000 in
theorem zmk_ok_47 : zmkP zm_47 := rfl
theorem zm_ok_48 : zmchk zm_48 = true := by decide +kernel
set_option maxRecDepth 20000 in
theorem zmk_ok_48 : zmkP zm_48 := rfl
theorem zm_ok_49 : zmchk zm_49 = true := by decide +kernel
set_option maxRecDepth 20000 in
theorem zmk_ok_49 : zmkP zm_49 := rfl
theorem zm_ok_50 : zmchk zm_50 = true := by decide +kernel
set_option maxRecDepth 20000 in
theorem zmk_ok_50 : zmkP zm_50 := rfl
theorem zm_ok_51 : zmchk zm_51 = true := by decide +kernel
set_option maxRecDepth 20000 in
theorem zmk_ok_51 : zmkP zm_51 := rfl
theorem zm_ok_52 : zmchk zm_52 = true := by decide +kernel
set_option maxRecDepth 20000 in
theorem zmk_ok_52 : zmkP zm_52 := rfl
theorem zm_ok_53 : zmchk zm_53 = true := by decide +kernel
set_option maxRecDepth 20000 in
theorem zmk_ok_53 : zmkP zm_53 := rfl
theorem zm_ok_54 : zmchk zm_54 = true := by decide +kernel
set_option maxRecDepth 20000 in
theorem zmk_ok_54 : zmkP zm_54 := rfl
theorem zm_ok_55 : zmchk zm_55 = true := by decide +kernel
set_option maxRecDepth 20000 in
theorem zmk_ok_55 : zmkP zm_55 := rfl
theorem zm_ok_56 : zmchk zm_56 = true := by decide +kernel
set_option maxRecDepth 20000 in
theorem zmk_ok_56 : zmkP zm_56 := rfl
theorem zm_ok_57 : zmchk zm_57 = true := by decide +kernel
set_option maxRecDepth 20000 in
theorem zmk_ok_57 : zmkP zm_57 := rfl
theorem zm_ok_58 : zmchk zm_58 = true := by decide +kernel
set_option maxRecDepth 20000 in
theorem zmk_ok_58 : zmkP zm_58 := rfl
theorem zm_ok_59 : zmchk zm_59 = true := by decide +kernel
set_option maxRecDepth 20000 in
theorem zmk_ok_59 : zmkP zm_59 := rfl
theorem zm_ok_60 : zmchk zm_60 = true := by decide +kernel
set_option maxRecDepth 20000 in
theorem zmk_ok_60 : zmkP zm_60 := rfl
theorem zm_ok_61 : zmchk zm_61 = true := by decide +kernel
set_option maxRecDepth 20000 in
theorem zmk_ok_61 : zmkP zm_61 := rfl
theorem zm_ok_62 : zmchk zm_62 = true := by decide +kernel
set_option maxRecDepth 20000 in
theorem zmk_ok_62 : zmkP zm_62 := rfl
theorem zm_ok_63 : zmchk zm_63 = true := by decide +kernel
set_option maxRecDepth 20000 in
theorem zmk_ok_63 : zmkP zm_63 := rfl
theorem zm_ok_64 : zmchk zm_64 = true := by decide +kernel
set_option maxRecDepth 20000 in
theorem zmk_ok_64 : zmkP zm_64 := rfl
theorem zm_ok_65 : zmchk zm_65 = true := by decide +kernel
set_option maxRecDepth 20000 in
theorem zmk_ok_65 : zmkP zm_65 := rfl
theorem zm_ok_66 : zmchk zm_66 = true := by decide +kernel
set_option maxRecDepth 20000 in
theorem zmk_ok_66 : zmkP zm_66 := rfl
theorem zm_ok_67 : zmchk zm_67 = true := by decide +kernel
set_option maxRecDepth 20000 in
theorem zmk_ok_67 : zmkP zm_67 := rfl
theorem zm_ok_68 : zmchk zm_68 = true := by decide +kernel
set_option maxRecDepth 20000 in
theorem zmk_ok_68 : zmkP zm_68 := rfl
theorem zm_ok_69 : zmchk zm_69 = true := by decide +kernel
set_option maxRecDepth 20000 in
theorem zmk_ok_69 : zmkP zm_69 := rfl
theorem zm_ok_70 : zmchk zm_70 = true := by decide +kernel
set_option maxRecDepth 20000 in
theorem zmk_ok_70 : zmkP zm_70 := rfl
theorem zm_ok_71 : zmchk zm_71 = true := by decide +kernel
set_option maxRecDepth 20000 in
theorem zmk_ok_71 : zmkP zm_71 := rfl
theorem zm_ok_72 : zmchk zm_72 = true := by decide +kernel
set_option maxRecDepth 20000 in
theorem zmk_ok_72 : zmkP zm_72 := rfl
theorem zm_ok_73 : zmchk zm_73 = true := by decide +kernel
set_option maxRecDepth 20000 in
theorem zmk_ok_73 : zmkP zm_73 := rfl
theorem zm_ok_74 : zmchk zm_74 = true := by decide +kernel
set_option maxRecDepth 20000 in
theorem zmk_ok_74 : zmkP zm_74 := rfl
theorem zm_ok_75 : zmchk zm_75 = true := by decide +kernel
set_option maxRecDepth 20000 in
theorem zmk_ok_75 : zmkP zm_75 := rfl
theorem zm_ok_76 : zmchk zm_76 = true := by decide +kernel
set_option maxRecDepth 20000 in
theorem zmk_ok_76 : zmkP zm_76 := rfl
theorem zm_ok_77 : zmchk zm_77 = true := by decide +kernel
set_option maxRecDepth 20000 in
theorem zmk_ok_77 : zmkP zm_77 := rfl
theorem zm_ok_78 : zmchk zm_78 = true := by decide +kernel
set_option maxRecDepth 20000 in
theorem zmk_ok_78 : zmkP zm_78 := rfl
theorem zm_ok_79 : zmchk zm_79 = true := by decide +kernel
set_option maxRecDepth 20000 in
theorem zmk_ok_79 : zmkP zm_79 := rfl
theorem zm_ok_80 : zmchk zm_80 = true := by decide +kernel
set_option maxRecDepth 20000 in
theorem zmk_ok_80 : zmkP zm_80 := rfl
theorem zm_ok_81 : zmchk zm_81 = true := by decide +kernel
set_option maxRecDepth 20000 in
theorem zmk_ok_81 : zmkP zm_81 := rfl
theorem zm_ok_82 : zmchk zm_82 = true := by decide +kernel
set_option maxRecDepth 20000 in
theorem zmk_ok_82 : zmkP zm_82 := rfl
theorem zm_ok_83 : zmchk zm_83 = true := by decide +kernel
set_option maxRecDepth 20000 in
theorem zmk_ok_83 : zmkP zm_83 := rfl
theorem zm_ok_84 : zmchk zm_84 = true := by decide +kernel
set_option maxRecDepth 20000 in
theorem zmk_ok_84 : zmkP zm_84 := rfl
theorem zm_ok_85 : zmchk zm_85 = true := by decide +kernel
set_option maxRecDepth 20000 in
theorem zmk_ok_85 : zmkP zm_85 := rfl
theorem zm_ok_86 : zmchk zm_86 = true := by decide +kernel
set_option maxRecDepth 20000 in
theorem zmk_ok_86 : zmkP zm_86 := rfl
theorem zm_ok_87 : zmchk zm_87 = true := by decide +kernel
set_option maxRecDepth 20000 in
theorem zmk_ok_87 : zmkP zm_87 := rfl
theorem zm_ok_88 : zmchk zm_88 = true := by decide +kernel
set_option maxRecDepth 20000 in
theorem zmk_ok_88 : zmkP zm_88 := rfl
theorem zm_ok_89 : zmchk zm_89 = true := by decide +kernel
set_option maxRecDepth 20000 in
theorem zmk_ok_89 : zmkP zm_89 := rfl
theorem zm_ok_90 : zmchk zm_90 = true := by decide +kernel
set_option maxRecDepth 20000 in
theorem zmk_ok_90 : zmkP zm_90 := rfl
theorem zm_ok_91 : zmchk zm_91 = true := by decide +kernel
set_option maxRecDepth 20000 in
theorem zmk_ok_91 : zmkP zm_91 := rfl
theorem zm_ok_92 : zmchk zm_92 = true := by decide +kernel
set_option maxRecDepth 20000 in
theorem zmk_ok_92 : zmkP zm_92 := rfl
theorem zm_ok_93 : zmchk zm_93 = true := by decide +kernel
set_option maxRecDepth 20000 in
theorem zmk_ok_93 : zmkP zm_93 := rfl
theorem zm_ok_94 : zmchk zm_94 = true := by decide +kernel
set_option maxRecDepth 20000 in
theorem zmk_ok_94 : zmkP zm_94 := rfl
theorem zm_ok_95 : zmchk zm_95 = true := by decide +kernel
set_option maxRecDepth 20000 in
theorem zmk_ok_95 : zmkP zm_95 := rfl
theorem zm_ok_96 : zmchk zm_96 = true := by decide +kernel
set_option maxRecDepth 20000 in
theorem zmk_ok_96 : zmkP zm_96 := rfl
theorem zm_ok_97 : zmchk zm_97 = true := by decide +kernel
set_option maxRecDepth 20000 in
theorem zmk_ok_97 : zmkP zm_97 := rfl
theorem zm_ok_98 : zmchk zm_98 = true := by decide +kernel
set_option maxRecDepth 20000 in
theorem zmk_ok_98 : zmkP zm_98 := rfl
theorem zm_ok_99 : zmchk zm_99 = true := by decide +kernel
set_option maxRecDepth 20000 in
theorem zmk_ok_99 : zmkP zm_99 := rfl
theorem zm_ok_100 : zmchk zm_100 = true := by decide +kernel
set_option maxRecDepth 20000 in
theorem zmk_ok_100 : zmkP zm_100 := rfl
theorem zm_ok_101 : zmchk zm_101 = true := by decide +kernel
set_option maxRecDepth 20000 in
theorem zmk_ok_101 : zmkP zm_101 := rfl
theorem zm_ok_102 : zmchk zm_102 = true := by decide +kernel
set_option maxRecDepth 20000 in
theorem zmk_ok_102 : zmkP zm_102 := rfl
theorem zm_ok_103 : zmchk zm_103 = true := by decide +kernel
set_option maxRecDepth 20000 in
theorem zmk_ok_103 : zmkP zm_103 := rfl
theorem zm_ok_104 : zmchk zm_104 = true := by decide +kernel
set_option maxRecDepth 20000 in
theorem zmk_ok_104 : zmkP zm_104 := rfl
theorem zm_ok_105 : zmchk zm_105 = true := by decide +kernel
set_option maxRecDepth 20000 in
theorem zmk_ok_105 : zmkP zm_105 := rfl
theorem zm_ok_106 : zmchk zm_106 = true := by decide +kernel
set_option maxRecDepth 20000 in
theorem zmk_ok_106 : zmkP zm_106 := rfl
theorem zm_ok_107 : zmchk zm_107 = true := by decide +kernel
set_option maxRecDepth 20000 in
theorem zmk_ok_107 : zmkP zm_107 := rfl
theorem zm_ok_108 : zmchk zm_108 = true := by decide +kernel
set_option maxRecDepth 20000 in
theorem zmk_ok_108 : zmkP zm_108 := rfl
theorem zm_ok_109 : zmchk zm_109 = true := by decide +kernel
set_option maxRecDepth 20000 in
theorem zmk_ok_109 : zmkP zm_109 := rfl
theorem zm_ok_110 : zmchk zm_110 = true := by decide +kernel
set_option maxRecDepth 20000 in
theorem zmk_ok_110 : zmkP zm_110 := rfl
theorem zm_ok_111 : zmchk zm_111 = true := by decide +kernel
set_option maxRecDepth 20000 in
theorem zmk_ok_111 : zmkP zm_111 := rfl
theorem zm_ok_112 : zmchk zm_112 = true := by decide +kernel
set_option maxRecDepth 20000 in
theorem zmk_ok_112 : zmkP zm_112 := rfl
theorem zm_ok_113 : zmchk zm_113 = true := by decide +kernel
set_option maxRecDepth 20000 in
theorem zmk_ok_113 : zmkP zm_113 := rfl
theorem zm_ok_114 : zmchk zm_114 = true := by decide +kernel
set_option maxRecDepth 20000 in
theorem zmk_ok_114 : zmkP zm_114 := rfl
theorem zm_ok_115 : zmchk zm_115 = true := by decide +kernel
set_option maxRecDepth 20000 in
theorem zmk_ok_115 : zmkP zm_115 := rfl
theorem zm_ok_116 : zmchk zm_116 = true := by decide +kernel
set_option maxRecDepth 20000 in
theorem zmk_ok_116 : zmkP zm_116 := rfl
theorem zm_ok_117 : zmchk zm_117 = true := by decide +kernel
set_option maxRecDepth 20000 in
theorem zmk_ok_117 : zmkP zm_117 := rfl
theorem zm_ok_118 : zmchk zm_118 = true := by decide +kernel
set_option maxRecDepth 20000 in
theorem zmk_ok_118 : zmkP zm_118 := rfl
theorem zm_ok_119 : zmchk zm_119 = true := by decide +kernel
set_option maxRecDepth 20000 in
theorem zmk_ok_119 : zmkP zm_119 := rfl
theorem zm_ok_120 : zmchk zm_120 = true := by decide +kernel
set_option maxRecDepth 20000 in
theorem zmk_ok_120 : zmkP zm_120 := rfl
theorem zm_ok_121 : zmchk zm_121 = true := by decide +kernel
set_option maxRecDepth 20000 in
theorem zmk_ok_121 : zmkP zm_121 := rfl
theorem zm_ok_122 : zmchk zm_122 = true := by decide +kernel
set_option maxRecDepth 20000 in
theorem zmk_ok_122 : zmkP zm_122 := rfl
theorem zm_ok_123 : zmchk zm_123 = true := by decide +kernel
set_option maxRecDepth 20000 in
theorem zmk_ok_123 : zmkP zm_123 := rfl
theorem zm_ok_124 : zmchk zm_124 = true := by decide +kernel
set_option maxRecDepth 20000 in
theorem zmk_ok_124 : zmkP zm_124 := rfl
theorem zm_ok_125 : zmchk zm_125 = true := by decide +kernel
set_option maxRecDepth 20000 in
theorem zmk_ok_125 : zmkP zm_125 := rfl
theorem zm_ok_126 : zmchk zm_126 = true := by decide +kernel
set_option maxRecDepth 20000 in
theorem zmk_ok_126 : zmkP zm_126 := rfl
theorem zm_ok_127 : zmchk zm_127 = true := by decide +kernel
set_option maxRecDepth 20000 in
theorem zmk_ok_127 : zmkP zm_127 := rfl
theorem zm_ok_128 : zmchk zm_128 = true := by decide +kernel
set_option maxRecDepth 20000 in
theorem zmk_ok_128 : zmkP zm_128 := rfl
theorem zm_ok_129 : zmchk zm_129 = true := by decide +kernel
set_option maxRecDepth 20000 in
theorem zmk_ok_129 : zmkP zm_129 := rfl
theorem zm_ok_130 : zmchk zm_130 = true := by decide +kernel
set_option maxRecDepth 20000 in
theorem zmk_ok_130 : zmkP zm_130 := rfl
theorem zm_ok_131 : zmchk zm_131 = true := by decide +kernel
set_option maxRecDepth 20000 in
theorem zmk_ok_131 : zmkP zm_131 := rfl
theorem zm_ok_132 : zmchk zm_132 = true := by decide +kernel
set_option maxRecDepth 20000 in
theorem zmk_ok_132 : zmkP zm_132 := rfl
theorem zm_ok_133 : zmchk zm_133 = true := by decide +kernel
set_option maxRecDepth 20000 in
theorem zmk_ok_133 : zmkP zm_133 := rfl
theorem zm_ok_134 : zmchk zm_134 = true := by decide +kernel
set_option maxRecDepth 20000 in
theorem zmk_ok_134 : zmkP zm_134 := rfl
theorem zm_ok_135 : zmchk zm_135 = true := by decide +kernel
set_option maxRecDepth 20000 in
theorem zmk_ok_135 : zmkP zm_135 := rfl
theorem zm_ok_136 : zmchk zm_136 = true := by decide +kernel
set_option maxRecDepth 20000 in
theorem zmk_ok_136 : zmkP zm_136 := rfl
theorem zm_ok_137 : zmchk zm_137 = true := by decide +kernel
set_option maxRecDepth 20000 in
theorem zmk_ok_137 : zmkP zm_137 := rfl
theorem zm_ok_138 : zmchk zm_138 = true := by decide +kernel
set_option maxRecDepth 20000 in
theorem zmk_ok_138 : zmkP zm_138 := rfl
theorem zm_ok_139 : zmchk zm_139 = true := by decide +kernel
set_option maxRecDepth 20000 in
theorem zmk_ok_139 : zmkP zm_139 := rfl
theorem zm_ok_140 : zmchk zm_140 = true := by decide +kernel
set_option maxRecDepth 20000 in
theorem zmk_ok_140 : zmkP zm_140 := rfl
theorem zm_ok_141 : zmchk zm_141 = true := by decide +kernel
set_option maxRecDepth 20000 in
theorem zmk_ok_141 : zmkP zm_141 := rfl
theorem zm_ok_142 : zmchk zm_142 = true := by decide +kernel
set_option maxRecDepth 20000 in
theorem zmk_ok_142 : zmkP zm_142 := rfl
theorem zm_ok_143 : zmchk zm_143 = true := by decide +kernel
set_option maxRecDepth 20000 in
theorem zmk_ok_143 : zmkP zm_143 := rfl
theorem zm_ok_144 : zmchk zm_144 = true := by decide +kernel
set_option maxRecDepth 20000 in
theorem zmk_ok_144 : zmkP zm_144 := rfl
theorem zm_ok_145 : zmchk zm_145 = true := by decide +kernel
set_option maxRecDepth 20000 in
theorem zmk_ok_145 : zmkP zm_145 := rfl
theorem zm_ok_146 : zmchk zm_146 = true := by decide +kernel
set_option maxRecDepth 20000 in
theorem zmk_ok_146 : zmkP zm_146 := rfl
theorem zm_ok_147 : zmchk zm_147 = true := by decide +kernel
set_option maxRecDepth 20000 in
theorem zmk_ok_147 : zmkP zm_147 := rfl
theorem zm_ok_148 : zmchk zm_148 = true := by decide +kernel
set_option maxRecDepth 20000 in
theorem zmk_ok_148 : zmkP zm_148 := rfl
theorem zm_ok_149 : zmchk zm_149 = true := by decide +kernel
set_option maxRecDepth 20000 in
theorem zmk_ok_149 : zmkP zm_149 := rfl
theorem zm_ok_150 : zmchk zm_150 = true := by decide +kernel
set_option maxRecDepth 20000 in
theorem zmk_ok_150 : zmkP zm_150 := rfl
theorem zm_ok_151 : zmchk zm_151 = true := by decide +kernel
set_option maxRecDepth 20000 in
theorem zmk_ok_151 : zmkP zm_151 := rfl
theorem zm_ok_152 : zmchk zm_152 = true := by decide +kernel
set_option maxRecDepth 20000 in
theorem zmk_ok_152 : zmkP zm_152 := rfl
theorem zm_ok_153 : zmchk zm_153 = true := by decide +kernel
set_option maxRecDepth 20000 in
theorem zmk_ok_153 : zmkP zm_153 := rfl
theorem zm_ok_154 : zmchk zm_154 = true := by decide +kernel
set_option maxRecDepth 20000 in
theorem zmk_ok_154 : zmkP zm_154 := rfl
theorem zm_ok_155 : zmchk zm_155 = true := by decide +kernel
set_option maxRecDepth 20000 in
theorem zmk_ok_155 : zmkP zm_155 := rfl
theorem zm_ok_156 : zmchk zm_156 = true := by decide +kernel
set_option maxRecDepth 20000 in
theorem zmk_ok_156 : zmkP zm_156 := rfl
theorem zm_ok_157 : zmchk zm_157 = true := by decide +kernel
set_option maxRecDepth 20000 in
theorem zmk_ok_157 : zmkP zm_157 := rfl
theorem zm_ok_158 : zmchk zm_158 = true := by decide +kernel
set_option maxRecDepth 20000 in
theorem zmk_ok_158 : zmkP zm_158 := rfl
theorem zm_ok_159 : zmchk zm_159 = true := by decide +kernel
set_option maxRecDepth 20000 in
theorem zmk_ok_159 : zmkP zm_159 := rfl
theorem zm_ok_160 : zmchk zm_160 = true := by decide +kernel
set_option maxRecDepth 20000 in
theorem zmk_ok_160 : zmkP zm_160 := rfl
theorem zm_ok_161 : zmchk zm_161 = true := by decide +kernel
set_option maxRecDepth 20000 in
theorem zmk_ok_161 : zmkP zm_161 := rfl
theorem zm_ok_162 : zmchk zm_162 = true := by decide +kernel
set_option maxRecDepth 20000 in
theorem zmk_ok_162 : zmkP zm_162 := rfl
theorem zm_ok_163 : zmchk zm_163 = true := by decide +kernel
set_option maxRecDepth 20000 in
theorem zmk_ok_163 : zmkP zm_163 := rfl
theorem zm_ok_164 : zmchk zm_164 = true := by decide +kernel
set_option maxRecDepth 20000 in
theorem zmk_ok_164 : zmkP zm_164 := rfl
theorem zm_ok_165 : zmchk zm_165 = true := by decide +kernel
set_option maxRecDepth 20000 in
theorem zmk_ok_165 : zmkP zm_165 := rfl
theorem zm_ok_166 : zmchk zm_166 = true := by decide +kernel
set_option maxRecDepth 20000 in
theorem zmk_ok_166 : zmkP zm_166 := rfl
theorem zm_ok_167 : zmchk zm_167 = true := by decide +kernel
set_option maxRecDepth 20000 in
theorem zmk_ok_167 : zmkP zm_167 := rfl
theorem zm_ok_168 : zmchk zm_168 = true := by decide +kernel
set_option maxRecDepth 20000 in
theorem zmk_ok_168 : zmkP zm_168 := rfl
theorem zm_ok_169 : zmchk zm_169 = true := by decide +kernel
set_option maxRecDepth 20000 in
theorem zmk_ok_169 : zmkP zm_169 := rfl
theorem zm_ok_170 : zmchk zm_170 = true := by decide +kernel
set_option maxRecDepth 20000 in
theorem zmk_ok_170 : zmkP zm_170 := rfl
theorem zm_ok_171 : zmchk zm_171 = true := by decide +kernel
set_option maxRecDepth 20000 in
theorem zmk_ok_171 : zmkP zm_171 := rfl
theorem zm_ok_172 : zmchk zm_172 = true := by decide +kernel
set_option maxRecDepth 20000 in
theorem zmk_ok_172 : zmkP zm_172 := rfl
theorem zm_ok_173 : zmchk zm_173 = true := by decide +kernel
set_option maxRecDepth 20000 in
theorem zmk_ok_173 : zmkP zm_173 := rfl
theorem zm_ok_174 : zmchk zm_174 = true := by decide +kernel
set_option maxRecDepth 20000 in
theorem zmk_ok_174 : zmkP zm_174 := rfl
theorem zm_ok_175 : zmchk zm_175 = true := by decide +kernel
set_option maxRecDepth 20000 in
theorem zmk_ok_175 : zmkP zm_175 := rfl
theorem zm_ok_176 : zmchk zm_176 = true := by decide +kernel
set_option maxRecDepth 20000 in
theorem zmk_ok_176 : zmkP zm_176 := rfl
theorem zm_ok_177 : zmchk zm_177 = true := by decide +kernel
set_option maxRecDepth 20000 in
theorem zmk_ok_177 : zmkP zm_177 := rfl
theorem zm_ok_178 : zmchk zm_178 = true := by decide +kernel
set_option maxRecDepth 20000 in
theorem zmk_ok_178 : zmkP zm_178 := rfl
theorem zm_ok_179 : zmchk zm_179 = true := by decide +kernel
set_option maxRecDepth 20000 in
theorem zmk_ok_179 : zmkP zm_179 := rfl
theorem zm_ok_180 : zmchk zm_180 = true := by decide +kernel
set_option maxRecDepth 20000 in
theorem zmk_ok_180 : zmkP zm_180 := rfl
theorem zm_ok_181 : zmchk zm_181 = true := by decide +kernel
set_option maxRecDepth 20000 in
theorem zmk_ok_181 : zmkP zm_181 := rfl
theorem zm_ok_182 : zmchk zm_182 = true := by decide +kernel
set_option maxRecDepth 20000 in
theorem zmk_ok_182 : zmkP zm_182 := rfl
theorem zm_ok_183 : zmchk zm_183 = true := by decide +kernel
set_option maxRecDepth 20000 in
theorem zmk_ok_183 : zmkP zm_183 := rfl
theorem zm_ok_184 : zmchk zm_184 = true := by decide +kernel
set_option maxRecDepth 20000 in
theorem zmk_ok_184 : zmkP zm_184 := rfl
theorem zm_ok_185 : zmchk zm_185 = true := by decide +kernel
set_option maxRecDepth 20000 in
theorem zmk_ok_185 : zmkP zm_185 := rfl
theorem zm_ok_186 : zmchk zm_186 = true := by decide +kernel
set_option maxRecDepth 20000 in
theorem zmk_ok_186 : zmkP zm_186 := rfl
theorem zm_ok_187 : zmchk zm_187 = true := by decide +kernel
set_option maxRecDepth 20000 in
theorem zmk_ok_187 : zmkP zm_187 := rfl
theorem zm_ok_188 : zmchk zm_188 = true := by decide +kernel
set_option maxRecDepth 20000 in
theorem zmk_ok_188 : zmkP zm_188 := rfl
theorem zm_ok_189 : zmchk zm_189 = true := by decide +kernel
set_option maxRecDepth 20000 in
theorem zmk_ok_189 : zmkP zm_189 := rfl
theorem zm_ok_190 : zmchk zm_190 = true := by decide +kernel
set_option maxRecDepth 20000 in
theorem zmk_ok_190 : zmkP zm_190 := rfl
theorem zm_ok_191 : zmchk zm_191 = true := by decide +kernel
set_option maxRecDepth 20000 in
theorem zmk_ok_191 : zmkP zm_191 := rfl
theorem zm_ok_192 : zmchk zm_192 = true := by decide +kernel
set_option maxRecDepth 20000 in
theorem zmk_ok_192 : zmkP zm_192 := rfl
theorem zm_ok_193 : zmchk zm_193 = true := by decide +kernel
set_option maxRecDepth 20000 in
theorem zmk_ok_193 : zmkP zm_193 := rfl
theorem zm_ok_194 : zmchk zm_194 = true := by decide +kernel
set_option maxRecDepth 20000 in
theorem zmk_ok_194 : zmkP zm_194 := rfl
theorem zm_ok_195 : zmchk zm_195 = true := by decide +kernel
set_option maxRecDepth 20000 in
theorem zmk_ok_195 : zmkP zm_195 := rfl
theorem zm_ok_196 : zmchk zm_196 = true := by decide +kernel
set_option maxRecDepth 20000 in
theorem zmk_ok_196 : zmkP zm_196 := rfl
theorem zm_ok_197 : zmchk zm_197 = true := by decide +kernel
set_option maxRecDepth 20000 in
theorem zmk_ok_197 : zmkP zm_197 := rfl
theorem zm_ok_198 : zmchk zm_198 = true := by decide +kernel
set_option maxRecDepth 20000 in
theorem zmk_ok_198 : zmkP zm_198 := rfl
theorem zm_ok_199 : zmchk zm_199 = true := by decide +kernel
set_option maxRecDepth 20000 in
theorem zmk_ok_199 : zmkP zm_199 := rfl
theorem zm_ok_200 : zmchk zm_200 = true := by decide +kernel
set_option maxRecDepth 20000 in
theorem zmk_ok_200 : zmkP zm_200 := rfl
theorem zm_ok_201 : zmchk zm_201 = true := by decide +kernel
set_option maxRecDepth 20000 in
theorem zmk_ok_201 : zmkP zm_201 := rfl
theorem zm_ok_202 : zmchk zm_202 = true := by decide +kernel
set_option maxRecDepth 20000 in
theorem zmk_ok_202 : zmkP zm_202 := rfl
theorem zm_ok_203 : zmchk zm_203 = true := by decide +kernel
set_option maxRecDepth 20000 in
theorem zmk_ok_203 : zmkP zm_203 := rfl
theorem zm_ok_204 : zmchk zm_204 = true := by decide +kernel
set_option maxRecDepth 20000 in
theorem zmk_ok_204 : zmkP zm_204 := rfl
theorem zm_ok_205 : zmchk zm_205 = true := by decide +kernel
set_option maxRecDepth 20000 in
theorem zmk_ok_205 : zmkP zm_205 := rfl
theorem zm_ok_206 : zmchk zm_206 = true := by decide +kernel
set_option maxRecDepth 20000 in
theorem zmk_ok_206 : zmkP zm_206 := rfl
theorem zm_ok_207 : zmchk zm_207 = true := by decide +kernel
set_option maxRecDepth 20000 in
theorem zmk_ok_207 : zmkP zm_207 := rfl
theorem zm_ok_208 : zmchk zm_208 = true := by decide +kernel
set_option maxRecDepth 20000 in
theorem zmk_ok_208 : zmkP zm_208 := rfl
theorem zm_ok_209 : zmchk zm_209 = true := by decide +kernel
set_option maxRecDepth 20000 in
theorem zmk_ok_209 : zmkP zm_209 := rfl
theorem zm_ok_210 : zmchk zm_210 = true := by decide +kernel
set_option maxRecDepth 20000 in
theorem zmk_ok_210 : zmkP zm_210 := rfl
theorem zm_ok_211 : zmchk zm_211 = true := by decide +kernel
set_option maxRecDepth 20000 in
theorem zmk_ok_211 : zmkP zm_211 := rfl
theorem zm_ok_212 : zmchk zm_212 = true := by decide +kernel
set_option maxRecDepth 20000 in
theorem zmk_ok_212 : zmkP zm_212 := rfl
theorem zm_ok_213 : zmchk zm_213 = true := by decide +kernel
set_option maxRecDepth 20000 in
theorem zmk_ok_213 : zmkP zm_213 := rfl
theorem zm_ok_214 : zmchk zm_214 = true := by decide +kernel
set_option maxRecDepth 20000 in
theorem zmk_ok_214 : zmkP zm_214 := rfl
theorem zm_ok_215 : zmchk zm_215 = true := by decide +kernel
set_option maxRecDepth 20000 in
theorem zmk_ok_215 : zmkP zm_215 := rfl
theorem zm_ok_216 : zmchk zm_216 = true := by decide +kernel
set_option maxRecDepth 20000 in
theorem zmk_ok_216 : zmkP zm_216 := rfl
theorem zm_ok_217 : zmchk zm_217 = true := by decide +kernel
set_option maxRecDepth 20000 in
theorem zmk_ok_217 : zmkP zm_217 := rfl
theorem zm_ok_218 : zmchk zm_218 = true := by decide +kernel
set_option maxRecDepth 20000 in
theorem zmk_ok_218 : zmkP zm_218 := rfl
theorem zm_ok_219 : zmchk zm_219 = true := by decide +kernel
set_option maxRecDepth 20000 in
theorem zmk_ok_219 : zmkP zm_219 := rfl
theorem zm_ok_220 : zmchk zm_220 = true := by decide +kernel
set_option maxRecDepth 20000 in
theorem zmk_ok_220 : zmkP zm_220 := rfl
theorem zm_ok_221 : zmchk zm_221 = true := by decide +kernel
set_option maxRecDepth 20000 in
theorem zmk_ok_221 : zmkP zm_221 := rfl
theorem zm_ok_222 : zmchk zm_222 = true := by decide +kernel
set_option maxRecDepth 20000 in
theorem zmk_ok_222 : zmkP zm_222 := rfl
theorem zm_ok_223 : zmchk zm_223 = true := by decide +kernel
set_option maxRecDepth 20000 in
theorem zmk_ok_223 : zmkP zm_223 := rfl
theorem zm_ok_224 : zmchk zm_224 = true := by decide +kernel
set_option maxRecDepth 20000 in
theorem zmk_ok_224 : zmkP zm_224 := rfl
theorem zm_ok_225 : zmchk zm_225 = true := by decide +kernel
set_option maxRecDepth 20000 in
theorem zmk_ok_225 : zmkP zm_225 := rfl
theorem zm_ok_226 : zmchk zm_226 = true := by decide +kernel
set_option maxRecDepth 20000 in
theorem zmk_ok_226 : zmkP zm_226 := rfl
theorem zm_ok_227 : zmchk zm_227 = true := by decide +kernel
set_option maxRecDepth 20000 in
theorem zmk_ok_227 : zmkP zm_227 := rfl
theorem zm_ok_228 : zmchk zm_228 = true := by decide +kernel
set_option maxRecDepth 20000 in
theorem zmk_ok_228 : zmkP zm_228 := rfl
theorem zm_ok_229 : zmchk zm_229 = true := by decide +kernel
set_option maxRecDepth 20000 in
theorem zmk_ok_229 : zmkP zm_229 := rfl
theorem zm_ok_230 : zmchk zm_230 = true := by decide +kernel
set_option maxRecDepth 20000 in
theorem zmk_ok_230 : zmkP zm_230 := rfl
theorem zm_ok_231 : zmchk zm_231 = true := by decide +kernel
set_option maxRecDepth 20000 in
theorem zmk_ok_231 : zmkP zm_231 := rfl
theorem zm_ok_232 : zmchk zm_232 = true := by decide +kernel
set_option maxRecDepth 20000 in
theorem zmk_ok_232 : zmkP zm_232 := rfl
theorem zm_ok_233 : zmchk zm_233 = true := by decide +kernel
set_option maxRecDepth 20000 in
theorem zmk_ok_233 : zmkP zm_233 := rfl
theorem zm_ok_234 : zmchk zm_234 = true := by decide +kernel
set_option maxRecDepth 20000 in
theorem zmk_ok_234 : zmkP zm_234 := rfl
theorem zm_ok_235 : zmchk zm_235 = true := by decide +kernel
set_option maxRecDepth 20000 in
theorem zmk_ok_235 : zmkP zm_235 := rfl
theorem zm_ok_236 : zmchk zm_236 = true := by decide +kernel
set_option maxRecDepth 20000 in
theorem zmk_ok_236 : zmkP zm_236 := rfl
theorem zm_ok_237 : zmchk zm_237 = true := by decide +kernel
set_option maxRecDepth 20000 in
theorem zmk_ok_237 : zmkP zm_237 := rfl
theorem zm_ok_238 : zmchk zm_238 = true := by decide +kernel
set_option maxRecDepth 20000 in
theorem zmk_ok_238 : zmkP zm_238 := rfl
theorem zm_ok_239 : zmchk zm_239 = true := by decide +kernel
set_option maxRecDepth 20000 in
theorem zmk_ok_239 : zmkP zm_239 := rfl
theorem zm_ok_240 : zmchk zm_240 = true := by decide +kernel
set_option maxRecDepth 20000 in
theorem zmk_ok_240 : zmkP zm_240 := rfl
theorem zm_ok_241 : zmchk zm_241 = true := by decide +kernel
set_option maxRecDepth 20000 in
theorem zmk_ok_241 : zmkP zm_241 := rfl
theorem zm_ok_242 : zmchk zm_242 = true := by decide +kernel
set_option maxRecDepth 20000 in
theorem zmk_ok_242 : zmkP zm_242 := rfl
theorem zm_ok_243 : zmchk zm_243 = true := by decide +kernel
set_option maxRecDepth 20000 in
theorem zmk_ok_243 : zmkP zm_243 := rfl
theorem zm_ok_244 : zmchk zm_244 = true := by decide +kernel
set_option maxRecDepth 20000 in
theorem zmk_ok_244 : zmkP zm_244 := rfl
theorem zm_ok_245 : zmchk zm_245 = true := by decide +kernel
set_option maxRecDepth 20000 in
theorem zmk_ok_245 : zmkP zm_245 := rfl
theorem zm_ok_246 : zmchk zm_246 = true := by decide +kernel
set_option maxRecDepth 20000 in
theorem zmk_ok_246 : zmkP zm_246 := rfl
theorem zm_ok_247 : zmchk zm_247 = true := by decide +kernel
set_option maxRecDepth 20000 in
theorem zmk_ok_247 : zmkP zm_247 := rfl
theorem zm_ok_248 : zmchk zm_248 = true := by decide +kernel
set_option maxRecDepth 20000 in
theorem zmk_ok_248 : zmkP zm_248 := rfl
theorem zm_ok_249 : zmchk zm_249 = true := by decide +kernel
set_option maxRecDepth 20000 in
theorem zmk_ok_249 : zmkP zm_249 := rfl
theorem zm_ok_250 : zmchk zm_250 = true := by decide +kernel
set_option maxRecDepth 20000 in
theorem zmk_ok_250 : zmkP zm_250 := rfl
theorem zm_ok_251 : zmchk zm_251 = true := by decide +kernel
set_option maxRecDepth 20000 in
theorem zmk_ok_251 : zmkP zm_251 := rfl
theorem zm_ok_252 : zmchk zm_252 = true := by decide +kernel
set_option maxRecDepth 20000 in
theorem zmk_ok_252 : zmkP zm_252 := rfl
theorem zm_ok_253 : zmchk zm_253 = true := by decide +kernel
set_option maxRecDepth 20000 in
theorem zmk_ok_253 : zmkP zm_253 := rfl
theorem zm_ok_254 : zmchk zm_254 = true := by decide +kernel
set_option maxRecDepth 20000 in
theorem zmk_ok_254 : zmkP zm_254 := rfl
theorem zm_ok_255 : zmchk zm_255 = true := by decide +kernel
set_option maxRecDepth 20000 in
theorem zmk_ok_255 : zmkP zm_255 := rfl
theorem zm_ok_256 : zmchk zm_256 = true := by decide +kernel
set_option maxRecDepth 20000 in
theorem zmk_ok_256 : zmkP zm_256 := rfl
theorem zm_ok_257 : zmchk zm_257 = true := by decide +kernel
set_option maxRecDepth 20000 in
theorem zmk_ok_257 : zmkP zm_257 := rfl
theorem zm_ok_258 : zmchk zm_258 = true := by decide +kernel
set_option maxRecDepth 20000 in
theorem zmk_ok_258 : zmkP zm_258 := rfl
theorem zm_ok_259 : zmchk zm_259 = true := by decide +kernel
set_option maxRecDepth 20000 in
theorem zmk_ok_259 : zmkP zm_259 := rfl
theorem zm_ok_260 : zmchk zm_260 = true := by decide +kernel
set_option maxRecDepth 20000 in
theorem zmk_ok_260 : zmkP zm_260 := rfl
theorem zm_ok_261 : zmchk zm_261 = true := by decide +kernel
set_option maxRecDepth 20000 in
theorem zmk_ok_261 : zmkP zm_261 := rfl
theorem zm_ok_262 : zmchk zm_262 = true := by decide +kernel
set_option maxRecDepth 20000 in
theorem zmk_ok_262 : zmkP zm_262 := rfl
theorem zm_ok_263 : zmchk zm_263 = true := by decide +kernel
set_option maxRecDepth 20000 in
theorem zmk_ok_263 : zmkP zm_263 := rfl
theorem zm_ok_264 : zmchk zm_264 = true := by decide +kernel
set_option maxRecDepth 20000 in
theorem zmk_ok_264 : zmkP zm_264 := rfl
theorem zm_ok_265 : zmchk zm_265 = true := by decide +kernel
set_option maxRecDepth 20000 in
theorem zmk_ok_265 : zmkP zm_265 := rfl
theorem zm_ok_266 : zmchk zm_266 = true := by decide +kernel
set_option maxRecDepth 20000 in
theorem zmk_ok_266 : zmkP zm_266 := rfl
theorem zm_ok_267 : zmchk zm_267 = true := by decide +kernel
set_option maxRecDepth 20000 in
theorem zmk_ok_267 : zmkP zm_267 := rfl
theorem zm_ok_268 : zmchk zm_268 = true := by decide +kernel
set_option maxRecDepth 20000 in
theorem zmk_ok_268 : zmkP zm_268 := rfl
theorem zm_ok_269 : zmchk zm_269 = true := by decide +kernel
set_option maxRecDepth 20000 in
theorem zmk_ok_269 : zmkP zm_269 := rfl
theorem zm_ok_270 : zmchk zm_270 = true := by decide +kernel
set_option maxRecDepth 20000 in
theorem zmk_ok_270 : zmkP zm_270 := rfl
theorem zm_ok_271 : zmchk zm_271 = true := by decide +kernel
set_option maxRecDepth 20000 in
theorem zmk_ok_271 : zmkP zm_271 := rfl
theorem zm_ok_272 : zmchk zm_272 = true := by decide +kernel
set_option maxRecDepth 20000 in
theorem zmk_ok_272 : zmkP zm_272 := rfl
theorem zm_ok_273 : zmchk zm_273 = true := by decide +kernel
set_option maxRecDepth 20000 in
theorem zmk_ok_273 : zmkP zm_273 := rfl
theorem zm_ok_274 : zmchk zm_274 = true := by decide +kernel
set_option maxRecDepth 20000 in
theorem zmk_ok_274 : zmkP zm_274 := rfl
theorem zm_ok_275 : zmchk zm_275 = true := by decide +kernel
set_option maxRecDepth 20000 in
theorem zmk_ok_275 : zmkP zm_275 := rfl
theorem zm_ok_276 : zmchk zm_276 = true := by decide +kernel
set_option maxRecDepth 20000 in
theorem zmk_ok_276 : zmkP zm_276 := rfl
theorem zm_ok_277 : zmchk zm_277 = true := by decide +kernel
set_option maxRecDepth 20000 in
theorem zmk_ok_277 : zmkP zm_277 := rfl
theorem zm_ok_278 : zmchk zm_278 = true := by decide +kernel
set_option maxRecDepth 20000 in
theorem zmk_ok_278 : zmkP zm_278 := rfl
theorem zm_ok_279 : zmchk zm_279 = true := by decide +kernel
set_option maxRecDepth 20000 in
theorem zmk_ok_279 : zmkP zm_279 := rfl
theorem zm_ok_280 : zmchk zm_280 = true := by decide +kernel
set_option maxRecDepth 20000 in
theorem zmk_ok_280 : zmkP zm_280 := rfl
theorem zm_ok_281 : zmchk zm_281 = true := by decide +kernel
set_option maxRecDepth 20000 in
theorem zmk_ok_281 : zmkP zm_281 := rfl
theorem zm_ok_282 : zmchk zm_282 = true := by decide +kernel
set_option maxRecDepth 20000 in
theorem zmk_ok_282 : zmkP zm_282 := rfl
theorem zm_ok_283 : zmchk zm_283 = true := by decide +kernel
set_option maxRecDepth 20000 in
theorem zmk_ok_283 : zmkP zm_283 := rfl
theorem zm_ok_284 : zmchk zm_284 = true := by decide +kernel
set_option maxRecDepth 20000 in
theorem zmk_ok_284 : zmkP zm_284 := rfl
theorem zm_ok_285 : zmchk zm_285 = true := by decide +kernel
set_option maxRecDepth 20000 in
theorem zmk_ok_285 : zmkP zm_285 := rfl
theorem zm_ok_286 : zmchk zm_286 = true := by decide +kernel
set_option maxRecDepth 20000 in
theorem zmk_ok_286 : zmkP zm_286 := rfl
theorem zm_ok_287 : zmchk zm_287 = true := by decide +kernel
set_option maxRecDepth 20000 in
theorem zmk_ok_287 : zmkP zm_287 := rfl
theorem zm_ok_288 : zmchk zm_288 = true := by decide +kernel
set_option maxRecDepth 20000 in
theorem zmk_ok_288 : zmkP zm_288 := rfl
theorem zm_ok_289 : zmchk zm_289 = true := by decide +kernel
set_option maxRecDepth 20000 in
theorem zmk_ok_289 : zmkP zm_289 := rfl
theorem zm_ok_290 : zmchk zm_290 = true := by decide +kernel
set_option maxRecDepth 20000 in
theorem zmk_ok_290 : zmkP zm_290 := rfl
theorem zm_ok_291 : zmchk zm_291 = true := by decide +kernel
set_option maxRecDepth 20000 in
theorem zmk_ok_291 : zmkP zm_291 := rfl
theorem zm_all : ∀ y, y < 292 → zmchk (zm y) = true
  | 0, _ => zm_ok_0
  | 1, _ => zm_ok_1
  | 2, _ => zm_ok_2
  | 3, _ => zm_ok_3
  | 4, _ => zm_ok_4
  | 5, _ => zm_ok_5
  | 6, _ => zm_ok_6
  | 7, _ => zm_ok_7
  | 8, _ => zm_ok_8
  | 9, _ => zm_ok_9
  | 10, _ => zm_ok_10
  | 11, _ => zm_ok_11
  | 12, _ => zm_ok_12
  | 13, _ => zm_ok_13
  | 14, _ => zm_ok_14
  | 15, _ => zm_ok_15
  | 16, _ => zm_ok_16
  | 17, _ => zm_ok_17
  | 18, _ => zm_ok_18
  | 19, _ => zm_ok_19
  | 20, _ => zm_ok_20
  | 21, _ => zm_ok_21
  | 22, _ => zm_ok_22
  | 23, _ => zm_ok_23
  | 24, _ => zm_ok_24
  | 25, _ => zm_ok_25
  | 26, _ => zm_ok_26
  | 27, _ => zm_ok_27
  | 28, _ => zm_ok_28
  | 29, _ => zm_ok_29
  | 30, _ => zm_ok_30
  | 31, _ => zm_ok_31
  | 32, _ => zm_ok_32
  | 33, _ => zm_ok_33
  | 34, _ => zm_ok_34
  | 35, _ => zm_ok_35
  | 36, _ => zm_ok_36
  | 37, _ => zm_ok_37
  | 38, _ => zm_ok_38
  | 39, _ => zm_ok_39
  | 40, _ => zm_ok_40
  | 41, _ => zm_ok_41
  | 42, _ => zm_ok_42
  | 43, _ => zm_ok_43
  | 44, _ => zm_ok_44
  | 45, _ => zm_ok_45
  | 46, _ => zm_ok_46
  | 47, _ => zm_ok_47
  | 48, _ => zm_ok_48
  | 49, _ => zm_ok_49
  | 50, _ => zm_ok_50
  | 51, _ => zm_ok_51
  | 52, _ => zm_ok_52
  | 53, _ => zm_ok_53
  | 54, _ => zm_ok_54
  | 55, _ => zm_ok_55
  | 56, _ => zm_ok_56
  | 57, _ => zm_ok_57
  | 58, _ => zm_ok_58
  | 59, _ => zm_ok_59
  | 60, _ => zm_ok_60
  | 61, _ => zm_ok_61
  | 62, _ => zm_ok_62
  | 63, _ => zm_ok_63
  | 64, _ => zm_ok_64
  | 65, _ => zm_ok_65
  | 66, _ => zm_ok_66
  | 67, _ => zm_ok_67
  | 68, _ => zm_ok_68
  | 69, _ => zm_ok_69
  | 70, _ => zm_ok_70
  | 71, _ => zm_ok_71
  | 72, _ => zm_ok_72
  | 73, _ => zm_ok_73
  | 74, _ => zm_ok_74
  | 75, _ => zm_ok_75
  | 76, _ => zm_ok_76
  | 77, _ => zm_ok_77
  | 78, _ => zm_ok_78
  | 79, _ => zm_ok_79
  | 80, _ => zm_ok_80
  | 81, _ => zm_ok_81
  | 82, _ => zm_ok_82
  | 83, _ => zm_ok_83
  | 84, _ => zm_ok_84
  | 85, _ => zm_ok_85
  | 86, _ => zm_ok_86
  | 87, _ => zm_ok_87
  | 88, _ => zm_ok_88
  | 89, _ => zm_ok_89
  | 90, _ => zm_ok_90
  | 91, _ => zm_ok_91
  | 92, _ => zm_ok_92
  | 93, _ => zm_ok_93
  | 94, _ => zm_ok_94
  | 95, _ => zm_ok_95
  | 96, _ => zm_ok_96
  | 97, _ => zm_ok_97
  | 98, _ => zm_ok_98
  | 99, _ => zm_ok_99
  | 100, _ => zm_ok_100
  | 101, _ => zm_ok_101
  | 102, _ => zm_ok_102
  | 103, _ => zm_ok_103
  | 104, _ => zm_ok_104
  | 105, _ => zm_ok_105
  | 106, _ => zm_ok_106
  | 107, _ => zm_ok_107
  | 108, _ => zm_ok_108
  | 109, _ => zm_ok_109
  | 110, _ => zm_ok_110
  | 111, _ => zm_ok_111
  | 112, _ => zm_ok_112
  | 113, _ => zm_ok_113
  | 114, _ => zm_ok_114
  | 115, _ => zm_ok_115
  | 116, _ => zm_ok_116
  | 117, _ => zm_ok_117
  | 118, _ => zm_ok_118
  | 119, _ => zm_ok_119
  | 120, _ => zm_ok_120
  | 121, _ => zm_ok_121
  | 122, _ => zm_ok_122
  | 123, _ => zm_ok_123
  | 124, _ => zm_ok_124
  | 125, _ => zm_ok_125
  | 126, _ => zm_ok_126
  | 127, _ => zm_ok_127
  | 128, _ => zm_ok_128
  | 129, _ => zm_ok_129
  | 130, _ => zm_ok_130
  | 131, _ => zm_ok_131
  | 132, _ => zm_ok_132
  | 133, _ => zm_ok_133
  | 134, _ => zm_ok_134
  | 135, _ => zm_ok_135
  | 136, _ => zm_ok_136
  | 137, _ => zm_ok_137
  | 138, _ => zm_ok_138
  | 139, _ => zm_ok_139
  | 140, _ => zm_ok_140
  | 141, _ => zm_ok_141
  | 142, _ => zm_ok_142
  | 143, _ => zm_ok_143
  | 144, _ => zm_ok_144
  | 145, _ => zm_ok_145
  | 146, _ => zm_ok_146
  | 147, _ => zm_ok_147
  | 148, _ => zm_ok_148
  | 149, _ => zm_ok_149
  | 150, _ => zm_ok_150
  | 151, _ => zm_ok_151
  | 152, _ => zm_ok_152
  | 153, _ => zm_ok_153
  | 154, _ => zm_ok_154
  | 155, _ => zm_ok_155
  | 156, _ => zm_ok_156
  | 157, _ => zm_ok_157
  | 158, _ => zm_ok_158
  | 159, _ => zm_ok_159
  | 160, _ => zm_ok_160
  | 161, _ => zm_ok_161
  | 162, _ => zm_ok_162
  | 163, _ => zm_ok_163
  | 164, _ => zm_ok_164
  | 165, _ => zm_ok_165
  | 166, _ => zm_ok_166
  | 167, _ => zm_ok_167
  | 168, _ => zm_ok_168
  | 169, _ => zm_ok_169
  | 170, _ => zm_ok_170
  | 171, _ => zm_ok_171
  | 172, _ => zm_ok_172
  | 173, _ => zm_ok_173
  | 174, _ => zm_ok_174
  | 175, _ => zm_ok_175
  | 176, _ => zm_ok_176
  | 177, _ => zm_ok_177
  | 178, _ => zm_ok_178
  | 179, _ => zm_ok_179
  | 180, _ => zm_ok_180
  | 181, _ => zm_ok_181
  | 182, _ => zm_ok_182
  | 183, _ => zm_ok_183
  | 184, _ => zm_ok_184
  | 185, _ => zm_ok_185
  | 186, _ => zm_ok_186
  | 187, _ => zm_ok_187
  | 188, _ => zm_ok_188
  | 189, _ => zm_ok_189
  | 190, _ => zm_ok_190
  | 191, _ => zm_ok_191
  | 192, _ => zm_ok_192
  | 193, _ => zm_ok_193
  | 194, _ => zm_ok_194
  | 195, _ => zm_ok_195
  | 196, _ => zm_ok_196
  | 197, _ => zm_ok_197
  | 198, _ => zm_ok_198
  | 199, _ => zm_ok_199
  | 200, _ => zm_ok_200
  | 201, _ => zm_ok_201
  | 202, _ => zm_ok_202
  | 203, _ => zm_ok_203
  | 204, _ => zm_ok_204
  | 205, _ => zm_ok_205
  | 206, _ => zm_ok_206
  | 207, _ => zm_ok_207
  | 208, _ => zm_ok_208
  | 209, _ => zm_ok_209
  | 210, _ => zm_ok_210
  | 211, _ => zm_ok_211
  | 212, _ => zm_ok_212
  | 213, _ => zm_ok_213
  | 214, _ => zm_ok_214
  | 215, _ => zm_ok_215
  | 216, _ => zm_ok_216
  | 217, _ => zm_ok_217
  | 218, _ => zm_ok_218
  | 219, _ => zm_ok_219
  | 220, _ => zm_ok_220
  | 221, _ => zm_ok_221
  | 222, _ => zm_ok_222
  | 223, _ => zm_ok_223
  | 224, _ => zm_ok_224
  | 225, _ => zm_ok_225
  | 226, _ => zm_ok_226
  | 227, _ => zm_ok_227
  | 228, _ => zm_ok_228
  | 229, _ => zm_ok_229
  | 230, _ => zm_ok_230
  | 231, _ => zm_ok_231
  | 232, _ => zm_ok_232
  | 233, _ => zm_ok_233
  | 234, _ => zm_ok_234
  | 235, _ => zm_ok_235
  | 236, _ => zm_ok_236
  | 237, _ => zm_ok_237
  | 238, _ => zm_ok_238
  | 239, _ => zm_ok_239
  | 240, _ => zm_ok_240
  | 241, _ => zm_ok_241
  | 242, _ => zm_ok_242
  | 243, _ => zm_ok_243
  | 244, _ => zm_ok_244
  | 245, _ => zm_ok_245
  | 246, _ => zm_ok_246
  | 247, _ => zm_ok_247
  | 248, _ => zm_ok_248
  | 249, _ => zm_ok_249
  | 250, _ => zm_ok_250
  | 251, _ => zm_ok_251
  | 252, _ => zm_ok_252
  | 253, _ => zm_ok_253
  | 254, _ => zm_ok_254
  | 255, _ => zm_ok_255
  | 256, _ => zm_ok_256
  | 257, _ => zm_ok_257
  | 258, _ => zm_ok_258
  | 259, _ => zm_ok_259
  | 260, _ => zm_ok_260
  | 261, _ => zm_ok_261
  | 262, _ => zm_ok_262
  | 263, _ => zm_ok_263
  | 264, _ => zm_ok_264
  | 265, _ => zm_ok_265
  | 266, _ => zm_ok_266
  | 267, _ => zm_ok_267
  | 268, _ => zm_ok_268
  | 269, _ => zm_ok_269
  | 270, _ => zm_ok_270
  | 271, _ => zm_ok_271
  | 272, _ => zm_ok_272
  | 273, _ => zm_ok_273
  | 274, _ => zm_ok_274
  | 275, _ => zm_ok_275
  | 276, _ => zm_ok_276
  | 277, _ => zm_ok_277
  | 278, _ => zm_ok_278
  | 279, _ => zm_ok_279
  | 280, _ => zm_ok_280
  | 281, _ => zm_ok_281
  | 282, _ => zm_ok_282
  | 283, _ => zm_ok_283
  | 284, _ => zm_ok_284
  | 285, _ => zm_ok_285
  | 286, _ => zm_ok_286
  | 287, _ => zm_ok_287
  | 288, _ => zm_ok_288
  | 289, _ => zm_ok_289
  | 290, _ => zm_ok_290
  | 291, _ => zm_ok_291
  | y + 292, h => absurd h (by omega)
theorem zmk_all : ∀ y, y < 292 → zmkP (zm y)
  | 0, _ => zmk_ok_0
  | 1, _ => zmk_ok_1
  | 2, _ => zmk_ok_2
  | 3, _ => zmk_ok_3
  | 4, _ => zmk_ok_4
  | 5, _ => zmk_ok_5
  | 6, _ => zmk_ok_6
  | 7, _ => zmk_ok_7
  | 8, _ => zmk_ok_8
  | 9, _ => zmk_ok_9
  | 10, _ => zmk_ok_10
  | 11, _ => zmk_ok_11
  | 12, _ => zmk_ok_12
  | 13, _ => zmk_ok_13
  | 14, _ => zmk_ok_14
  | 15, _ => zmk_ok_15
  | 16, _ => zmk_ok_16
  | 17, _ => zmk_ok_17
  | 18, _ => zmk_ok_18
  | 19, _ => zmk_ok_19
  | 20, _ => zmk_ok_20
  | 21, _ => zmk_ok_21
  | 22, _ => zmk_ok_22
  | 23, _ => zmk_ok_23
  | 24, _ => zmk_ok_24
  | 25, _ => zmk_ok_25
  | 26, _ => zmk_ok_26
  | 27, _ => zmk_ok_27
  | 28, _ => zmk_ok_28
  | 29, _ => zmk_ok_29
  | 30, _ => zmk_ok_30
  | 31, _ => zmk_ok_31
  | 32, _ => zmk_ok_32
  | 33, _ => zmk_ok_33
  | 34, _ => zmk_ok_34
  | 35, _ => zmk_ok_35
  | 36, _ => zmk_ok_36
  | 37, _ => zmk_ok_37
  | 38, _ => zmk_ok_38
  | 39, _ => zmk_ok_39
  | 40, _ => zmk_ok_40
  | 41, _ => zmk_ok_41
  | 42, _ => zmk_ok_42
  | 43, _ => zmk_ok_43
  | 44, _ => zmk_ok_44
  | 45, _ => zmk_ok_45
  | 46, _ => zmk_ok_46
  | 47, _ => zmk_ok_47
  | 48, _ => zmk_ok_48
  | 49, _ => zmk_ok_49
  | 50, _ => zmk_ok_50
  | 51, _ => zmk_ok_51
  | 52, _ => zmk_ok_52
  | 53, _ => zmk_ok_53
  | 54, _ => zmk_ok_54
  | 55, _ => zmk_ok_55
  | 56, _ => zmk_ok_56
  | 57, _ => zmk_ok_57
  | 58, _ => zmk_ok_58
  | 59, _ => zmk_ok_59
  | 60, _ => zmk_ok_60
  | 61, _ => zmk_ok_61
  | 62, _ => zmk_ok_62
  | 63, _ => zmk_ok_63
  | 64, _ => zmk_ok_64
  | 65, _ => zmk_ok_65
  | 66, _ => zmk_ok_66
  | 67, _ => zmk_ok_67
  | 68, _ => zmk_ok_68
  | 69, _ => zmk_ok_69
  | 70, _ => zmk_ok_70
  | 71, _ => zmk_ok_71
  | 72, _ => zmk_ok_72
  | 73, _ => zmk_ok_73
  | 74, _ => zmk_ok_74
  | 75, _ => zmk_ok_75
  | 76, _ => zmk_ok_76
  | 77, _ => zmk_ok_77
  | 78, _ => zmk_ok_78
  | 79, _ => zmk_ok_79
  | 80, _ => zmk_ok_80
  | 81, _ => zmk_ok_81
  | 82, _ => zmk_ok_82
  | 83, _ => zmk_ok_83
  | 84, _ => zmk_ok_84
  | 85, _ => zmk_ok_85
  | 86, _ => zmk_ok_86
  | 87, _ => zmk_ok_87
  | 88, _ => zmk_ok_88
  | 89, _ => zmk_ok_89
  | 90, _ => zmk_ok_90
  | 91, _ => zmk_ok_91
  | 92, _ => zmk_ok_92
  | 93, _ => zmk_ok_93
  | 94, _ => zmk_ok_94
  | 95, _ => zmk_ok_95
  | 96, _ => zmk_ok_96
  | 97, _ => zmk_ok_97
  | 98, _ => zmk_ok_98
  | 99, _ => zmk_ok_99
  | 100, _ => zmk_ok_100
  | 101, _ => zmk_ok_101
  | 102, _ => zmk_ok_102
  | 103, _ => zmk_ok_103
  | 104, _ => zmk_ok_104
  | 105, _ => zmk_ok_105
  | 106, _ => zmk_ok_106
  | 107, _ => zmk_ok_107
  | 108, _ => zmk_ok_108
  | 109, _ => zmk_ok_109
  | 110, _ => zmk_ok_110
  | 111, _ => zmk_ok_111
  | 112, _ => zmk_ok_112
  | 113, _ => zmk_ok_113
  | 114, _ => zmk_ok_114
  | 115, _ => zmk_ok_115
  | 116, _ => zmk_ok_116
  | 117, _ => zmk_ok_117
  | 118, _ => zmk_ok_118
  | 119, _ => zmk_ok_119
  | 120, _ => zmk_ok_120
  | 121, _ => zmk_ok_121
  | 122, _ => zmk_ok_122
  | 123, _ => zmk_ok_123
  | 124, _ => zmk_ok_124
  | 125, _ => zmk_ok_125
  | 126, _ => zmk_ok_126
  | 127, _ => zmk_ok_127
  | 128, _ => zmk_ok_128
  | 129, _ => zmk_ok_129
  | 130, _ => zmk_ok_130
  | 131, _ => zmk_ok_131
  | 132, _ => zmk_ok_132
  | 133, _ => zmk_ok_133
  | 134, _ => zmk_ok_134
  | 135, _ => zmk_ok_135
  | 136, _ => zmk_ok_136
  | 137, _ => zmk_ok_137
  | 138, _ => zmk_ok_138
  | 139, _ => zmk_ok_139
  | 140, _ => zmk_ok_140
  | 141, _ => zmk_ok_141
  | 142, _ => zmk_ok_142
  | 143, _ => zmk_ok_143
  | 144, _ => zmk_ok_144
  | 145, _ => zmk_ok_145
  | 146, _ => zmk_ok_146
  | 147, _ => zmk_ok_147
  | 148, _ => zmk_ok_148
  | 149, _ => zmk_ok_149
  | 150, _ => zmk_ok_150
  | 151, _ => zmk_ok_151
  | 152, _ => zmk_ok_152
  | 153, _ => zmk_ok_153
  | 154, _ => zmk_ok_154
  | 155, _ => zmk_ok_155
  | 156, _ => zmk_ok_156
  | 157, _ => zmk_ok_157
  | 158, _ => zmk_ok_158
  | 159, _ => zmk_ok_159
  | 160, _ => zmk_ok_160
  | 161, _ => zmk_ok_161
  | 162, _ => zmk_ok_162
  | 163, _ => zmk_ok_163
  | 164, _ => zmk_ok_164
  | 165, _ => zmk_ok_165
  | 166, _ => zmk_ok_166
  | 167, _ => zmk_ok_167
  | 168, _ => zmk_ok_168
  | 169, _ => zmk_ok_169
  | 170, _ => zmk_ok_170
  | 171, _ => zmk_ok_171
  | 172, _ => zmk_ok_172
  | 173, _ => zmk_ok_173
  | 174, _ => zmk_ok_174
  | 175, _ => zmk_ok_175
  | 176, _ => zmk_ok_176
  | 177, _ => zmk_ok_177
  | 178, _ => zmk_ok_178
  | 179, _ => zmk_ok_179
  | 180, _ => zmk_ok_180
  | 181, _ => zmk_ok_181
  | 182, _ => zmk_ok_182
  | 183, _ => zmk_ok_183
  | 184, _ => zmk_ok_184
  | 185, _ => zmk_ok_185
  | 186, _ => zmk_ok_186
  | 187, _ => zmk_ok_187
  | 188, _ => zmk_ok_188
  | 189, _ => zmk_ok_189
  | 190, _ => zmk_ok_190
  | 191, _ => zmk_ok_191
  | 192, _ => zmk_ok_192
  | 193, _ => zmk_ok_193
  | 194, _ => zmk_ok_194
  | 195, _ => zmk_ok_195
  | 196, _ => zmk_ok_196
  | 197, _ => zmk_ok_197
  | 198, _ => zmk_ok_198
  | 199, _ => zmk_ok_199
  | 200, _ => zmk_ok_200
  | 201, _ => zmk_ok_201
  | 202, _ => zmk_ok_202
  | 203, _ => zmk_ok_203
  | 204, _ => zmk_ok_204
  | 205, _ => zmk_ok_205
  | 206, _ => zmk_ok_206
  | 207, _ => zmk_ok_207
  | 208, _ => zmk_ok_208
  | 209, _ => zmk_ok_209
  | 210, _ => zmk_ok_210
  | 211, _ => zmk_ok_211
  | 212, _ => zmk_ok_212
  | 213, _ => zmk_ok_213
  | 214, _ => zmk_ok_214
  | 215, _ => zmk_ok_215
  | 216, _ => zmk_ok_216
  | 217, _ => zmk_ok_217
  | 218, _ => zmk_ok_218
  | 219, _ => zmk_ok_219
  | 220, _ => zmk_ok_220
  | 221, _ => zmk_ok_221
  | 222, _ => zmk_ok_222
  | 223, _ => zmk_ok_223
  | 224, _ => zmk_ok_224
  | 225, _ => zmk_ok_225
  | 226, _ => zmk_ok_226
  | 227, _ => zmk_ok_227
  | 228, _ => zmk_ok_228
  | 229, _ => zmk_ok_229
  | 230, _ => zmk_ok_230
  | 231, _ => zmk_ok_231
  | 232, _ => zmk_ok_232
  | 233, _ => zmk_ok_233
  | 234, _ => zmk_ok_234
  | 235, _ => zmk_ok_235
  | 236, _ => zmk_ok_236
  | 237, _ => zmk_ok_237
  | 238, _ => zmk_ok_238
  | 239, _ => zmk_ok_239
  | 240, _ => zmk_ok_240
  | 241, _ => zmk_ok_241
  | 242, _ => zmk_ok_242
  | 243, _ => zmk_ok_243
  | 244, _ => zmk_ok_244
  | 245, _ => zmk_ok_245
  | 246, _ => zmk_ok_246
  | 247, _ => zmk_ok_247
  | 248, _ => zmk_ok_248
  | 249, _ => zmk_ok_249
  | 250, _ => zmk_ok_250
  | 251, _ => zmk_ok_251
  | 252, _ => zmk_ok_252
  | 253, _ => zmk_ok_253
  | 254, _ => zmk_ok_254
  | 255, _ => zmk_ok_255
  | 256, _ => zmk_ok_256
  | 257, _ => zmk_ok_257
  | 258, _ => zmk_ok_258
  | 259, _ => zmk_ok_259
  | 260, _ => zmk_ok_260
  | 261, _ => zmk_ok_261
  | 262, _ => zmk_ok_262
  | 263, _ => zmk_ok_263
  | 264, _ => zmk_ok_264
  | 265, _ => zmk_ok_265
  | 266, _ => zmk_ok_266
  | 267, _ => zmk_ok_267
  | 268, _ => zmk_ok_268
  | 269, _ => zmk_ok_269
  | 270, _ => zmk_ok_270
  | 271, _ => zmk_ok_271
  | 272, _ => zmk_ok_272
  | 273, _ => zmk_ok_273
  | 274, _ => zmk_ok_274
  | 275, _ => zmk_ok_275
  | 276, _ => zmk_ok_276
  | 277, _ => zmk_ok_277
  | 278, _ => zmk_ok_278
  | 279, _ => zmk_ok_279
  | 280, _ => zmk_ok_280
  | 281, _ => zmk_ok_281
  | 282, _ => zmk_ok_282
  | 283, _ => zmk_ok_283
  | 284, _ => zmk_ok_284
  | 285, _ => zmk_ok_285
  | 286, _ => zmk_ok_286
  | 287, _ => zmk_ok_287
  | 288, _ => zmk_ok_288
  | 289, _ => zmk_ok_289
  | 290, _ => zmk_ok_290
  | 291, _ => zmk_ok_291
  | y + 292, h => absurd h (by omega)
noncomputable def zLI : Nat → List Nat := fun ci => match ci with
  | 0 => zLI_0
  | 1 => zLI_1
  | 2 => zLI_2
  | 3 => zLI_3
  | 4 => zLI_4
  | 5 => zLI_5
  | 6 => zLI_6
  | 7 => zLI_7
  | 8 => zLI_8
  | 9 => zLI_9
  | 10 => zLI_10
  | 11 => zLI_11
  | _ => zLI_12
noncomputable def zwchk (ci : Nat) : Bool := match vwCl[ci]? with
  | some (C, T, N) => decide (u_ws C T N = (zLI ci).filterMap (fun i => lw_tbl[i]?)) && (u_ws C T N).all goodWord
  | none => false
theorem zw_all : ∀ ci, ci < 13 → zwchk ci = true := by decide +kernel
