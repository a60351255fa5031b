theorem dX0_init_0 : decode cX0_init 0 = .ok (.aload_n 0, 1) := by decide +kernel
theorem dX0_init_1 : decode cX0_init 1 = .ok (.invokespecial 3, 3) := by decide +kernel
theorem dX0_init_4 : decode cX0_init 4 = .ok (.aload_n 0, 1) := by decide +kernel
theorem dX0_init_5 : decode cX0_init 5 = .ok (.iconst 0, 1) := by decide +kernel
theorem dX0_init_6 : decode cX0_init 6 = .ok (.putfield 9, 3) := by decide +kernel
theorem dX0_init_9 : decode cX0_init 9 = .ok (.aload_n 0, 1) := by decide +kernel
theorem dX0_init_10 : decode cX0_init 10 = .ok (.iconst 0, 1) := by decide +kernel
theorem dX0_init_11 : decode cX0_init 11 = .ok (.putfield 15, 3) := by decide +kernel
theorem dX0_init_14 : decode cX0_init 14 = .ok (.aload_n 0, 1) := by decide +kernel
theorem dX0_init_15 : decode cX0_init 15 = .ok (.iconst 0, 1) := by decide +kernel
theorem dX0_init_16 : decode cX0_init 16 = .ok (.putfield 18, 3) := by decide +kernel
theorem dX0_init_19 : decode cX0_init 19 = .ok (.aload_n 0, 1) := by decide +kernel
theorem dX0_init_20 : decode cX0_init 20 = .ok (.iconst 0, 1) := by decide +kernel
theorem dX0_init_21 : decode cX0_init 21 = .ok (.putfield 21, 3) := by decide +kernel
theorem dX0_init_24 : decode cX0_init 24 = .ok (.aload_n 0, 1) := by decide +kernel
theorem dX0_init_25 : decode cX0_init 25 = .ok (.iconst 0, 1) := by decide +kernel
theorem dX0_init_26 : decode cX0_init 26 = .ok (.putfield 24, 3) := by decide +kernel
theorem dX0_init_29 : decode cX0_init 29 = .ok (.aload_n 0, 1) := by decide +kernel
theorem dX0_init_30 : decode cX0_init 30 = .ok (.iconst 0, 1) := by decide +kernel
theorem dX0_init_31 : decode cX0_init 31 = .ok (.putfield 27, 3) := by decide +kernel
theorem dX0_init_34 : decode cX0_init 34 = .ok (.aload_n 0, 1) := by decide +kernel
theorem dX0_init_35 : decode cX0_init 35 = .ok (.iconst 0, 1) := by decide +kernel
theorem dX0_init_36 : decode cX0_init 36 = .ok (.putfield 30, 3) := by decide +kernel
theorem dX0_init_39 : decode cX0_init 39 = .ok (.aload_n 0, 1) := by decide +kernel
theorem dX0_init_40 : decode cX0_init 40 = .ok (.iconst 0, 1) := by decide +kernel
theorem dX0_init_41 : decode cX0_init 41 = .ok (.putfield 34, 3) := by decide +kernel
theorem dX0_init_44 : decode cX0_init 44 = .ok (.aload_n 0, 1) := by decide +kernel
theorem dX0_init_45 : decode cX0_init 45 = .ok (.iconst 3, 1) := by decide +kernel
theorem dX0_init_46 : decode cX0_init 46 = .ok (.newarray .int, 2) := by decide +kernel
theorem dX0_init_48 : decode cX0_init 48 = .ok (.dup, 1) := by decide +kernel
theorem dX0_init_49 : decode cX0_init 49 = .ok (.iconst 0, 1) := by decide +kernel
theorem dX0_init_50 : decode cX0_init 50 = .ok (.iconst (-1), 1) := by decide +kernel
theorem dX0_init_51 : decode cX0_init 51 = .ok (.iastore, 1) := by decide +kernel
theorem dX0_init_52 : decode cX0_init 52 = .ok (.dup, 1) := by decide +kernel
theorem dX0_init_53 : decode cX0_init 53 = .ok (.iconst 1, 1) := by decide +kernel
theorem dX0_init_54 : decode cX0_init 54 = .ok (.iconst (-1), 1) := by decide +kernel
theorem dX0_init_55 : decode cX0_init 55 = .ok (.iastore, 1) := by decide +kernel
theorem dX0_init_56 : decode cX0_init 56 = .ok (.dup, 1) := by decide +kernel
theorem dX0_init_57 : decode cX0_init 57 = .ok (.iconst 2, 1) := by decide +kernel
theorem dX0_init_58 : decode cX0_init 58 = .ok (.iconst (-1), 1) := by decide +kernel
theorem dX0_init_59 : decode cX0_init 59 = .ok (.iastore, 1) := by decide +kernel
theorem dX0_init_60 : decode cX0_init 60 = .ok (.putfield 37, 3) := by decide +kernel
theorem dX0_init_63 : decode cX0_init 63 = .ok (.aload_n 0, 1) := by decide +kernel
theorem dX0_init_64 : decode cX0_init 64 = .ok (.bipush 8, 2) := by decide +kernel
theorem dX0_init_66 : decode cX0_init 66 = .ok (.newarray .int, 2) := by decide +kernel
theorem dX0_init_68 : decode cX0_init 68 = .ok (.putfield 41, 3) := by decide +kernel
theorem dX0_init_71 : decode cX0_init 71 = .ok (.aload_n 0, 1) := by decide +kernel
theorem dX0_init_72 : decode cX0_init 72 = .ok (.iload_n 1, 1) := by decide +kernel
theorem dX0_init_73 : decode cX0_init 73 = .ok (.putfield 44, 3) := by decide +kernel
theorem dX0_init_76 : decode cX0_init 76 = .ok (.return_, 1) := by decide +kernel
theorem dX0_namedInputs_0 : decode cX0_namedInputs 0 = .ok (.aload_n 0, 1) := by decide +kernel
theorem dX0_namedInputs_1 : decode cX0_namedInputs 1 = .ok (.getfield 44, 3) := by decide +kernel
theorem dX0_namedInputs_4 : decode cX0_namedInputs 4 = .ok (.ifCond .lt 25, 3) := by decide +kernel
theorem dX0_namedInputs_7 : decode cX0_namedInputs 7 = .ok (.aload_n 0, 1) := by decide +kernel
theorem dX0_namedInputs_8 : decode cX0_namedInputs 8 = .ok (.getfield 44, 3) := by decide +kernel
theorem dX0_namedInputs_11 : decode cX0_namedInputs 11 = .ok (.getstatic 47, 3) := by decide +kernel
theorem dX0_namedInputs_14 : decode cX0_namedInputs 14 = .ok (.arraylength, 1) := by decide +kernel
theorem dX0_namedInputs_15 : decode cX0_namedInputs 15 = .ok (.if_icmp .ge 14, 3) := by decide +kernel
theorem dX0_namedInputs_18 : decode cX0_namedInputs 18 = .ok (.getstatic 47, 3) := by decide +kernel
theorem dX0_namedInputs_21 : decode cX0_namedInputs 21 = .ok (.aload_n 0, 1) := by decide +kernel
theorem dX0_namedInputs_22 : decode cX0_namedInputs 22 = .ok (.getfield 44, 3) := by decide +kernel
theorem dX0_namedInputs_25 : decode cX0_namedInputs 25 = .ok (.iaload, 1) := by decide +kernel
theorem dX0_namedInputs_26 : decode cX0_namedInputs 26 = .ok (.goto 4, 3) := by decide +kernel
theorem dX0_namedInputs_29 : decode cX0_namedInputs 29 = .ok (.iconst 0, 1) := by decide +kernel
theorem dX0_namedInputs_30 : decode cX0_namedInputs 30 = .ok (.ireturn, 1) := by decide +kernel
set_option maxRecDepth 20000 in
theorem ggX0_lacksWire_X0_namedInputs : GoodIn wsX0_lacksWire wsX0_namedInputs := goodIn_r _ [6, 7, 8, 9, 10, 11, 12, 13, 14, 15, 16, 17, 18] (by decide +kernel) (by decide +kernel)
set_option maxRecDepth 20000 in
theorem gX0_lacksWire_X0_namedInputs : GoodIn wsX0_lacksWire (wsV RX0 50 RX0 yX0_namedInputs wsX0_namedInputs) := goodIn_app (goodIn_of _ (by decide +kernel)) ggX0_lacksWire_X0_namedInputs
theorem dX0_lacksWire_0 : decode cX0_lacksWire 0 = .ok (.iconst 0, 1) := by decide +kernel
theorem dX0_lacksWire_1 : decode cX0_lacksWire 1 = .ok (.istore_n 1, 1) := by decide +kernel
theorem dX0_lacksWire_2 : decode cX0_lacksWire 2 = .ok (.iload_n 1, 1) := by decide +kernel
theorem dX0_lacksWire_3 : decode cX0_lacksWire 3 = .ok (.aload_n 0, 1) := by decide +kernel
theorem dX0_lacksWire_4 : decode cX0_lacksWire 4 = .ok (.invokevirtual 50, 3) := by decide +kernel
theorem dX0_lacksWire_7 : decode cX0_lacksWire 7 = .ok (.if_icmp .ge 21, 3) := by decide +kernel
theorem dX0_lacksWire_10 : decode cX0_lacksWire 10 = .ok (.aload_n 0, 1) := by decide +kernel
theorem dX0_lacksWire_11 : decode cX0_lacksWire 11 = .ok (.getfield 37, 3) := by decide +kernel
theorem dX0_lacksWire_14 : decode cX0_lacksWire 14 = .ok (.iload_n 1, 1) := by decide +kernel
theorem dX0_lacksWire_15 : decode cX0_lacksWire 15 = .ok (.iaload, 1) := by decide +kernel
theorem dX0_lacksWire_16 : decode cX0_lacksWire 16 = .ok (.iconst (-1), 1) := by decide +kernel
theorem dX0_lacksWire_17 : decode cX0_lacksWire 17 = .ok (.if_icmp .ne 5, 3) := by decide +kernel
theorem dX0_lacksWire_20 : decode cX0_lacksWire 20 = .ok (.iconst 1, 1) := by decide +kernel
theorem dX0_lacksWire_21 : decode cX0_lacksWire 21 = .ok (.ireturn, 1) := by decide +kernel
theorem dX0_lacksWire_22 : decode cX0_lacksWire 22 = .ok (.iinc 1 1, 3) := by decide +kernel
theorem dX0_lacksWire_25 : decode cX0_lacksWire 25 = .ok (.goto (-23), 3) := by decide +kernel
theorem dX0_lacksWire_28 : decode cX0_lacksWire 28 = .ok (.iconst 0, 1) := by decide +kernel
theorem dX0_lacksWire_29 : decode cX0_lacksWire 29 = .ok (.ireturn, 1) := by decide +kernel
theorem dX0_say_0 : decode cX0_say 0 = .ok (.aload_n 0, 1) := by decide +kernel
theorem dX0_say_1 : decode cX0_say 1 = .ok (.aload_n 0, 1) := by decide +kernel
theorem dX0_say_2 : decode cX0_say 2 = .ok (.getfield 30, 3) := by decide +kernel
theorem dX0_say_5 : decode cX0_say 5 = .ok (.ifCond .eq 10, 3) := by decide +kernel
theorem dX0_say_8 : decode cX0_say 8 = .ok (.aload_n 0, 1) := by decide +kernel
theorem dX0_say_9 : decode cX0_say 9 = .ok (.getfield 34, 3) := by decide +kernel
theorem dX0_say_12 : decode cX0_say 12 = .ok (.goto 4, 3) := by decide +kernel
theorem dX0_say_15 : decode cX0_say 15 = .ok (.iload_n 1, 1) := by decide +kernel
theorem dX0_say_16 : decode cX0_say 16 = .ok (.putfield 21, 3) := by decide +kernel
theorem dX0_say_19 : decode cX0_say 19 = .ok (.return_, 1) := by decide +kernel
set_option maxRecDepth 20000 in
theorem ggX0_ownReckoning_X3_isPlaceInRow : GoodIn wsX0_ownReckoning wsX3_isPlaceInRow := goodIn_r _ [13] (by decide +kernel) (by decide +kernel)
set_option maxRecDepth 20000 in
theorem gX0_ownReckoning_X3_isPlaceInRow_n54 : GoodIn wsX0_ownReckoning (wsX3_isPlaceInRow) := ggX0_ownReckoning_X3_isPlaceInRow
set_option maxRecDepth 20000 in
theorem ggX0_ownReckoning_X0_ramped : GoodIn wsX0_ownReckoning wsX0_ramped := goodIn_r _ [18, 2, 19, 20, 9, 21, 6, 22, 23, 24, 44, 45, 46, 47, 48, 49, 50, 51, 52, 53, 54] (by decide +kernel) (by decide +kernel)
set_option maxRecDepth 20000 in
theorem gX0_ownReckoning_X0_ramped : GoodIn wsX0_ownReckoning (wsV RX0 58 RX0 yX0_ramped wsX0_ramped) := goodIn_app (goodIn_of _ (by decide +kernel)) ggX0_ownReckoning_X0_ramped
set_option maxRecDepth 20000 in
theorem ggX0_ownReckoning_X0_counted : GoodIn wsX0_ownReckoning wsX0_counted := goodIn_r _ [28, 4, 29, 44, 45, 46, 47, 48, 49, 50, 51, 52, 53, 54] (by decide +kernel) (by decide +kernel)
set_option maxRecDepth 20000 in
theorem gX0_ownReckoning_X0_counted : GoodIn wsX0_ownReckoning (wsV RX0 62 RX0 yX0_counted wsX0_counted) := goodIn_app (goodIn_of _ (by decide +kernel)) ggX0_ownReckoning_X0_counted
set_option maxRecDepth 20000 in
theorem ggX0_ownReckoning_X0_latched : GoodIn wsX0_ownReckoning wsX0_latched := goodIn_r _ [33, 4, 44, 45, 46, 47, 48, 49, 50, 51, 52, 53, 54] (by decide +kernel) (by decide +kernel)
set_option maxRecDepth 20000 in
theorem gX0_ownReckoning_X0_latched : GoodIn wsX0_ownReckoning (wsV RX0 66 RX0 yX0_latched wsX0_latched) := goodIn_app (goodIn_of _ (by decide +kernel)) ggX0_ownReckoning_X0_latched
set_option maxRecDepth 20000 in
theorem ggX0_ownReckoning_X0_isClockOn : GoodIn wsX0_ownReckoning wsX0_isClockOn := goodIn_r _ [37, 2, 5, 44, 45, 46, 47, 48, 49, 50, 51, 52, 53, 54] (by decide +kernel) (by decide +kernel)
set_option maxRecDepth 20000 in
theorem gX0_ownReckoning_X0_isClockOn : GoodIn wsX0_ownReckoning (wsV RX0 69 RX0 yX0_isClockOn wsX0_isClockOn) := goodIn_app (goodIn_of _ (by decide +kernel)) ggX0_ownReckoning_X0_isClockOn
set_option maxRecDepth 20000 in
theorem ggX0_ownReckoning_X3_asNumber : GoodIn wsX0_ownReckoning wsX3_asNumber := goodIn_r _ [39] (by decide +kernel) (by decide +kernel)
set_option maxRecDepth 20000 in
theorem gX0_ownReckoning_X3_asNumber_n72 : GoodIn wsX0_ownReckoning (wsX3_asNumber) := ggX0_ownReckoning_X3_asNumber
set_option maxRecDepth 20000 in
theorem ggX0_ownReckoning_X0_pulsed : GoodIn wsX0_ownReckoning wsX0_pulsed := goodIn_r _ [43, 29, 2, 4, 44, 45, 46, 47, 48, 49, 50, 51, 52, 53, 54] (by decide +kernel) (by decide +kernel)
set_option maxRecDepth 20000 in
theorem gX0_ownReckoning_X0_pulsed : GoodIn wsX0_ownReckoning (wsV RX0 76 RX0 yX0_pulsed wsX0_pulsed) := goodIn_app (goodIn_of _ (by decide +kernel)) ggX0_ownReckoning_X0_pulsed
theorem dX0_ownReckoning_0 : decode cX0_ownReckoning 0 = .ok (.aload_n 0, 1) := by decide +kernel
theorem dX0_ownReckoning_1 : decode cX0_ownReckoning 1 = .ok (.getfield 44, 3) := by decide +kernel
theorem dX0_ownReckoning_4 : decode cX0_ownReckoning 4 = .ok (.tableswitch 281 1 25 #[116, 281, 281, 281, 281, 281, 281, 281, 281, 281, 281, 281, 281, 281, 121, 139, 144, 150, 157, 164, 177, 183, 215, 228, 251], 116) := by decide +kernel
theorem dX0_ownReckoning_120 : decode cX0_ownReckoning 120 = .ok (.aload_n 0, 1) := by decide +kernel
theorem dX0_ownReckoning_121 : decode cX0_ownReckoning 121 = .ok (.getfield 9, 3) := by decide +kernel
theorem dX0_ownReckoning_124 : decode cX0_ownReckoning 124 = .ok (.ireturn, 1) := by decide +kernel
theorem dX0_ownReckoning_125 : decode cX0_ownReckoning 125 = .ok (.iload_n 1, 1) := by decide +kernel
theorem dX0_ownReckoning_126 : decode cX0_ownReckoning 126 = .ok (.invokestatic 54, 3) := by decide +kernel
theorem dX0_ownReckoning_129 : decode cX0_ownReckoning 129 = .ok (.ifCond .eq 12, 3) := by decide +kernel
theorem dX0_ownReckoning_132 : decode cX0_ownReckoning 132 = .ok (.aload_n 0, 1) := by decide +kernel
theorem dX0_ownReckoning_133 : decode cX0_ownReckoning 133 = .ok (.getfield 41, 3) := by decide +kernel
theorem dX0_ownReckoning_136 : decode cX0_ownReckoning 136 = .ok (.iload_n 1, 1) := by decide +kernel
theorem dX0_ownReckoning_137 : decode cX0_ownReckoning 137 = .ok (.iaload, 1) := by decide +kernel
theorem dX0_ownReckoning_138 : decode cX0_ownReckoning 138 = .ok (.goto 4, 3) := by decide +kernel
theorem dX0_ownReckoning_141 : decode cX0_ownReckoning 141 = .ok (.iconst 0, 1) := by decide +kernel
theorem dX0_ownReckoning_142 : decode cX0_ownReckoning 142 = .ok (.ireturn, 1) := by decide +kernel
theorem dX0_ownReckoning_143 : decode cX0_ownReckoning 143 = .ok (.aload_n 0, 1) := by decide +kernel
theorem dX0_ownReckoning_144 : decode cX0_ownReckoning 144 = .ok (.getfield 24, 3) := by decide +kernel
theorem dX0_ownReckoning_147 : decode cX0_ownReckoning 147 = .ok (.ireturn, 1) := by decide +kernel
theorem dX0_ownReckoning_148 : decode cX0_ownReckoning 148 = .ok (.aload_n 0, 1) := by decide +kernel
theorem dX0_ownReckoning_149 : decode cX0_ownReckoning 149 = .ok (.iload_n 1, 1) := by decide +kernel
theorem dX0_ownReckoning_150 : decode cX0_ownReckoning 150 = .ok (.invokevirtual 58, 3) := by decide +kernel
theorem dX0_ownReckoning_153 : decode cX0_ownReckoning 153 = .ok (.ireturn, 1) := by decide +kernel
theorem dX0_ownReckoning_154 : decode cX0_ownReckoning 154 = .ok (.aload_n 0, 1) := by decide +kernel
theorem dX0_ownReckoning_155 : decode cX0_ownReckoning 155 = .ok (.iload_n 1, 1) := by decide +kernel
theorem dX0_ownReckoning_156 : decode cX0_ownReckoning 156 = .ok (.iload_n 2, 1) := by decide +kernel
theorem dX0_ownReckoning_157 : decode cX0_ownReckoning 157 = .ok (.invokevirtual 62, 3) := by decide +kernel
theorem dX0_ownReckoning_160 : decode cX0_ownReckoning 160 = .ok (.ireturn, 1) := by decide +kernel
theorem dX0_ownReckoning_161 : decode cX0_ownReckoning 161 = .ok (.aload_n 0, 1) := by decide +kernel
theorem dX0_ownReckoning_162 : decode cX0_ownReckoning 162 = .ok (.iload_n 1, 1) := by decide +kernel
theorem dX0_ownReckoning_163 : decode cX0_ownReckoning 163 = .ok (.iload_n 2, 1) := by decide +kernel
theorem dX0_ownReckoning_164 : decode cX0_ownReckoning 164 = .ok (.invokevirtual 66, 3) := by decide +kernel
theorem dX0_ownReckoning_167 : decode cX0_ownReckoning 167 = .ok (.ireturn, 1) := by decide +kernel
theorem dX0_ownReckoning_168 : decode cX0_ownReckoning 168 = .ok (.aload_n 0, 1) := by decide +kernel
theorem dX0_ownReckoning_169 : decode cX0_ownReckoning 169 = .ok (.iload_n 3, 1) := by decide +kernel
theorem dX0_ownReckoning_170 : decode cX0_ownReckoning 170 = .ok (.sipush 1440, 3) := by decide +kernel
theorem dX0_ownReckoning_173 : decode cX0_ownReckoning 173 = .ok (.irem, 1) := by decide +kernel
theorem dX0_ownReckoning_174 : decode cX0_ownReckoning 174 = .ok (.invokevirtual 69, 3) := by decide +kernel
theorem dX0_ownReckoning_177 : decode cX0_ownReckoning 177 = .ok (.invokestatic 72, 3) := by decide +kernel
theorem dX0_ownReckoning_180 : decode cX0_ownReckoning 180 = .ok (.ireturn, 1) := by decide +kernel
theorem dX0_ownReckoning_181 : decode cX0_ownReckoning 181 = .ok (.aload_n 0, 1) := by decide +kernel
theorem dX0_ownReckoning_182 : decode cX0_ownReckoning 182 = .ok (.iload_n 1, 1) := by decide +kernel
theorem dX0_ownReckoning_183 : decode cX0_ownReckoning 183 = .ok (.invokevirtual 76, 3) := by decide +kernel
theorem dX0_ownReckoning_186 : decode cX0_ownReckoning 186 = .ok (.ireturn, 1) := by decide +kernel
theorem dX0_ownReckoning_187 : decode cX0_ownReckoning 187 = .ok (.iload_n 1, 1) := by decide +kernel
theorem dX0_ownReckoning_188 : decode cX0_ownReckoning 188 = .ok (.aload_n 0, 1) := by decide +kernel
theorem dX0_ownReckoning_189 : decode cX0_ownReckoning 189 = .ok (.getfield 9, 3) := by decide +kernel
theorem dX0_ownReckoning_192 : decode cX0_ownReckoning 192 = .ok (.if_icmp .ge 10, 3) := by decide +kernel
theorem dX0_ownReckoning_195 : decode cX0_ownReckoning 195 = .ok (.aload_n 0, 1) := by decide +kernel
theorem dX0_ownReckoning_196 : decode cX0_ownReckoning 196 = .ok (.getfield 9, 3) := by decide +kernel
theorem dX0_ownReckoning_199 : decode cX0_ownReckoning 199 = .ok (.goto 19, 3) := by decide +kernel
theorem dX0_ownReckoning_202 : decode cX0_ownReckoning 202 = .ok (.iload_n 1, 1) := by decide +kernel
theorem dX0_ownReckoning_203 : decode cX0_ownReckoning 203 = .ok (.aload_n 0, 1) := by decide +kernel
theorem dX0_ownReckoning_204 : decode cX0_ownReckoning 204 = .ok (.getfield 15, 3) := by decide +kernel
theorem dX0_ownReckoning_207 : decode cX0_ownReckoning 207 = .ok (.if_icmp .le 10, 3) := by decide +kernel
theorem dX0_ownReckoning_210 : decode cX0_ownReckoning 210 = .ok (.aload_n 0, 1) := by decide +kernel
theorem dX0_ownReckoning_211 : decode cX0_ownReckoning 211 = .ok (.getfield 15, 3) := by decide +kernel
theorem dX0_ownReckoning_214 : decode cX0_ownReckoning 214 = .ok (.goto 4, 3) := by decide +kernel
theorem dX0_ownReckoning_217 : decode cX0_ownReckoning 217 = .ok (.iload_n 1, 1) := by decide +kernel
theorem dX0_ownReckoning_218 : decode cX0_ownReckoning 218 = .ok (.ireturn, 1) := by decide +kernel
theorem dX0_ownReckoning_219 : decode cX0_ownReckoning 219 = .ok (.iload_n 2, 1) := by decide +kernel
theorem dX0_ownReckoning_220 : decode cX0_ownReckoning 220 = .ok (.ifCond .eq 10, 3) := by decide +kernel
theorem dX0_ownReckoning_223 : decode cX0_ownReckoning 223 = .ok (.aload_n 0, 1) := by decide +kernel
theorem dX0_ownReckoning_224 : decode cX0_ownReckoning 224 = .ok (.getfield 21, 3) := by decide +kernel
theorem dX0_ownReckoning_227 : decode cX0_ownReckoning 227 = .ok (.goto 4, 3) := by decide +kernel
theorem dX0_ownReckoning_230 : decode cX0_ownReckoning 230 = .ok (.iload_n 1, 1) := by decide +kernel
theorem dX0_ownReckoning_231 : decode cX0_ownReckoning 231 = .ok (.ireturn, 1) := by decide +kernel
theorem dX0_ownReckoning_232 : decode cX0_ownReckoning 232 = .ok (.aload_n 0, 1) := by decide +kernel
theorem dX0_ownReckoning_233 : decode cX0_ownReckoning 233 = .ok (.iload_n 2, 1) := by decide +kernel
theorem dX0_ownReckoning_234 : decode cX0_ownReckoning 234 = .ok (.ifCond .eq 7, 3) := by decide +kernel
theorem dX0_ownReckoning_237 : decode cX0_ownReckoning 237 = .ok (.iconst 0, 1) := by decide +kernel
theorem dX0_ownReckoning_238 : decode cX0_ownReckoning 238 = .ok (.goto 9, 3) := by decide +kernel
theorem dX0_ownReckoning_241 : decode cX0_ownReckoning 241 = .ok (.aload_n 0, 1) := by decide +kernel
theorem dX0_ownReckoning_242 : decode cX0_ownReckoning 242 = .ok (.getfield 24, 3) := by decide +kernel
theorem dX0_ownReckoning_245 : decode cX0_ownReckoning 245 = .ok (.iload_n 1, 1) := by decide +kernel
theorem dX0_ownReckoning_246 : decode cX0_ownReckoning 246 = .ok (.iadd, 1) := by decide +kernel
theorem dX0_ownReckoning_247 : decode cX0_ownReckoning 247 = .ok (.putfield 24, 3) := by decide +kernel
theorem dX0_ownReckoning_250 : decode cX0_ownReckoning 250 = .ok (.aload_n 0, 1) := by decide +kernel
theorem dX0_ownReckoning_251 : decode cX0_ownReckoning 251 = .ok (.getfield 24, 3) := by decide +kernel
theorem dX0_ownReckoning_254 : decode cX0_ownReckoning 254 = .ok (.ireturn, 1) := by decide +kernel
theorem dX0_ownReckoning_255 : decode cX0_ownReckoning 255 = .ok (.aload_n 0, 1) := by decide +kernel
theorem dX0_ownReckoning_256 : decode cX0_ownReckoning 256 = .ok (.iload_n 1, 1) := by decide +kernel
theorem dX0_ownReckoning_257 : decode cX0_ownReckoning 257 = .ok (.ifCond .eq 12, 3) := by decide +kernel
theorem dX0_ownReckoning_260 : decode cX0_ownReckoning 260 = .ok (.aload_n 0, 1) := by decide +kernel
theorem dX0_ownReckoning_261 : decode cX0_ownReckoning 261 = .ok (.getfield 24, 3) := by decide +kernel
theorem dX0_ownReckoning_264 : decode cX0_ownReckoning 264 = .ok (.iconst 1, 1) := by decide +kernel
theorem dX0_ownReckoning_265 : decode cX0_ownReckoning 265 = .ok (.iadd, 1) := by decide +kernel
theorem dX0_ownReckoning_266 : decode cX0_ownReckoning 266 = .ok (.goto 4, 3) := by decide +kernel
theorem dX0_ownReckoning_269 : decode cX0_ownReckoning 269 = .ok (.iconst 0, 1) := by decide +kernel
theorem dX0_ownReckoning_270 : decode cX0_ownReckoning 270 = .ok (.aload_n 0, 1) := by decide +kernel
theorem dX0_ownReckoning_271 : decode cX0_ownReckoning 271 = .ok (.getfield 9, 3) := by decide +kernel
theorem dX0_ownReckoning_274 : decode cX0_ownReckoning 274 = .ok (.invokestatic 79, 3) := by decide +kernel
theorem dX0_ownReckoning_277 : decode cX0_ownReckoning 277 = .ok (.putfield 24, 3) := by decide +kernel
theorem dX0_ownReckoning_280 : decode cX0_ownReckoning 280 = .ok (.aload_n 0, 1) := by decide +kernel
theorem dX0_ownReckoning_281 : decode cX0_ownReckoning 281 = .ok (.getfield 24, 3) := by decide +kernel
theorem dX0_ownReckoning_284 : decode cX0_ownReckoning 284 = .ok (.ireturn, 1) := by decide +kernel
theorem dX0_ownReckoning_285 : decode cX0_ownReckoning 285 = .ok (.iconst 0, 1) := by decide +kernel
theorem dX0_ownReckoning_286 : decode cX0_ownReckoning 286 = .ok (.ireturn, 1) := by decide +kernel
theorem dX0_ramped_0 : decode cX0_ramped 0 = .ok (.aload_n 0, 1) := by decide +kernel
theorem dX0_ramped_1 : decode cX0_ramped 1 = .ok (.getfield 9, 3) := by decide +kernel
theorem dX0_ramped_4 : decode cX0_ramped 4 = .ok (.iconst 0, 1) := by decide +kernel
theorem dX0_ramped_5 : decode cX0_ramped 5 = .ok (.invokestatic 84, 3) := by decide +kernel
theorem dX0_ramped_8 : decode cX0_ramped 8 = .ok (.istore_n 2, 1) := by decide +kernel
theorem dX0_ramped_9 : decode cX0_ramped 9 = .ok (.iload_n 1, 1) := by decide +kernel
theorem dX0_ramped_10 : decode cX0_ramped 10 = .ok (.i2l, 1) := by decide +kernel
theorem dX0_ramped_11 : decode cX0_ramped 11 = .ok (.aload_n 0, 1) := by decide +kernel
theorem dX0_ramped_12 : decode cX0_ramped 12 = .ok (.getfield 21, 3) := by decide +kernel
theorem dX0_ramped_15 : decode cX0_ramped 15 = .ok (.i2l, 1) := by decide +kernel
theorem dX0_ramped_16 : decode cX0_ramped 16 = .ok (.lsub, 1) := by decide +kernel
theorem dX0_ramped_17 : decode cX0_ramped 17 = .ok (.lstore_n 3, 1) := by decide +kernel
theorem dX0_ramped_18 : decode cX0_ramped 18 = .ok (.lload_n 3, 1) := by decide +kernel
theorem dX0_ramped_19 : decode cX0_ramped 19 = .ok (.invokestatic 87, 3) := by decide +kernel
theorem dX0_ramped_22 : decode cX0_ramped 22 = .ok (.iload_n 2, 1) := by decide +kernel
theorem dX0_ramped_23 : decode cX0_ramped 23 = .ok (.i2l, 1) := by decide +kernel
theorem dX0_ramped_24 : decode cX0_ramped 24 = .ok (.lcmp, 1) := by decide +kernel
theorem dX0_ramped_25 : decode cX0_ramped 25 = .ok (.ifCond .gt 5, 3) := by decide +kernel
theorem dX0_ramped_28 : decode cX0_ramped 28 = .ok (.iload_n 1, 1) := by decide +kernel
theorem dX0_ramped_29 : decode cX0_ramped 29 = .ok (.ireturn, 1) := by decide +kernel
theorem dX0_ramped_30 : decode cX0_ramped 30 = .ok (.lload_n 3, 1) := by decide +kernel
theorem dX0_ramped_31 : decode cX0_ramped 31 = .ok (.lconst 0, 1) := by decide +kernel
theorem dX0_ramped_32 : decode cX0_ramped 32 = .ok (.lcmp, 1) := by decide +kernel
theorem dX0_ramped_33 : decode cX0_ramped 33 = .ok (.ifCond .le 12, 3) := by decide +kernel
theorem dX0_ramped_36 : decode cX0_ramped 36 = .ok (.aload_n 0, 1) := by decide +kernel
theorem dX0_ramped_37 : decode cX0_ramped 37 = .ok (.getfield 21, 3) := by decide +kernel
theorem dX0_ramped_40 : decode cX0_ramped 40 = .ok (.iload_n 2, 1) := by decide +kernel
theorem dX0_ramped_41 : decode cX0_ramped 41 = .ok (.iadd, 1) := by decide +kernel
theorem dX0_ramped_42 : decode cX0_ramped 42 = .ok (.goto 9, 3) := by decide +kernel
theorem dX0_ramped_45 : decode cX0_ramped 45 = .ok (.aload_n 0, 1) := by decide +kernel
theorem dX0_ramped_46 : decode cX0_ramped 46 = .ok (.getfield 21, 3) := by decide +kernel
theorem dX0_ramped_49 : decode cX0_ramped 49 = .ok (.iload_n 2, 1) := by decide +kernel
theorem dX0_ramped_50 : decode cX0_ramped 50 = .ok (.isub, 1) := by decide +kernel
theorem dX0_ramped_51 : decode cX0_ramped 51 = .ok (.ireturn, 1) := by decide +kernel
theorem dX0_counted_0 : decode cX0_counted 0 = .ok (.iload_n 2, 1) := by decide +kernel
theorem dX0_counted_1 : decode cX0_counted 1 = .ok (.ifCond .eq 11, 3) := by decide +kernel
theorem dX0_counted_4 : decode cX0_counted 4 = .ok (.aload_n 0, 1) := by decide +kernel
theorem dX0_counted_5 : decode cX0_counted 5 = .ok (.iconst 0, 1) := by decide +kernel
theorem dX0_counted_6 : decode cX0_counted 6 = .ok (.putfield 24, 3) := by decide +kernel
theorem dX0_counted_9 : decode cX0_counted 9 = .ok (.goto 24, 3) := by decide +kernel
theorem dX0_counted_12 : decode cX0_counted 12 = .ok (.iload_n 1, 1) := by decide +kernel
theorem dX0_counted_13 : decode cX0_counted 13 = .ok (.ifCond .eq 20, 3) := by decide +kernel
theorem dX0_counted_16 : decode cX0_counted 16 = .ok (.aload_n 0, 1) := by decide +kernel
theorem dX0_counted_17 : decode cX0_counted 17 = .ok (.getfield 27, 3) := by decide +kernel
theorem dX0_counted_20 : decode cX0_counted 20 = .ok (.ifCond .ne 13, 3) := by decide +kernel
theorem dX0_counted_23 : decode cX0_counted 23 = .ok (.aload_n 0, 1) := by decide +kernel
theorem dX0_counted_24 : decode cX0_counted 24 = .ok (.dup, 1) := by decide +kernel
theorem dX0_counted_25 : decode cX0_counted 25 = .ok (.getfield 24, 3) := by decide +kernel
theorem dX0_counted_28 : decode cX0_counted 28 = .ok (.iconst 1, 1) := by decide +kernel
theorem dX0_counted_29 : decode cX0_counted 29 = .ok (.iadd, 1) := by decide +kernel
theorem dX0_counted_30 : decode cX0_counted 30 = .ok (.putfield 24, 3) := by decide +kernel
theorem dX0_counted_33 : decode cX0_counted 33 = .ok (.aload_n 0, 1) := by decide +kernel
theorem dX0_counted_34 : decode cX0_counted 34 = .ok (.iload_n 1, 1) := by decide +kernel
theorem dX0_counted_35 : decode cX0_counted 35 = .ok (.putfield 27, 3) := by decide +kernel
theorem dX0_counted_38 : decode cX0_counted 38 = .ok (.aload_n 0, 1) := by decide +kernel
theorem dX0_counted_39 : decode cX0_counted 39 = .ok (.getfield 24, 3) := by decide +kernel
theorem dX0_counted_42 : decode cX0_counted 42 = .ok (.ireturn, 1) := by decide +kernel
theorem dX0_latched_0 : decode cX0_latched 0 = .ok (.iload_n 1, 1) := by decide +kernel
theorem dX0_latched_1 : decode cX0_latched 1 = .ok (.ifCond .eq 11, 3) := by decide +kernel
theorem dX0_latched_4 : decode cX0_latched 4 = .ok (.aload_n 0, 1) := by decide +kernel
theorem dX0_latched_5 : decode cX0_latched 5 = .ok (.iconst 1, 1) := by decide +kernel
theorem dX0_latched_6 : decode cX0_latched 6 = .ok (.putfield 24, 3) := by decide +kernel
theorem dX0_latched_9 : decode cX0_latched 9 = .ok (.goto 12, 3) := by decide +kernel
theorem dX0_latched_12 : decode cX0_latched 12 = .ok (.iload_n 2, 1) := by decide +kernel
theorem dX0_latched_13 : decode cX0_latched 13 = .ok (.ifCond .eq 8, 3) := by decide +kernel
theorem dX0_latched_16 : decode cX0_latched 16 = .ok (.aload_n 0, 1) := by decide +kernel
theorem dX0_latched_17 : decode cX0_latched 17 = .ok (.iconst 0, 1) := by decide +kernel
theorem dX0_latched_18 : decode cX0_latched 18 = .ok (.putfield 24, 3) := by decide +kernel
theorem dX0_latched_21 : decode cX0_latched 21 = .ok (.aload_n 0, 1) := by decide +kernel
theorem dX0_latched_22 : decode cX0_latched 22 = .ok (.getfield 24, 3) := by decide +kernel
theorem dX0_latched_25 : decode cX0_latched 25 = .ok (.ireturn, 1) := by decide +kernel
theorem dX0_isClockOn_0 : decode cX0_isClockOn 0 = .ok (.aload_n 0, 1) := by decide +kernel
theorem dX0_isClockOn_1 : decode cX0_isClockOn 1 = .ok (.getfield 9, 3) := by decide +kernel
theorem dX0_isClockOn_4 : decode cX0_isClockOn 4 = .ok (.aload_n 0, 1) := by decide +kernel
theorem dX0_isClockOn_5 : decode cX0_isClockOn 5 = .ok (.getfield 15, 3) := by decide +kernel
theorem dX0_isClockOn_8 : decode cX0_isClockOn 8 = .ok (.if_icmp .le 27, 3) := by decide +kernel
theorem dX0_isClockOn_11 : decode cX0_isClockOn 11 = .ok (.iload_n 1, 1) := by decide +kernel
theorem dX0_isClockOn_12 : decode cX0_isClockOn 12 = .ok (.aload_n 0, 1) := by decide +kernel
theorem dX0_isClockOn_13 : decode cX0_isClockOn 13 = .ok (.getfield 9, 3) := by decide +kernel
theorem dX0_isClockOn_16 : decode cX0_isClockOn 16 = .ok (.if_icmp .ge 11, 3) := by decide +kernel
theorem dX0_isClockOn_19 : decode cX0_isClockOn 19 = .ok (.iload_n 1, 1) := by decide +kernel
theorem dX0_isClockOn_20 : decode cX0_isClockOn 20 = .ok (.aload_n 0, 1) := by decide +kernel
theorem dX0_isClockOn_21 : decode cX0_isClockOn 21 = .ok (.getfield 15, 3) := by decide +kernel
theorem dX0_isClockOn_24 : decode cX0_isClockOn 24 = .ok (.if_icmp .ge 7, 3) := by decide +kernel
theorem dX0_isClockOn_27 : decode cX0_isClockOn 27 = .ok (.iconst 1, 1) := by decide +kernel
theorem dX0_isClockOn_28 : decode cX0_isClockOn 28 = .ok (.goto 28, 3) := by decide +kernel
theorem dX0_isClockOn_31 : decode cX0_isClockOn 31 = .ok (.iconst 0, 1) := by decide +kernel
theorem dX0_isClockOn_32 : decode cX0_isClockOn 32 = .ok (.goto 24, 3) := by decide +kernel
theorem dX0_isClockOn_35 : decode cX0_isClockOn 35 = .ok (.iload_n 1, 1) := by decide +kernel
theorem dX0_isClockOn_36 : decode cX0_isClockOn 36 = .ok (.aload_n 0, 1) := by decide +kernel
theorem dX0_isClockOn_37 : decode cX0_isClockOn 37 = .ok (.getfield 9, 3) := by decide +kernel
theorem dX0_isClockOn_40 : decode cX0_isClockOn 40 = .ok (.if_icmp .lt 15, 3) := by decide +kernel
theorem dX0_isClockOn_43 : decode cX0_isClockOn 43 = .ok (.iload_n 1, 1) := by decide +kernel
theorem dX0_isClockOn_44 : decode cX0_isClockOn 44 = .ok (.aload_n 0, 1) := by decide +kernel
theorem dX0_isClockOn_45 : decode cX0_isClockOn 45 = .ok (.getfield 15, 3) := by decide +kernel
theorem dX0_isClockOn_48 : decode cX0_isClockOn 48 = .ok (.if_icmp .ge 7, 3) := by decide +kernel
theorem dX0_isClockOn_51 : decode cX0_isClockOn 51 = .ok (.iconst 1, 1) := by decide +kernel
theorem dX0_isClockOn_52 : decode cX0_isClockOn 52 = .ok (.goto 4, 3) := by decide +kernel
theorem dX0_isClockOn_55 : decode cX0_isClockOn 55 = .ok (.iconst 0, 1) := by decide +kernel
theorem dX0_isClockOn_56 : decode cX0_isClockOn 56 = .ok (.ireturn, 1) := by decide +kernel
theorem dX0_pulsed_0 : decode cX0_pulsed 0 = .ok (.iload_n 1, 1) := by decide +kernel
theorem dX0_pulsed_1 : decode cX0_pulsed 1 = .ok (.ifCond .eq 18, 3) := by decide +kernel
theorem dX0_pulsed_4 : decode cX0_pulsed 4 = .ok (.aload_n 0, 1) := by decide +kernel
theorem dX0_pulsed_5 : decode cX0_pulsed 5 = .ok (.getfield 27, 3) := by decide +kernel
theorem dX0_pulsed_8 : decode cX0_pulsed 8 = .ok (.ifCond .ne 11, 3) := by decide +kernel
theorem dX0_pulsed_11 : decode cX0_pulsed 11 = .ok (.aload_n 0, 1) := by decide +kernel
theorem dX0_pulsed_12 : decode cX0_pulsed 12 = .ok (.aload_n 0, 1) := by decide +kernel
theorem dX0_pulsed_13 : decode cX0_pulsed 13 = .ok (.getfield 9, 3) := by decide +kernel
theorem dX0_pulsed_16 : decode cX0_pulsed 16 = .ok (.putfield 24, 3) := by decide +kernel
theorem dX0_pulsed_19 : decode cX0_pulsed 19 = .ok (.aload_n 0, 1) := by decide +kernel
theorem dX0_pulsed_20 : decode cX0_pulsed 20 = .ok (.iload_n 1, 1) := by decide +kernel
theorem dX0_pulsed_21 : decode cX0_pulsed 21 = .ok (.putfield 27, 3) := by decide +kernel
theorem dX0_pulsed_24 : decode cX0_pulsed 24 = .ok (.aload_n 0, 1) := by decide +kernel
theorem dX0_pulsed_25 : decode cX0_pulsed 25 = .ok (.getfield 24, 3) := by decide +kernel
theorem dX0_pulsed_28 : decode cX0_pulsed 28 = .ok (.ifCond .gt 5, 3) := by decide +kernel
theorem dX0_pulsed_31 : decode cX0_pulsed 31 = .ok (.iconst 0, 1) := by decide +kernel
theorem dX0_pulsed_32 : decode cX0_pulsed 32 = .ok (.ireturn, 1) := by decide +kernel
theorem dX0_pulsed_33 : decode cX0_pulsed 33 = .ok (.aload_n 0, 1) := by decide +kernel
theorem dX0_pulsed_34 : decode cX0_pulsed 34 = .ok (.dup, 1) := by decide +kernel
theorem dX0_pulsed_35 : decode cX0_pulsed 35 = .ok (.getfield 24, 3) := by decide +kernel
theorem dX0_pulsed_38 : decode cX0_pulsed 38 = .ok (.iconst 1, 1) := by decide +kernel
theorem dX0_pulsed_39 : decode cX0_pulsed 39 = .ok (.isub, 1) := by decide +kernel
theorem dX0_pulsed_40 : decode cX0_pulsed 40 = .ok (.putfield 24, 3) := by decide +kernel
theorem dX0_pulsed_43 : decode cX0_pulsed 43 = .ok (.iconst 1, 1) := by decide +kernel
theorem dX0_pulsed_44 : decode cX0_pulsed 44 = .ok (.ireturn, 1) := by decide +kernel
theorem dX1_init_0 : decode cX1_init 0 = .ok (.aload_n 0, 1) := by decide +kernel
theorem dX1_init_1 : decode cX1_init 1 = .ok (.invokespecial 3, 3) := by decide +kernel
theorem dX1_init_4 : decode cX1_init 4 = .ok (.aload_n 0, 1) := by decide +kernel
theorem dX1_init_5 : decode cX1_init 5 = .ok (.iconst 4, 1) := by decide +kernel
theorem dX1_init_6 : decode cX1_init 6 = .ok (.newarray .int, 2) := by decide +kernel
theorem dX1_init_8 : decode cX1_init 8 = .ok (.putfield 9, 3) := by decide +kernel
theorem dX1_init_11 : decode cX1_init 11 = .ok (.aload_n 0, 1) := by decide +kernel
theorem dX1_init_12 : decode cX1_init 12 = .ok (.bipush 32, 2) := by decide +kernel
theorem dX1_init_14 : decode cX1_init 14 = .ok (.newarray .int, 2) := by decide +kernel
theorem dX1_init_16 : decode cX1_init 16 = .ok (.putfield 15, 3) := by decide +kernel
theorem dX1_init_19 : decode cX1_init 19 = .ok (.aload_n 0, 1) := by decide +kernel
theorem dX1_init_20 : decode cX1_init 20 = .ok (.bipush 32, 2) := by decide +kernel
theorem dX1_init_22 : decode cX1_init 22 = .ok (.newarray .int, 2) := by decide +kernel
theorem dX1_init_24 : decode cX1_init 24 = .ok (.putfield 18, 3) := by decide +kernel
theorem dX1_init_27 : decode cX1_init 27 = .ok (.aload_n 0, 1) := by decide +kernel
theorem dX1_init_28 : decode cX1_init 28 = .ok (.bipush 32, 2) := by decide +kernel
theorem dX1_init_30 : decode cX1_init 30 = .ok (.newarray .int, 2) := by decide +kernel
theorem dX1_init_32 : decode cX1_init 32 = .ok (.putfield 21, 3) := by decide +kernel
theorem dX1_init_35 : decode cX1_init 35 = .ok (.aload_n 0, 1) := by decide +kernel
theorem dX1_init_36 : decode cX1_init 36 = .ok (.iconst 0, 1) := by decide +kernel
theorem dX1_init_37 : decode cX1_init 37 = .ok (.putfield 24, 3) := by decide +kernel
theorem dX1_init_40 : decode cX1_init 40 = .ok (.return_, 1) := by decide +kernel
theorem dX1_note_0 : decode cX1_note 0 = .ok (.aload_n 0, 1) := by decide +kernel
theorem dX1_note_1 : decode cX1_note 1 = .ok (.getfield 15, 3) := by decide +kernel
theorem dX1_note_4 : decode cX1_note 4 = .ok (.aload_n 0, 1) := by decide +kernel
theorem dX1_note_5 : decode cX1_note 5 = .ok (.getfield 24, 3) := by decide +kernel
theorem dX1_note_8 : decode cX1_note 8 = .ok (.iload_n 1, 1) := by decide +kernel
theorem dX1_note_9 : decode cX1_note 9 = .ok (.iastore, 1) := by decide +kernel
theorem dX1_note_10 : decode cX1_note 10 = .ok (.aload_n 0, 1) := by decide +kernel
theorem dX1_note_11 : decode cX1_note 11 = .ok (.getfield 18, 3) := by decide +kernel
theorem dX1_note_14 : decode cX1_note 14 = .ok (.aload_n 0, 1) := by decide +kernel
theorem dX1_note_15 : decode cX1_note 15 = .ok (.getfield 24, 3) := by decide +kernel
theorem dX1_note_18 : decode cX1_note 18 = .ok (.iload_n 2, 1) := by decide +kernel
theorem dX1_note_19 : decode cX1_note 19 = .ok (.iastore, 1) := by decide +kernel
theorem dX1_note_20 : decode cX1_note 20 = .ok (.aload_n 0, 1) := by decide +kernel
theorem dX1_note_21 : decode cX1_note 21 = .ok (.getfield 21, 3) := by decide +kernel
theorem dX1_note_24 : decode cX1_note 24 = .ok (.aload_n 0, 1) := by decide +kernel
theorem dX1_note_25 : decode cX1_note 25 = .ok (.getfield 24, 3) := by decide +kernel
theorem dX1_note_28 : decode cX1_note 28 = .ok (.iload_n 3, 1) := by decide +kernel
theorem dX1_note_29 : decode cX1_note 29 = .ok (.iastore, 1) := by decide +kernel
theorem dX1_note_30 : decode cX1_note 30 = .ok (.aload_n 0, 1) := by decide +kernel
theorem dX1_note_31 : decode cX1_note 31 = .ok (.aload_n 0, 1) := by decide +kernel
theorem dX1_note_32 : decode cX1_note 32 = .ok (.getfield 24, 3) := by decide +kernel
theorem dX1_note_35 : decode cX1_note 35 = .ok (.iconst 1, 1) := by decide +kernel
theorem dX1_note_36 : decode cX1_note 36 = .ok (.iadd, 1) := by decide +kernel
theorem dX1_note_37 : decode cX1_note 37 = .ok (.bipush 32, 2) := by decide +kernel
theorem dX1_note_39 : decode cX1_note 39 = .ok (.irem, 1) := by decide +kernel
theorem dX1_note_40 : decode cX1_note 40 = .ok (.putfield 24, 3) := by decide +kernel
theorem dX1_note_43 : decode cX1_note 43 = .ok (.aload_n 0, 1) := by decide +kernel
theorem dX1_note_44 : decode cX1_note 44 = .ok (.getfield 9, 3) := by decide +kernel
theorem dX1_note_47 : decode cX1_note 47 = .ok (.iconst 0, 1) := by decide +kernel
theorem dX1_note_48 : decode cX1_note 48 = .ok (.dup2, 1) := by decide +kernel
theorem dX1_note_49 : decode cX1_note 49 = .ok (.iaload, 1) := by decide +kernel
theorem dX1_note_50 : decode cX1_note 50 = .ok (.iconst 1, 1) := by decide +kernel
theorem dX1_note_51 : decode cX1_note 51 = .ok (.iadd, 1) := by decide +kernel
theorem dX1_note_52 : decode cX1_note 52 = .ok (.iastore, 1) := by decide +kernel
theorem dX1_note_53 : decode cX1_note 53 = .ok (.aload_n 0, 1) := by decide +kernel
theorem dX1_note_54 : decode cX1_note 54 = .ok (.getfield 9, 3) := by decide +kernel
theorem dX1_note_57 : decode cX1_note 57 = .ok (.iload_n 3, 1) := by decide +kernel
theorem dX1_note_58 : decode cX1_note 58 = .ok (.dup2, 1) := by decide +kernel
theorem dX1_note_59 : decode cX1_note 59 = .ok (.iaload, 1) := by decide +kernel
theorem dX1_note_60 : decode cX1_note 60 = .ok (.iconst 1, 1) := by decide +kernel
theorem dX1_note_61 : decode cX1_note 61 = .ok (.iadd, 1) := by decide +kernel
theorem dX1_note_62 : decode cX1_note 62 = .ok (.iastore, 1) := by decide +kernel
theorem dX1_note_63 : decode cX1_note 63 = .ok (.return_, 1) := by decide +kernel
theorem dX1_keptCount_0 : decode cX1_keptCount 0 = .ok (.aload_n 0, 1) := by decide +kernel
theorem dX1_keptCount_1 : decode cX1_keptCount 1 = .ok (.getfield 9, 3) := by decide +kernel
theorem dX1_keptCount_4 : decode cX1_keptCount 4 = .ok (.iconst 0, 1) := by decide +kernel
theorem dX1_keptCount_5 : decode cX1_keptCount 5 = .ok (.iaload, 1) := by decide +kernel
theorem dX1_keptCount_6 : decode cX1_keptCount 6 = .ok (.bipush 32, 2) := by decide +kernel
theorem dX1_keptCount_8 : decode cX1_keptCount 8 = .ok (.invokestatic 28, 3) := by decide +kernel
theorem dX1_keptCount_11 : decode cX1_keptCount 11 = .ok (.ireturn, 1) := by decide +kernel
set_option maxRecDepth 20000 in
theorem ggX1_fact_J9_floorMod_7cf53 : GoodIn wsX1_fact wsJ9_floorMod_7cf53 := goodIn_r _ [8] (by decide +kernel) (by decide +kernel)
set_option maxRecDepth 20000 in
theorem gX1_fact_J9_floorMod_7cf53 : GoodIn wsX1_fact (va_wsS RX1 34 yJ9_floorMod_7cf53 wsJ9_floorMod_7cf53) := goodIn_app (goodIn_of _ (by decide +kernel)) ggX1_fact_J9_floorMod_7cf53
theorem dX1_fact_0 : decode cX1_fact 0 = .ok (.aload_n 0, 1) := by decide +kernel
theorem dX1_fact_1 : decode cX1_fact 1 = .ok (.getfield 24, 3) := by decide +kernel
theorem dX1_fact_4 : decode cX1_fact 4 = .ok (.iconst 1, 1) := by decide +kernel
theorem dX1_fact_5 : decode cX1_fact 5 = .ok (.isub, 1) := by decide +kernel
theorem dX1_fact_6 : decode cX1_fact 6 = .ok (.iload_n 1, 1) := by decide +kernel
theorem dX1_fact_7 : decode cX1_fact 7 = .ok (.isub, 1) := by decide +kernel
theorem dX1_fact_8 : decode cX1_fact 8 = .ok (.bipush 32, 2) := by decide +kernel
theorem dX1_fact_10 : decode cX1_fact 10 = .ok (.invokestatic 34, 3) := by decide +kernel
theorem dX1_fact_13 : decode cX1_fact 13 = .ok (.istore_n 3, 1) := by decide +kernel
theorem dX1_fact_14 : decode cX1_fact 14 = .ok (.iload_n 2, 1) := by decide +kernel
theorem dX1_fact_15 : decode cX1_fact 15 = .ok (.ifCond .ne 12, 3) := by decide +kernel
theorem dX1_fact_18 : decode cX1_fact 18 = .ok (.aload_n 0, 1) := by decide +kernel
theorem dX1_fact_19 : decode cX1_fact 19 = .ok (.getfield 15, 3) := by decide +kernel
theorem dX1_fact_22 : decode cX1_fact 22 = .ok (.iload_n 3, 1) := by decide +kernel
theorem dX1_fact_23 : decode cX1_fact 23 = .ok (.iaload, 1) := by decide +kernel
theorem dX1_fact_24 : decode cX1_fact 24 = .ok (.goto 23, 3) := by decide +kernel
theorem dX1_fact_27 : decode cX1_fact 27 = .ok (.iload_n 2, 1) := by decide +kernel
theorem dX1_fact_28 : decode cX1_fact 28 = .ok (.iconst 1, 1) := by decide +kernel
theorem dX1_fact_29 : decode cX1_fact 29 = .ok (.if_icmp .ne 12, 3) := by decide +kernel
theorem dX1_fact_32 : decode cX1_fact 32 = .ok (.aload_n 0, 1) := by decide +kernel
theorem dX1_fact_33 : decode cX1_fact 33 = .ok (.getfield 18, 3) := by decide +kernel
theorem dX1_fact_36 : decode cX1_fact 36 = .ok (.iload_n 3, 1) := by decide +kernel
theorem dX1_fact_37 : decode cX1_fact 37 = .ok (.iaload, 1) := by decide +kernel
theorem dX1_fact_38 : decode cX1_fact 38 = .ok (.goto 9, 3) := by decide +kernel
theorem dX1_fact_41 : decode cX1_fact 41 = .ok (.aload_n 0, 1) := by decide +kernel
theorem dX1_fact_42 : decode cX1_fact 42 = .ok (.getfield 21, 3) := by decide +kernel
theorem dX1_fact_45 : decode cX1_fact 45 = .ok (.iload_n 3, 1) := by decide +kernel
theorem dX1_fact_46 : decode cX1_fact 46 = .ok (.iaload, 1) := by decide +kernel
theorem dX1_fact_47 : decode cX1_fact 47 = .ok (.ireturn, 1) := by decide +kernel
theorem dX2_init_0 : decode cX2_init 0 = .ok (.aload_n 0, 1) := by decide +kernel
theorem dX2_init_1 : decode cX2_init 1 = .ok (.invokespecial 3, 3) := by decide +kernel
theorem dX2_init_4 : decode cX2_init 4 = .ok (.aload_n 0, 1) := by decide +kernel
theorem dX2_init_5 : decode cX2_init 5 = .ok (.iconst 0, 1) := by decide +kernel
theorem dX2_init_6 : decode cX2_init 6 = .ok (.putfield 9, 3) := by decide +kernel
theorem dX2_init_9 : decode cX2_init 9 = .ok (.aload_n 0, 1) := by decide +kernel
theorem dX2_init_10 : decode cX2_init 10 = .ok (.bipush 40, 2) := by decide +kernel
theorem dX2_init_12 : decode cX2_init 12 = .ok (.newarray .int, 2) := by decide +kernel
theorem dX2_init_14 : decode cX2_init 14 = .ok (.putfield 15, 3) := by decide +kernel
theorem dX2_init_17 : decode cX2_init 17 = .ok (.aload_n 0, 1) := by decide +kernel
theorem dX2_init_18 : decode cX2_init 18 = .ok (.bipush 40, 2) := by decide +kernel
theorem dX2_init_20 : decode cX2_init 20 = .ok (.newarray .int, 2) := by decide +kernel
theorem dX2_init_22 : decode cX2_init 22 = .ok (.putfield 19, 3) := by decide +kernel
theorem dX2_init_25 : decode cX2_init 25 = .ok (.aload_n 0, 1) := by decide +kernel
theorem dX2_init_26 : decode cX2_init 26 = .ok (.bipush 40, 2) := by decide +kernel
theorem dX2_init_28 : decode cX2_init 28 = .ok (.newarray .int, 2) := by decide +kernel
theorem dX2_init_30 : decode cX2_init 30 = .ok (.putfield 22, 3) := by decide +kernel
theorem dX2_init_33 : decode cX2_init 33 = .ok (.aload_n 0, 1) := by decide +kernel
theorem dX2_init_34 : decode cX2_init 34 = .ok (.bipush 40, 2) := by decide +kernel
theorem dX2_init_36 : decode cX2_init 36 = .ok (.newarray .int, 2) := by decide +kernel
theorem dX2_init_38 : decode cX2_init 38 = .ok (.putfield 25, 3) := by decide +kernel
theorem dX2_init_41 : decode cX2_init 41 = .ok (.return_, 1) := by decide +kernel
theorem dX2_keep_0 : decode cX2_keep 0 = .ok (.aload_n 0, 1) := by decide +kernel
theorem dX2_keep_1 : decode cX2_keep 1 = .ok (.getfield 9, 3) := by decide +kernel
theorem dX2_keep_4 : decode cX2_keep 4 = .ok (.bipush 40, 2) := by decide +kernel
theorem dX2_keep_6 : decode cX2_keep 6 = .ok (.if_icmp .lt 4, 3) := by decide +kernel
theorem dX2_keep_9 : decode cX2_keep 9 = .ok (.return_, 1) := by decide +kernel
theorem dX2_keep_10 : decode cX2_keep 10 = .ok (.aload_n 0, 1) := by decide +kernel
theorem dX2_keep_11 : decode cX2_keep 11 = .ok (.getfield 15, 3) := by decide +kernel
theorem dX2_keep_14 : decode cX2_keep 14 = .ok (.aload_n 0, 1) := by decide +kernel
theorem dX2_keep_15 : decode cX2_keep 15 = .ok (.getfield 9, 3) := by decide +kernel
theorem dX2_keep_18 : decode cX2_keep 18 = .ok (.aload_n 1, 1) := by decide +kernel
theorem dX2_keep_19 : decode cX2_keep 19 = .ok (.getfield 28, 3) := by decide +kernel
theorem dX2_keep_22 : decode cX2_keep 22 = .ok (.iastore, 1) := by decide +kernel
theorem dX2_keep_23 : decode cX2_keep 23 = .ok (.aload_n 0, 1) := by decide +kernel
theorem dX2_keep_24 : decode cX2_keep 24 = .ok (.getfield 19, 3) := by decide +kernel
theorem dX2_keep_27 : decode cX2_keep 27 = .ok (.aload_n 0, 1) := by decide +kernel
theorem dX2_keep_28 : decode cX2_keep 28 = .ok (.getfield 9, 3) := by decide +kernel
theorem dX2_keep_31 : decode cX2_keep 31 = .ok (.aload_n 1, 1) := by decide +kernel
theorem dX2_keep_32 : decode cX2_keep 32 = .ok (.getfield 33, 3) := by decide +kernel
theorem dX2_keep_35 : decode cX2_keep 35 = .ok (.iastore, 1) := by decide +kernel
theorem dX2_keep_36 : decode cX2_keep 36 = .ok (.aload_n 0, 1) := by decide +kernel
theorem dX2_keep_37 : decode cX2_keep 37 = .ok (.getfield 22, 3) := by decide +kernel
theorem dX2_keep_40 : decode cX2_keep 40 = .ok (.aload_n 0, 1) := by decide +kernel
theorem dX2_keep_41 : decode cX2_keep 41 = .ok (.getfield 9, 3) := by decide +kernel
theorem dX2_keep_44 : decode cX2_keep 44 = .ok (.aload_n 1, 1) := by decide +kernel
theorem dX2_keep_45 : decode cX2_keep 45 = .ok (.getfield 36, 3) := by decide +kernel
theorem dX2_keep_48 : decode cX2_keep 48 = .ok (.iastore, 1) := by decide +kernel
theorem dX2_keep_49 : decode cX2_keep 49 = .ok (.aload_n 0, 1) := by decide +kernel
theorem dX2_keep_50 : decode cX2_keep 50 = .ok (.getfield 25, 3) := by decide +kernel
theorem dX2_keep_53 : decode cX2_keep 53 = .ok (.aload_n 0, 1) := by decide +kernel
theorem dX2_keep_54 : decode cX2_keep 54 = .ok (.getfield 9, 3) := by decide +kernel
theorem dX2_keep_57 : decode cX2_keep 57 = .ok (.aload_n 1, 1) := by decide +kernel
theorem dX2_keep_58 : decode cX2_keep 58 = .ok (.getfield 39, 3) := by decide +kernel
theorem dX2_keep_61 : decode cX2_keep 61 = .ok (.iastore, 1) := by decide +kernel
theorem dX2_keep_62 : decode cX2_keep 62 = .ok (.aload_n 0, 1) := by decide +kernel
theorem dX2_keep_63 : decode cX2_keep 63 = .ok (.dup, 1) := by decide +kernel
theorem dX2_keep_64 : decode cX2_keep 64 = .ok (.getfield 9, 3) := by decide +kernel
theorem dX2_keep_67 : decode cX2_keep 67 = .ok (.iconst 1, 1) := by decide +kernel
theorem dX2_keep_68 : decode cX2_keep 68 = .ok (.iadd, 1) := by decide +kernel
theorem dX2_keep_69 : decode cX2_keep 69 = .ok (.putfield 9, 3) := by decide +kernel
theorem dX2_keep_72 : decode cX2_keep 72 = .ok (.return_, 1) := by decide +kernel
theorem dX2_restore_0 : decode cX2_restore 0 = .ok (.iload_n 1, 1) := by decide +kernel
theorem dX2_restore_1 : decode cX2_restore 1 = .ok (.ifCond .lt 24, 3) := by decide +kernel
theorem dX2_restore_4 : decode cX2_restore 4 = .ok (.iload_n 1, 1) := by decide +kernel
theorem dX2_restore_5 : decode cX2_restore 5 = .ok (.aload_n 0, 1) := by decide +kernel
theorem dX2_restore_6 : decode cX2_restore 6 = .ok (.getfield 9, 3) := by decide +kernel
theorem dX2_restore_9 : decode cX2_restore 9 = .ok (.if_icmp .ge 16, 3) := by decide +kernel
theorem dX2_restore_12 : decode cX2_restore 12 = .ok (.aload_n 0, 1) := by decide +kernel
theorem dX2_restore_13 : decode cX2_restore 13 = .ok (.getfield 15, 3) := by decide +kernel
theorem dX2_restore_16 : decode cX2_restore 16 = .ok (.iload_n 1, 1) := by decide +kernel
theorem dX2_restore_17 : decode cX2_restore 17 = .ok (.iaload, 1) := by decide +kernel
theorem dX2_restore_18 : decode cX2_restore 18 = .ok (.aload_n 2, 1) := by decide +kernel
theorem dX2_restore_19 : decode cX2_restore 19 = .ok (.getfield 28, 3) := by decide +kernel
theorem dX2_restore_22 : decode cX2_restore 22 = .ok (.if_icmp .eq 5, 3) := by decide +kernel
theorem dX2_restore_25 : decode cX2_restore 25 = .ok (.iconst 0, 1) := by decide +kernel
theorem dX2_restore_26 : decode cX2_restore 26 = .ok (.ireturn, 1) := by decide +kernel
theorem dX2_restore_27 : decode cX2_restore 27 = .ok (.aload_n 2, 1) := by decide +kernel
theorem dX2_restore_28 : decode cX2_restore 28 = .ok (.aload_n 0, 1) := by decide +kernel
theorem dX2_restore_29 : decode cX2_restore 29 = .ok (.getfield 19, 3) := by decide +kernel
theorem dX2_restore_32 : decode cX2_restore 32 = .ok (.iload_n 1, 1) := by decide +kernel
theorem dX2_restore_33 : decode cX2_restore 33 = .ok (.iaload, 1) := by decide +kernel
theorem dX2_restore_34 : decode cX2_restore 34 = .ok (.putfield 33, 3) := by decide +kernel
theorem dX2_restore_37 : decode cX2_restore 37 = .ok (.aload_n 2, 1) := by decide +kernel
theorem dX2_restore_38 : decode cX2_restore 38 = .ok (.aload_n 0, 1) := by decide +kernel
theorem dX2_restore_39 : decode cX2_restore 39 = .ok (.getfield 22, 3) := by decide +kernel
theorem dX2_restore_42 : decode cX2_restore 42 = .ok (.iload_n 1, 1) := by decide +kernel
theorem dX2_restore_43 : decode cX2_restore 43 = .ok (.iaload, 1) := by decide +kernel
theorem dX2_restore_44 : decode cX2_restore 44 = .ok (.putfield 36, 3) := by decide +kernel
theorem dX2_restore_47 : decode cX2_restore 47 = .ok (.aload_n 2, 1) := by decide +kernel
theorem dX2_restore_48 : decode cX2_restore 48 = .ok (.aload_n 0, 1) := by decide +kernel
theorem dX2_restore_49 : decode cX2_restore 49 = .ok (.getfield 25, 3) := by decide +kernel
theorem dX2_restore_52 : decode cX2_restore 52 = .ok (.iload_n 1, 1) := by decide +kernel
theorem dX2_restore_53 : decode cX2_restore 53 = .ok (.iaload, 1) := by decide +kernel
theorem dX2_restore_54 : decode cX2_restore 54 = .ok (.putfield 39, 3) := by decide +kernel
theorem dX2_restore_57 : decode cX2_restore 57 = .ok (.iconst 1, 1) := by decide +kernel
theorem dX2_restore_58 : decode cX2_restore 58 = .ok (.ireturn, 1) := by decide +kernel
set_option maxRecDepth 20000 in
theorem ggX3_init_X1_init : GoodIn wsX3_init wsX1_init := goodIn_r _ [21, 22, 2, 3, 7, 23, 24, 25, 26, 27, 37, 38, 39, 40, 41] (by decide +kernel) (by decide +kernel)
set_option maxRecDepth 20000 in
theorem gX3_init_X1_init_n35 : GoodIn wsX3_init (wsX1_init) := ggX3_init_X1_init
theorem dX3_init_0 : decode cX3_init 0 = .ok (.aload_n 0, 1) := by decide +kernel
theorem dX3_init_1 : decode cX3_init 1 = .ok (.invokespecial 1, 3) := by decide +kernel
theorem dX3_init_4 : decode cX3_init 4 = .ok (.aload_n 0, 1) := by decide +kernel
theorem dX3_init_5 : decode cX3_init 5 = .ok (.bipush 40, 2) := by decide +kernel
theorem dX3_init_7 : decode cX3_init 7 = .ok (.anewarray 9, 3) := by decide +kernel
theorem dX3_init_10 : decode cX3_init 10 = .ok (.putfield 11, 3) := by decide +kernel
theorem dX3_init_13 : decode cX3_init 13 = .ok (.aload_n 0, 1) := by decide +kernel
theorem dX3_init_14 : decode cX3_init 14 = .ok (.iconst 0, 1) := by decide +kernel
theorem dX3_init_15 : decode cX3_init 15 = .ok (.putfield 15, 3) := by decide +kernel
theorem dX3_init_18 : decode cX3_init 18 = .ok (.aload_n 0, 1) := by decide +kernel
theorem dX3_init_19 : decode cX3_init 19 = .ok (.bipush 10, 2) := by decide +kernel
theorem dX3_init_21 : decode cX3_init 21 = .ok (.newarray .int, 2) := by decide +kernel
theorem dX3_init_23 : decode cX3_init 23 = .ok (.putfield 19, 3) := by decide +kernel
theorem dX3_init_26 : decode cX3_init 26 = .ok (.aload_n 0, 1) := by decide +kernel
theorem dX3_init_27 : decode cX3_init 27 = .ok (.iconst 0, 1) := by decide +kernel
theorem dX3_init_28 : decode cX3_init 28 = .ok (.putfield 23, 3) := by decide +kernel
theorem dX3_init_31 : decode cX3_init 31 = .ok (.aload_n 0, 1) := by decide +kernel
theorem dX3_init_32 : decode cX3_init 32 = .ok (.bipush 40, 2) := by decide +kernel
theorem dX3_init_34 : decode cX3_init 34 = .ok (.newarray .int, 2) := by decide +kernel
theorem dX3_init_36 : decode cX3_init 36 = .ok (.putfield 26, 3) := by decide +kernel
theorem dX3_init_39 : decode cX3_init 39 = .ok (.aload_n 0, 1) := by decide +kernel
theorem dX3_init_40 : decode cX3_init 40 = .ok (.bipush 40, 2) := by decide +kernel
theorem dX3_init_42 : decode cX3_init 42 = .ok (.newarray .boolean, 2) := by decide +kernel
theorem dX3_init_44 : decode cX3_init 44 = .ok (.putfield 29, 3) := by decide +kernel
theorem dX3_init_47 : decode cX3_init 47 = .ok (.aload_n 0, 1) := by decide +kernel
theorem dX3_init_48 : decode cX3_init 48 = .ok (.new 33, 3) := by decide +kernel
theorem dX3_init_51 : decode cX3_init 51 = .ok (.dup, 1) := by decide +kernel
theorem dX3_init_52 : decode cX3_init 52 = .ok (.invokespecial 35, 3) := by decide +kernel
theorem dX3_init_55 : decode cX3_init 55 = .ok (.putfield 36, 3) := by decide +kernel
theorem dX3_init_58 : decode cX3_init 58 = .ok (.aload_n 0, 1) := by decide +kernel
theorem dX3_init_59 : decode cX3_init 59 = .ok (.iconst 5, 1) := by decide +kernel
theorem dX3_init_60 : decode cX3_init 60 = .ok (.anewarray 40, 3) := by decide +kernel
theorem dX3_init_63 : decode cX3_init 63 = .ok (.putfield 42, 3) := by decide +kernel
theorem dX3_init_66 : decode cX3_init 66 = .ok (.aload_n 0, 1) := by decide +kernel
theorem dX3_init_67 : decode cX3_init 67 = .ok (.iconst 0, 1) := by decide +kernel
theorem dX3_init_68 : decode cX3_init 68 = .ok (.putfield 46, 3) := by decide +kernel
theorem dX3_init_71 : decode cX3_init 71 = .ok (.return_, 1) := by decide +kernel
set_option maxRecDepth 20000 in
theorem ggX3_block_X3_requireKind : GoodIn wsX3_block wsX3_requireKind := goodIn_ca (goodIn_r _ [11, 12, 13, 14] (by decide +kernel) (by decide +kernel)) (goodIn_sub (fun _ h => List.mem_cons_of_mem _ (List.mem_append_right _ h)) (by decide +kernel))
set_option maxRecDepth 20000 in
theorem gX3_block_X3_requireKind : GoodIn wsX3_block (va_wsS RX3 49 yX3_requireKind wsX3_requireKind) := goodIn_app (goodIn_of _ (by decide +kernel)) ggX3_block_X3_requireKind
set_option maxRecDepth 20000 in
theorem ggX3_block_X0_init : GoodIn wsX3_block wsX0_init := goodIn_r _ [17, 18, 19, 20, 21, 22, 23, 24, 25, 26, 27, 28, 29, 30, 31, 32, 42, 43, 44, 45, 46, 47, 48, 49, 50, 51, 52] (by decide +kernel) (by decide +kernel)
set_option maxRecDepth 20000 in
theorem gX3_block_X0_init : GoodIn wsX3_block (wsX0_init) := ggX3_block_X0_init
theorem dX3_block_0 : decode cX3_block 0 = .ok (.iload_n 1, 1) := by decide +kernel
theorem dX3_block_1 : decode cX3_block 1 = .ok (.invokestatic 49, 3) := by decide +kernel
theorem dX3_block_4 : decode cX3_block 4 = .ok (.aload_n 0, 1) := by decide +kernel
theorem dX3_block_5 : decode cX3_block 5 = .ok (.getfield 15, 3) := by decide +kernel
theorem dX3_block_8 : decode cX3_block 8 = .ok (.bipush 40, 2) := by decide +kernel
theorem dX3_block_10 : decode cX3_block 10 = .ok (.if_icmp .lt 13, 3) := by decide +kernel
theorem dX3_block_13 : decode cX3_block 13 = .ok (.new 53, 3) := by decide +kernel
theorem dX3_block_16 : decode cX3_block 16 = .ok (.dup, 1) := by decide +kernel
theorem dX3_block_17 : decode cX3_block 17 = .ok (.ldc 55, 2) := by decide +kernel
theorem dX3_block_19 : decode cX3_block 19 = .ok (.invokespecial 57, 3) := by decide +kernel
theorem dX3_block_22 : decode cX3_block 22 = .ok (.athrow, 1) := by decide +kernel
theorem dX3_block_23 : decode cX3_block 23 = .ok (.aload_n 0, 1) := by decide +kernel
theorem dX3_block_24 : decode cX3_block 24 = .ok (.getfield 11, 3) := by decide +kernel
theorem dX3_block_27 : decode cX3_block 27 = .ok (.aload_n 0, 1) := by decide +kernel
theorem dX3_block_28 : decode cX3_block 28 = .ok (.getfield 15, 3) := by decide +kernel
theorem dX3_block_31 : decode cX3_block 31 = .ok (.new 9, 3) := by decide +kernel
theorem dX3_block_34 : decode cX3_block 34 = .ok (.dup, 1) := by decide +kernel
theorem dX3_block_35 : decode cX3_block 35 = .ok (.iload_n 1, 1) := by decide +kernel
theorem dX3_block_36 : decode cX3_block 36 = .ok (.invokespecial 60, 3) := by decide +kernel
theorem dX3_block_39 : decode cX3_block 39 = .ok (.aastore, 1) := by decide +kernel
theorem dX3_block_40 : decode cX3_block 40 = .ok (.aload_n 0, 1) := by decide +kernel
theorem dX3_block_41 : decode cX3_block 41 = .ok (.dup, 1) := by decide +kernel
theorem dX3_block_42 : decode cX3_block 42 = .ok (.getfield 15, 3) := by decide +kernel
theorem dX3_block_45 : decode cX3_block 45 = .ok (.iconst 1, 1) := by decide +kernel
theorem dX3_block_46 : decode cX3_block 46 = .ok (.iadd, 1) := by decide +kernel
theorem dX3_block_47 : decode cX3_block 47 = .ok (.putfield 15, 3) := by decide +kernel
theorem dX3_block_50 : decode cX3_block 50 = .ok (.aload_n 0, 1) := by decide +kernel
theorem dX3_block_51 : decode cX3_block 51 = .ok (.getfield 15, 3) := by decide +kernel
theorem dX3_block_54 : decode cX3_block 54 = .ok (.iconst 1, 1) := by decide +kernel
theorem dX3_block_55 : decode cX3_block 55 = .ok (.isub, 1) := by decide +kernel
theorem dX3_block_56 : decode cX3_block 56 = .ok (.ireturn, 1) := by decide +kernel
set_option maxRecDepth 20000 in
theorem ggX3_wire_X3_existing : GoodIn wsX3_wire wsX3_existing := goodIn_ca (goodIn_r _ [8, 1, 2, 9, 10, 22, 23, 24, 25, 26, 27, 28, 29, 30] (by decide +kernel) (by decide +kernel)) (goodIn_sub (fun _ h => List.mem_cons_of_mem _ (List.mem_append_right _ h)) (by decide +kernel))
set_option maxRecDepth 20000 in
theorem gX3_wire_X3_existing : GoodIn wsX3_wire (wsV RX3 62 RX3 yX3_existing wsX3_existing) := goodIn_app (goodIn_of _ (by decide +kernel)) ggX3_wire_X3_existing
theorem dX3_wire_0 : decode cX3_wire 0 = .ok (.aload_n 0, 1) := by decide +kernel
theorem dX3_wire_1 : decode cX3_wire 1 = .ok (.iload_n 1, 1) := by decide +kernel
theorem dX3_wire_2 : decode cX3_wire 2 = .ok (.invokevirtual 62, 3) := by decide +kernel
theorem dX3_wire_5 : decode cX3_wire 5 = .ok (.astore 4, 2) := by decide +kernel
theorem dX3_wire_7 : decode cX3_wire 7 = .ok (.iload_n 2, 1) := by decide +kernel
theorem dX3_wire_8 : decode cX3_wire 8 = .ok (.ifCond .lt 8, 3) := by decide +kernel
theorem dX3_wire_11 : decode cX3_wire 11 = .ok (.iload_n 2, 1) := by decide +kernel
theorem dX3_wire_12 : decode cX3_wire 12 = .ok (.iconst 3, 1) := by decide +kernel
theorem dX3_wire_13 : decode cX3_wire 13 = .ok (.if_icmp .lt 13, 3) := by decide +kernel
theorem dX3_wire_16 : decode cX3_wire 16 = .ok (.new 66, 3) := by decide +kernel
theorem dX3_wire_19 : decode cX3_wire 19 = .ok (.dup, 1) := by decide +kernel
theorem dX3_wire_20 : decode cX3_wire 20 = .ok (.ldc 68, 2) := by decide +kernel
theorem dX3_wire_22 : decode cX3_wire 22 = .ok (.invokespecial 70, 3) := by decide +kernel
theorem dX3_wire_25 : decode cX3_wire 25 = .ok (.athrow, 1) := by decide +kernel
theorem dX3_wire_26 : decode cX3_wire 26 = .ok (.iload_n 3, 1) := by decide +kernel
theorem dX3_wire_27 : decode cX3_wire 27 = .ok (.iconst (-1), 1) := by decide +kernel
theorem dX3_wire_28 : decode cX3_wire 28 = .ok (.if_icmp .eq 9, 3) := by decide +kernel
theorem dX3_wire_31 : decode cX3_wire 31 = .ok (.aload_n 0, 1) := by decide +kernel
theorem dX3_wire_32 : decode cX3_wire 32 = .ok (.iload_n 3, 1) := by decide +kernel
theorem dX3_wire_33 : decode cX3_wire 33 = .ok (.invokevirtual 62, 3) := by decide +kernel
theorem dX3_wire_36 : decode cX3_wire 36 = .ok (.pop, 1) := by decide +kernel
theorem dX3_wire_37 : decode cX3_wire 37 = .ok (.aload 4, 2) := by decide +kernel
theorem dX3_wire_39 : decode cX3_wire 39 = .ok (.getfield 71, 3) := by decide +kernel
theorem dX3_wire_42 : decode cX3_wire 42 = .ok (.iload_n 2, 1) := by decide +kernel
theorem dX3_wire_43 : decode cX3_wire 43 = .ok (.iaload, 1) := by decide +kernel
theorem dX3_wire_44 : decode cX3_wire 44 = .ok (.istore 5, 2) := by decide +kernel
theorem dX3_wire_46 : decode cX3_wire 46 = .ok (.aload 4, 2) := by decide +kernel
theorem dX3_wire_48 : decode cX3_wire 48 = .ok (.getfield 71, 3) := by decide +kernel
theorem dX3_wire_51 : decode cX3_wire 51 = .ok (.iload_n 2, 1) := by decide +kernel
theorem dX3_wire_52 : decode cX3_wire 52 = .ok (.iload_n 3, 1) := by decide +kernel
theorem dX3_wire_53 : decode cX3_wire 53 = .ok (.iastore, 1) := by decide +kernel
theorem dX3_wire_54 : decode cX3_wire 54 = .ok (.iload 5, 2) := by decide +kernel
theorem dX3_wire_56 : decode cX3_wire 56 = .ok (.ireturn, 1) := by decide +kernel
set_option maxRecDepth 20000 in
theorem ggX3_numbers_X3_existing : GoodIn wsX3_numbers wsX3_existing := goodIn_ca (goodIn_r _ [7, 8, 9, 10, 11, 23, 24, 25, 26, 27, 28, 29, 30, 31] (by decide +kernel) (by decide +kernel)) (goodIn_sub (fun _ h => List.mem_cons_of_mem _ (List.mem_append_right _ h)) (by decide +kernel))
set_option maxRecDepth 20000 in
theorem gX3_numbers_X3_existing : GoodIn wsX3_numbers (wsV RX3 62 RX3 yX3_existing wsX3_existing) := goodIn_app (goodIn_of _ (by decide +kernel)) ggX3_numbers_X3_existing
theorem dX3_numbers_0 : decode cX3_numbers 0 = .ok (.aload_n 0, 1) := by decide +kernel
theorem dX3_numbers_1 : decode cX3_numbers 1 = .ok (.iload_n 1, 1) := by decide +kernel
theorem dX3_numbers_2 : decode cX3_numbers 2 = .ok (.invokevirtual 62, 3) := by decide +kernel
theorem dX3_numbers_5 : decode cX3_numbers 5 = .ok (.astore 4, 2) := by decide +kernel
theorem dX3_numbers_7 : decode cX3_numbers 7 = .ok (.aload 4, 2) := by decide +kernel
theorem dX3_numbers_9 : decode cX3_numbers 9 = .ok (.iload_n 2, 1) := by decide +kernel
theorem dX3_numbers_10 : decode cX3_numbers 10 = .ok (.putfield 74, 3) := by decide +kernel
theorem dX3_numbers_13 : decode cX3_numbers 13 = .ok (.aload 4, 2) := by decide +kernel
theorem dX3_numbers_15 : decode cX3_numbers 15 = .ok (.iload_n 3, 1) := by decide +kernel
theorem dX3_numbers_16 : decode cX3_numbers 16 = .ok (.putfield 77, 3) := by decide +kernel
theorem dX3_numbers_19 : decode cX3_numbers 19 = .ok (.return_, 1) := by decide +kernel
set_option maxRecDepth 20000 in
theorem ggX3_row_X3_existing : GoodIn wsX3_row wsX3_existing := goodIn_ca (goodIn_r _ [11, 1, 2, 12, 13, 28, 29, 30, 31, 32, 33, 34, 35, 36] (by decide +kernel) (by decide +kernel)) (goodIn_sub (fun _ h => List.mem_cons_of_mem _ (List.mem_append_left _ (List.mem_append_right _ h))) (by decide +kernel))
set_option maxRecDepth 20000 in
theorem gX3_row_X3_existing : GoodIn wsX3_row (wsV RX3 62 RX3 yX3_existing wsX3_existing) := goodIn_app (goodIn_of _ (by decide +kernel)) ggX3_row_X3_existing
set_option maxRecDepth 20000 in
theorem ggX3_row_X3_isPlaceInRow : GoodIn wsX3_row wsX3_isPlaceInRow := goodIn_r _ [16] (by decide +kernel) (by decide +kernel)
set_option maxRecDepth 20000 in
theorem gX3_row_X3_isPlaceInRow : GoodIn wsX3_row (va_wsS RX3 80 yX3_isPlaceInRow wsX3_isPlaceInRow) := goodIn_app (goodIn_of _ (by decide +kernel)) ggX3_row_X3_isPlaceInRow
theorem dX3_row_0 : decode cX3_row 0 = .ok (.aload_n 0, 1) := by decide +kernel
theorem dX3_row_1 : decode cX3_row 1 = .ok (.iload_n 1, 1) := by decide +kernel
theorem dX3_row_2 : decode cX3_row 2 = .ok (.invokevirtual 62, 3) := by decide +kernel
theorem dX3_row_5 : decode cX3_row 5 = .ok (.astore 4, 2) := by decide +kernel
theorem dX3_row_7 : decode cX3_row 7 = .ok (.iload_n 2, 1) := by decide +kernel
theorem dX3_row_8 : decode cX3_row 8 = .ok (.invokestatic 80, 3) := by decide +kernel
theorem dX3_row_11 : decode cX3_row 11 = .ok (.ifCond .ne 13, 3) := by decide +kernel
theorem dX3_row_14 : decode cX3_row 14 = .ok (.new 66, 3) := by decide +kernel
theorem dX3_row_17 : decode cX3_row 17 = .ok (.dup, 1) := by decide +kernel
theorem dX3_row_18 : decode cX3_row 18 = .ok (.ldc 84, 2) := by decide +kernel
theorem dX3_row_20 : decode cX3_row 20 = .ok (.invokespecial 70, 3) := by decide +kernel
theorem dX3_row_23 : decode cX3_row 23 = .ok (.athrow, 1) := by decide +kernel
theorem dX3_row_24 : decode cX3_row 24 = .ok (.aload 4, 2) := by decide +kernel
theorem dX3_row_26 : decode cX3_row 26 = .ok (.getfield 86, 3) := by decide +kernel
theorem dX3_row_29 : decode cX3_row 29 = .ok (.bipush 15, 2) := by decide +kernel
theorem dX3_row_31 : decode cX3_row 31 = .ok (.if_icmp .eq 13, 3) := by decide +kernel
theorem dX3_row_34 : decode cX3_row 34 = .ok (.new 53, 3) := by decide +kernel
theorem dX3_row_37 : decode cX3_row 37 = .ok (.dup, 1) := by decide +kernel
theorem dX3_row_38 : decode cX3_row 38 = .ok (.ldc 89, 2) := by decide +kernel
theorem dX3_row_40 : decode cX3_row 40 = .ok (.invokespecial 57, 3) := by decide +kernel
theorem dX3_row_43 : decode cX3_row 43 = .ok (.athrow, 1) := by decide +kernel
theorem dX3_row_44 : decode cX3_row 44 = .ok (.aload 4, 2) := by decide +kernel
theorem dX3_row_46 : decode cX3_row 46 = .ok (.getfield 91, 3) := by decide +kernel
theorem dX3_row_49 : decode cX3_row 49 = .ok (.iload_n 2, 1) := by decide +kernel
theorem dX3_row_50 : decode cX3_row 50 = .ok (.iaload, 1) := by decide +kernel
theorem dX3_row_51 : decode cX3_row 51 = .ok (.istore 5, 2) := by decide +kernel
theorem dX3_row_53 : decode cX3_row 53 = .ok (.aload 4, 2) := by decide +kernel
theorem dX3_row_55 : decode cX3_row 55 = .ok (.getfield 91, 3) := by decide +kernel
theorem dX3_row_58 : decode cX3_row 58 = .ok (.iload_n 2, 1) := by decide +kernel
theorem dX3_row_59 : decode cX3_row 59 = .ok (.iload_n 3, 1) := by decide +kernel
theorem dX3_row_60 : decode cX3_row 60 = .ok (.iastore, 1) := by decide +kernel
theorem dX3_row_61 : decode cX3_row 61 = .ok (.iload 5, 2) := by decide +kernel
theorem dX3_row_63 : decode cX3_row 63 = .ok (.ireturn, 1) := by decide +kernel
set_option maxRecDepth 20000 in
theorem ggX3_safe_X3_existing : GoodIn wsX3_safe wsX3_existing := goodIn_ca (goodIn_r _ [6, 7, 8, 9, 10, 22, 23, 24, 25, 26, 27, 28, 29, 30] (by decide +kernel) (by decide +kernel)) (goodIn_sub (fun _ h => List.mem_cons_of_mem _ (List.mem_append_right _ h)) (by decide +kernel))
set_option maxRecDepth 20000 in
theorem gX3_safe_X3_existing : GoodIn wsX3_safe (wsV RX3 62 RX3 yX3_existing wsX3_existing) := goodIn_app (goodIn_of _ (by decide +kernel)) ggX3_safe_X3_existing
theorem dX3_safe_0 : decode cX3_safe 0 = .ok (.aload_n 0, 1) := by decide +kernel
theorem dX3_safe_1 : decode cX3_safe 1 = .ok (.iload_n 1, 1) := by decide +kernel
theorem dX3_safe_2 : decode cX3_safe 2 = .ok (.invokevirtual 62, 3) := by decide +kernel
theorem dX3_safe_5 : decode cX3_safe 5 = .ok (.astore_n 3, 1) := by decide +kernel
theorem dX3_safe_6 : decode cX3_safe 6 = .ok (.aload_n 3, 1) := by decide +kernel
theorem dX3_safe_7 : decode cX3_safe 7 = .ok (.getfield 94, 3) := by decide +kernel
theorem dX3_safe_10 : decode cX3_safe 10 = .ok (.istore 4, 2) := by decide +kernel
theorem dX3_safe_12 : decode cX3_safe 12 = .ok (.aload_n 3, 1) := by decide +kernel
theorem dX3_safe_13 : decode cX3_safe 13 = .ok (.iload_n 2, 1) := by decide +kernel
theorem dX3_safe_14 : decode cX3_safe 14 = .ok (.putfield 94, 3) := by decide +kernel
theorem dX3_safe_17 : decode cX3_safe 17 = .ok (.iload 4, 2) := by decide +kernel
theorem dX3_safe_19 : decode cX3_safe 19 = .ok (.ireturn, 1) := by decide +kernel
set_option maxRecDepth 20000 in
theorem ggX3_point_X3_isPoint : GoodIn wsX3_point wsX3_isPoint := goodIn_r _ [7] (by decide +kernel) (by decide +kernel)
set_option maxRecDepth 20000 in
theorem gX3_point_X3_isPoint : GoodIn wsX3_point (va_wsS RX3 97 yX3_isPoint wsX3_isPoint) := goodIn_app (goodIn_of _ (by decide +kernel)) ggX3_point_X3_isPoint
theorem dX3_point_0 : decode cX3_point 0 = .ok (.iload_n 1, 1) := by decide +kernel
theorem dX3_point_1 : decode cX3_point 1 = .ok (.invokestatic 97, 3) := by decide +kernel
theorem dX3_point_4 : decode cX3_point 4 = .ok (.ifCond .ne 13, 3) := by decide +kernel
theorem dX3_point_7 : decode cX3_point 7 = .ok (.new 66, 3) := by decide +kernel
theorem dX3_point_10 : decode cX3_point 10 = .ok (.dup, 1) := by decide +kernel
theorem dX3_point_11 : decode cX3_point 11 = .ok (.ldc 100, 2) := by decide +kernel
theorem dX3_point_13 : decode cX3_point 13 = .ok (.invokespecial 70, 3) := by decide +kernel
theorem dX3_point_16 : decode cX3_point 16 = .ok (.athrow, 1) := by decide +kernel
theorem dX3_point_17 : decode cX3_point 17 = .ok (.aload_n 0, 1) := by decide +kernel
theorem dX3_point_18 : decode cX3_point 18 = .ok (.getfield 19, 3) := by decide +kernel
theorem dX3_point_21 : decode cX3_point 21 = .ok (.iload_n 1, 1) := by decide +kernel
theorem dX3_point_22 : decode cX3_point 22 = .ok (.iaload, 1) := by decide +kernel
theorem dX3_point_23 : decode cX3_point 23 = .ok (.istore_n 3, 1) := by decide +kernel
theorem dX3_point_24 : decode cX3_point 24 = .ok (.aload_n 0, 1) := by decide +kernel
theorem dX3_point_25 : decode cX3_point 25 = .ok (.getfield 19, 3) := by decide +kernel
theorem dX3_point_28 : decode cX3_point 28 = .ok (.iload_n 1, 1) := by decide +kernel
theorem dX3_point_29 : decode cX3_point 29 = .ok (.iload_n 2, 1) := by decide +kernel
theorem dX3_point_30 : decode cX3_point 30 = .ok (.iastore, 1) := by decide +kernel
theorem dX3_point_31 : decode cX3_point 31 = .ok (.iload_n 3, 1) := by decide +kernel
theorem dX3_point_32 : decode cX3_point 32 = .ok (.ireturn, 1) := by decide +kernel
set_option maxRecDepth 20000 in
theorem ggX3_hand_X3_existing : GoodIn wsX3_hand wsX3_existing := goodIn_ca (goodIn_r _ [7, 8, 9, 10, 11, 23, 24, 25, 26, 27, 28, 29, 30, 31] (by decide +kernel) (by decide +kernel)) (goodIn_sub (fun _ h => List.mem_cons_of_mem _ (List.mem_append_right _ h)) (by decide +kernel))
set_option maxRecDepth 20000 in
theorem gX3_hand_X3_existing : GoodIn wsX3_hand (wsV RX3 62 RX3 yX3_existing wsX3_existing) := goodIn_app (goodIn_of _ (by decide +kernel)) ggX3_hand_X3_existing
theorem dX3_hand_0 : decode cX3_hand 0 = .ok (.aload_n 0, 1) := by decide +kernel
theorem dX3_hand_1 : decode cX3_hand 1 = .ok (.iload_n 1, 1) := by decide +kernel
theorem dX3_hand_2 : decode cX3_hand 2 = .ok (.invokevirtual 62, 3) := by decide +kernel
theorem dX3_hand_5 : decode cX3_hand 5 = .ok (.astore 4, 2) := by decide +kernel
theorem dX3_hand_7 : decode cX3_hand 7 = .ok (.aload 4, 2) := by decide +kernel
theorem dX3_hand_9 : decode cX3_hand 9 = .ok (.getfield 102, 3) := by decide +kernel
theorem dX3_hand_12 : decode cX3_hand 12 = .ok (.istore 5, 2) := by decide +kernel
theorem dX3_hand_14 : decode cX3_hand 14 = .ok (.aload 4, 2) := by decide +kernel
theorem dX3_hand_16 : decode cX3_hand 16 = .ok (.iload_n 2, 1) := by decide +kernel
theorem dX3_hand_17 : decode cX3_hand 17 = .ok (.putfield 102, 3) := by decide +kernel
theorem dX3_hand_20 : decode cX3_hand 20 = .ok (.aload 4, 2) := by decide +kernel
theorem dX3_hand_22 : decode cX3_hand 22 = .ok (.iload_n 3, 1) := by decide +kernel
theorem dX3_hand_23 : decode cX3_hand 23 = .ok (.putfield 106, 3) := by decide +kernel
theorem dX3_hand_26 : decode cX3_hand 26 = .ok (.iload 5, 2) := by decide +kernel
theorem dX3_hand_28 : decode cX3_hand 28 = .ok (.ireturn, 1) := by decide +kernel
set_option maxRecDepth 20000 in
theorem ggX3_order_X3_lineUp : GoodIn wsX3_order wsX3_lineUp := goodIn_r _ [5, 6, 7, 8, 9, 10, 11, 4, 12, 13, 14, 15, 16, 17, 18, 19, 20, 21, 22, 23, 24, 25, 26, 27, 28, 29, 30, 31, 32, 33, 34, 35, 36, 37, 38, 39, 40, 41, 42, 43, 44, 45] (by decide +kernel) (by decide +kernel)
set_option maxRecDepth 20000 in
theorem gX3_order_X3_lineUp : GoodIn wsX3_order (wsV RX3 109 RX3 yX3_lineUp wsX3_lineUp) := goodIn_app (goodIn_of _ (by decide +kernel)) ggX3_order_X3_lineUp
theorem dX3_order_0 : decode cX3_order 0 = .ok (.aload_n 0, 1) := by decide +kernel
theorem dX3_order_1 : decode cX3_order 1 = .ok (.invokevirtual 109, 3) := by decide +kernel
theorem dX3_order_4 : decode cX3_order 4 = .ok (.ireturn, 1) := by decide +kernel
set_option maxRecDepth 20000 in
theorem ggX3_at_X3_lineUp : GoodIn wsX3_at wsX3_lineUp := goodIn_r _ [9, 3, 10, 4, 11, 12, 13, 8, 14, 15, 16, 17, 18, 19, 20, 21, 22, 23, 24, 25, 26, 27, 28, 29, 30, 31, 32, 33, 34, 35, 36, 37, 38, 39, 40, 41, 42, 43, 44, 45, 46, 47] (by decide +kernel) (by decide +kernel)
set_option maxRecDepth 20000 in
theorem gX3_at_X3_lineUp : GoodIn wsX3_at (wsV RX3 109 RX3 yX3_lineUp wsX3_lineUp) := goodIn_app (goodIn_of _ (by decide +kernel)) ggX3_at_X3_lineUp
theorem dX3_at_0 : decode cX3_at 0 = .ok (.iload_n 1, 1) := by decide +kernel
theorem dX3_at_1 : decode cX3_at 1 = .ok (.ifCond .lt 11, 3) := by decide +kernel
theorem dX3_at_4 : decode cX3_at 4 = .ok (.iload_n 1, 1) := by decide +kernel
theorem dX3_at_5 : decode cX3_at 5 = .ok (.aload_n 0, 1) := by decide +kernel
theorem dX3_at_6 : decode cX3_at 6 = .ok (.getfield 15, 3) := by decide +kernel
theorem dX3_at_9 : decode cX3_at 9 = .ok (.if_icmp .lt 13, 3) := by decide +kernel
theorem dX3_at_12 : decode cX3_at 12 = .ok (.new 66, 3) := by decide +kernel
theorem dX3_at_15 : decode cX3_at 15 = .ok (.dup, 1) := by decide +kernel
theorem dX3_at_16 : decode cX3_at 16 = .ok (.ldc 113, 2) := by decide +kernel
theorem dX3_at_18 : decode cX3_at 18 = .ok (.invokespecial 70, 3) := by decide +kernel
theorem dX3_at_21 : decode cX3_at 21 = .ok (.athrow, 1) := by decide +kernel
theorem dX3_at_22 : decode cX3_at 22 = .ok (.aload_n 0, 1) := by decide +kernel
theorem dX3_at_23 : decode cX3_at 23 = .ok (.invokevirtual 109, 3) := by decide +kernel
theorem dX3_at_26 : decode cX3_at 26 = .ok (.pop, 1) := by decide +kernel
theorem dX3_at_27 : decode cX3_at 27 = .ok (.aload_n 0, 1) := by decide +kernel
theorem dX3_at_28 : decode cX3_at 28 = .ok (.getfield 26, 3) := by decide +kernel
theorem dX3_at_31 : decode cX3_at 31 = .ok (.iload_n 1, 1) := by decide +kernel
theorem dX3_at_32 : decode cX3_at 32 = .ok (.iaload, 1) := by decide +kernel
theorem dX3_at_33 : decode cX3_at 33 = .ok (.ireturn, 1) := by decide +kernel
set_option maxRecDepth 20000 in
theorem ggX3_run_X3_lineUp : GoodIn wsX3_run wsX3_lineUp := goodIn_r _ [11, 5, 12, 13, 14, 15, 16, 10, 17, 18, 19, 20, 21, 22, 23, 24, 25, 26, 27, 28, 29, 30, 139, 140, 141, 142, 143, 144, 145, 146, 147, 148, 149, 150, 151, 152, 153, 154, 155, 156, 157, 158] (by decide +kernel) (by decide +kernel)
set_option maxRecDepth 20000 in
theorem gX3_run_X3_lineUp : GoodIn wsX3_run (wsV RX3 109 RX3 yX3_lineUp wsX3_lineUp) := goodIn_app (goodIn_of _ (by decide +kernel)) ggX3_run_X3_lineUp
set_option maxRecDepth 20000 in
theorem ggX3_run_X3_tick : GoodIn wsX3_run wsX3_tick := goodIn_r _ [34, 6, 5, 13, 18, 23, 35, 36, 37, 10, 38, 24, 39, 40, 41, 42, 43, 44, 45, 46, 47, 48, 49, 50, 51, 28, 52, 53, 54, 26, 27, 29, 30, 55, 56, 57, 58, 59, 60, 61, 62, 63, 64, 65, 66, 67, 68, 69, 70, 71, 72, 73, 74, 75, 76, 77, 78, 79, 80, 81, 82, 83, 84, 85, 86, 87, 88, 89, 90, 91, 92, 93, 94, 95, 96, 97, 98, 99, 100, 101, 102, 103, 104, 105, 106, 107, 108, 109, 110, 111, 112, 113, 114, 115, 116, 117, 118, 119, 120, 121, 122, 123, 124, 125, 126, 127, 128, 129, 130, 131, 132, 133, 134, 135, 136, 137, 138, 139, 140, 141, 142, 143, 144, 145, 146, 147, 148, 149, 150, 151, 152, 153, 154, 155, 156, 157, 158, 159, 160, 161, 162, 163] (by decide +kernel) (by decide +kernel)
set_option maxRecDepth 20000 in
theorem gX3_run_X3_tick : GoodIn wsX3_run (wsV RX3 121 RX3 yX3_tick wsX3_tick) := goodIn_app (goodIn_of _ (by decide +kernel)) ggX3_run_X3_tick
theorem dX3_run_0 : decode cX3_run 0 = .ok (.iload_n 1, 1) := by decide +kernel
theorem dX3_run_1 : decode cX3_run 1 = .ok (.iconst 1, 1) := by decide +kernel
theorem dX3_run_2 : decode cX3_run 2 = .ok (.if_icmp .lt 10, 3) := by decide +kernel
theorem dX3_run_5 : decode cX3_run 5 = .ok (.iload_n 1, 1) := by decide +kernel
theorem dX3_run_6 : decode cX3_run 6 = .ok (.sipush 500, 3) := by decide +kernel
theorem dX3_run_9 : decode cX3_run 9 = .ok (.if_icmp .le 13, 3) := by decide +kernel
theorem dX3_run_12 : decode cX3_run 12 = .ok (.new 66, 3) := by decide +kernel
theorem dX3_run_15 : decode cX3_run 15 = .ok (.dup, 1) := by decide +kernel
theorem dX3_run_16 : decode cX3_run 16 = .ok (.ldc 115, 2) := by decide +kernel
theorem dX3_run_18 : decode cX3_run 18 = .ok (.invokespecial 70, 3) := by decide +kernel
theorem dX3_run_21 : decode cX3_run 21 = .ok (.athrow, 1) := by decide +kernel
theorem dX3_run_22 : decode cX3_run 22 = .ok (.aload_n 0, 1) := by decide +kernel
theorem dX3_run_23 : decode cX3_run 23 = .ok (.invokevirtual 109, 3) := by decide +kernel
theorem dX3_run_26 : decode cX3_run 26 = .ok (.aload_n 0, 1) := by decide +kernel
theorem dX3_run_27 : decode cX3_run 27 = .ok (.getfield 15, 3) := by decide +kernel
theorem dX3_run_30 : decode cX3_run 30 = .ok (.if_icmp .ge 13, 3) := by decide +kernel
theorem dX3_run_33 : decode cX3_run 33 = .ok (.new 53, 3) := by decide +kernel
theorem dX3_run_36 : decode cX3_run 36 = .ok (.dup, 1) := by decide +kernel
theorem dX3_run_37 : decode cX3_run 37 = .ok (.ldc 117, 2) := by decide +kernel
theorem dX3_run_39 : decode cX3_run 39 = .ok (.invokespecial 57, 3) := by decide +kernel
theorem dX3_run_42 : decode cX3_run 42 = .ok (.athrow, 1) := by decide +kernel
theorem dX3_run_43 : decode cX3_run 43 = .ok (.aload_n 0, 1) := by decide +kernel
theorem dX3_run_44 : decode cX3_run 44 = .ok (.getfield 23, 3) := by decide +kernel
theorem dX3_run_47 : decode cX3_run 47 = .ok (.iload_n 1, 1) := by decide +kernel
theorem dX3_run_48 : decode cX3_run 48 = .ok (.iadd, 1) := by decide +kernel
theorem dX3_run_49 : decode cX3_run 49 = .ok (.sipush 3000, 3) := by decide +kernel
theorem dX3_run_52 : decode cX3_run 52 = .ok (.if_icmp .le 13, 3) := by decide +kernel
theorem dX3_run_55 : decode cX3_run 55 = .ok (.new 53, 3) := by decide +kernel
theorem dX3_run_58 : decode cX3_run 58 = .ok (.dup, 1) := by decide +kernel
theorem dX3_run_59 : decode cX3_run 59 = .ok (.ldc 119, 2) := by decide +kernel
theorem dX3_run_61 : decode cX3_run 61 = .ok (.invokespecial 57, 3) := by decide +kernel
theorem dX3_run_64 : decode cX3_run 64 = .ok (.athrow, 1) := by decide +kernel
theorem dX3_run_65 : decode cX3_run 65 = .ok (.iconst 0, 1) := by decide +kernel
theorem dX3_run_66 : decode cX3_run 66 = .ok (.istore_n 2, 1) := by decide +kernel
theorem dX3_run_67 : decode cX3_run 67 = .ok (.iload_n 2, 1) := by decide +kernel
theorem dX3_run_68 : decode cX3_run 68 = .ok (.iload_n 1, 1) := by decide +kernel
theorem dX3_run_69 : decode cX3_run 69 = .ok (.if_icmp .ge 13, 3) := by decide +kernel
theorem dX3_run_72 : decode cX3_run 72 = .ok (.aload_n 0, 1) := by decide +kernel
theorem dX3_run_73 : decode cX3_run 73 = .ok (.invokevirtual 121, 3) := by decide +kernel
theorem dX3_run_76 : decode cX3_run 76 = .ok (.iinc 2 1, 3) := by decide +kernel
theorem dX3_run_79 : decode cX3_run 79 = .ok (.goto (-12), 3) := by decide +kernel
theorem dX3_run_82 : decode cX3_run 82 = .ok (.aload_n 0, 1) := by decide +kernel
theorem dX3_run_83 : decode cX3_run 83 = .ok (.getfield 23, 3) := by decide +kernel
theorem dX3_run_86 : decode cX3_run 86 = .ok (.ireturn, 1) := by decide +kernel
set_option maxRecDepth 20000 in
theorem ggX3_out_X3_existing : GoodIn wsX3_out wsX3_existing := goodIn_ca (goodIn_r _ [6, 7, 8, 9, 10, 22, 23, 24, 25, 26, 27, 28, 29, 30] (by decide +kernel) (by decide +kernel)) (goodIn_sub (fun _ h => List.mem_cons_of_mem _ (List.mem_append_right _ h)) (by decide +kernel))
set_option maxRecDepth 20000 in
theorem gX3_out_X3_existing : GoodIn wsX3_out (wsV RX3 62 RX3 yX3_existing wsX3_existing) := goodIn_app (goodIn_of _ (by decide +kernel)) ggX3_out_X3_existing
theorem dX3_out_0 : decode cX3_out 0 = .ok (.aload_n 0, 1) := by decide +kernel
theorem dX3_out_1 : decode cX3_out 1 = .ok (.iload_n 1, 1) := by decide +kernel
theorem dX3_out_2 : decode cX3_out 2 = .ok (.invokevirtual 62, 3) := by decide +kernel
theorem dX3_out_5 : decode cX3_out 5 = .ok (.getfield 124, 3) := by decide +kernel
theorem dX3_out_8 : decode cX3_out 8 = .ok (.ireturn, 1) := by decide +kernel
set_option maxRecDepth 20000 in
theorem ggX3_state_X3_existing : GoodIn wsX3_state wsX3_existing := goodIn_ca (goodIn_r _ [9, 1, 2, 10, 11, 23, 24, 25, 26, 27, 28, 29, 30, 31] (by decide +kernel) (by decide +kernel)) (goodIn_sub (fun _ h => List.mem_cons_of_mem _ (List.mem_append_right _ h)) (by decide +kernel))
set_option maxRecDepth 20000 in
theorem gX3_state_X3_existing : GoodIn wsX3_state (wsV RX3 62 RX3 yX3_existing wsX3_existing) := goodIn_app (goodIn_of _ (by decide +kernel)) ggX3_state_X3_existing
theorem dX3_state_0 : decode cX3_state 0 = .ok (.aload_n 0, 1) := by decide +kernel
theorem dX3_state_1 : decode cX3_state 1 = .ok (.iload_n 1, 1) := by decide +kernel
theorem dX3_state_2 : decode cX3_state 2 = .ok (.invokevirtual 62, 3) := by decide +kernel
theorem dX3_state_5 : decode cX3_state 5 = .ok (.astore_n 3, 1) := by decide +kernel
theorem dX3_state_6 : decode cX3_state 6 = .ok (.iload_n 2, 1) := by decide +kernel
theorem dX3_state_7 : decode cX3_state 7 = .ok (.ifCond .lt 8, 3) := by decide +kernel
theorem dX3_state_10 : decode cX3_state 10 = .ok (.iload_n 2, 1) := by decide +kernel
theorem dX3_state_11 : decode cX3_state 11 = .ok (.iconst 1, 1) := by decide +kernel
theorem dX3_state_12 : decode cX3_state 12 = .ok (.if_icmp .le 13, 3) := by decide +kernel
theorem dX3_state_15 : decode cX3_state 15 = .ok (.new 66, 3) := by decide +kernel
theorem dX3_state_18 : decode cX3_state 18 = .ok (.dup, 1) := by decide +kernel
theorem dX3_state_19 : decode cX3_state 19 = .ok (.ldc 127, 2) := by decide +kernel
theorem dX3_state_21 : decode cX3_state 21 = .ok (.invokespecial 70, 3) := by decide +kernel
theorem dX3_state_24 : decode cX3_state 24 = .ok (.athrow, 1) := by decide +kernel
theorem dX3_state_25 : decode cX3_state 25 = .ok (.iload_n 2, 1) := by decide +kernel
theorem dX3_state_26 : decode cX3_state 26 = .ok (.ifCond .ne 10, 3) := by decide +kernel
theorem dX3_state_29 : decode cX3_state 29 = .ok (.aload_n 3, 1) := by decide +kernel
theorem dX3_state_30 : decode cX3_state 30 = .ok (.getfield 129, 3) := by decide +kernel
theorem dX3_state_33 : decode cX3_state 33 = .ok (.goto 7, 3) := by decide +kernel
theorem dX3_state_36 : decode cX3_state 36 = .ok (.aload_n 3, 1) := by decide +kernel
theorem dX3_state_37 : decode cX3_state 37 = .ok (.getfield 132, 3) := by decide +kernel
theorem dX3_state_40 : decode cX3_state 40 = .ok (.ireturn, 1) := by decide +kernel
theorem dX3_failed_0 : decode cX3_failed 0 = .ok (.iload_n 1, 1) := by decide +kernel
