/-! constructors: words -/
theorem miX7 : MI mX7_init := ⟨(inL 112 (by decide +kernel) rfl), (inL 77 (by decide +kernel) rfl), (inL 113 (by decide +kernel) rfl), rfl, rfl, ⟨by decide +kernel, by decide +kernel, by decide +kernel⟩⟩
theorem obX7 : Cond.methodLink RX7 3 Lib.objectInit ∈ wsG := (inL 114 (by decide +kernel) rfl)
abbrev d0_X7 : List Value := [.null, .int (iI 0), .int (iI 0)]
set_option maxRecDepth 20000 in
theorem mnX7 : MN RX10 7 7 d0_X7 3 := ⟨_, tyX7, rfl, rfl, (inL 109 (by decide +kernel) rfl), (inL 110 (by decide +kernel) rfl), (inL 77 (by decide +kernel) rfl), tyX7_ok, by rfl⟩
theorem pfX7_11 : PF RX7 11 7 0 (.array .int) := ⟨_, rfl, by decide, (inL 115 (by decide +kernel) rfl), rfl, rfl, by decide +kernel⟩
theorem miX4 : MI mX4_init := ⟨(inL 133 (by decide +kernel) rfl), (inL 78 (by decide +kernel) rfl), (inL 134 (by decide +kernel) rfl), rfl, rfl, ⟨by decide +kernel, by decide +kernel, by decide +kernel⟩⟩
theorem obX4 : Cond.methodLink RX4 3 Lib.objectInit ∈ wsG := (inL 135 (by decide +kernel) rfl)
abbrev d0_X4 : List Value := [.null, .int (iI 0)]
set_option maxRecDepth 20000 in
theorem mnX4 : MN RX10 16 4 d0_X4 2 := ⟨_, tyX4, rfl, rfl, (inL 130 (by decide +kernel) rfl), (inL 131 (by decide +kernel) rfl), (inL 78 (by decide +kernel) rfl), tyX4_ok, by rfl⟩
theorem pfX4_9 : PF RX4 9 4 0 (.array .int) := ⟨_, rfl, by decide, (inL 136 (by decide +kernel) rfl), rfl, rfl, by decide +kernel⟩
theorem miX9 : MI mX9_init := ⟨(inL 146 (by decide +kernel) rfl), (inL 79 (by decide +kernel) rfl), (inL 147 (by decide +kernel) rfl), rfl, rfl, ⟨by decide +kernel, by decide +kernel, by decide +kernel⟩⟩
theorem obX9 : Cond.methodLink RX9 3 Lib.objectInit ∈ wsG := (inL 148 (by decide +kernel) rfl)
abbrev d0_X9 : List Value := [.null, .int (iI 0)]
set_option maxRecDepth 20000 in
theorem mnX9 : MN RX10 23 9 d0_X9 2 := ⟨_, tyX9, rfl, rfl, (inL 143 (by decide +kernel) rfl), (inL 144 (by decide +kernel) rfl), (inL 79 (by decide +kernel) rfl), tyX9_ok, by rfl⟩
theorem pfX9_11 : PF RX9 11 9 0 (.array .int) := ⟨_, rfl, by decide, (inL 149 (by decide +kernel) rfl), rfl, rfl, by decide +kernel⟩
theorem miX3 : MI mX3_init := ⟨(inL 163 (by decide +kernel) rfl), (inL 80 (by decide +kernel) rfl), (inL 164 (by decide +kernel) rfl), rfl, rfl, ⟨by decide +kernel, by decide +kernel, by decide +kernel⟩⟩
theorem obX3 : Cond.methodLink RX3 3 Lib.objectInit ∈ wsG := (inL 165 (by decide +kernel) rfl)
abbrev d0_X3 : List Value := [.null, .null, .null, .null, .int (iI 0), .int (iI 0), .int (iI 0)]
set_option maxRecDepth 20000 in
theorem mnX3 : MN RX10 43 3 d0_X3 7 := ⟨_, tyX3, rfl, rfl, (inL 160 (by decide +kernel) rfl), (inL 161 (by decide +kernel) rfl), (inL 80 (by decide +kernel) rfl), tyX3_ok, by rfl⟩
theorem pfX3_9 : PF RX3 9 3 0 (.array .int) := ⟨_, rfl, by decide, (inL 166 (by decide +kernel) rfl), rfl, rfl, by decide +kernel⟩
theorem pfX3_15 : PF RX3 15 3 1 (.array .int) := ⟨_, rfl, by decide, (inL 169 (by decide +kernel) rfl), rfl, rfl, by decide +kernel⟩
theorem pfX3_18 : PF RX3 18 3 2 (.array .int) := ⟨_, rfl, by decide, (inL 172 (by decide +kernel) rfl), rfl, rfl, by decide +kernel⟩
theorem pfX3_21 : PF RX3 21 3 3 (.array .int) := ⟨_, rfl, by decide, (inL 176 (by decide +kernel) rfl), rfl, rfl, by decide +kernel⟩
theorem miX5 : MI mX5_init := ⟨(inL 208 (by decide +kernel) rfl), (inL 81 (by decide +kernel) rfl), (inL 209 (by decide +kernel) rfl), rfl, rfl, ⟨by decide +kernel, by decide +kernel, by decide +kernel⟩⟩
theorem obX5 : Cond.methodLink RX5 3 Lib.objectInit ∈ wsG := (inL 210 (by decide +kernel) rfl)
abbrev d0_X5 : List Value := [.null, .null, .int (iI 0), .int (iI 0), .int (iI 0)]
set_option maxRecDepth 20000 in
theorem mnX5 : MN RX10 53 5 d0_X5 5 := ⟨_, tyX5, rfl, rfl, (inL 205 (by decide +kernel) rfl), (inL 206 (by decide +kernel) rfl), (inL 81 (by decide +kernel) rfl), tyX5_ok, by rfl⟩
theorem pfX5_11 : PF RX5 11 5 0 (.array .int) := ⟨_, rfl, by decide, (inL 211 (by decide +kernel) rfl), rfl, rfl, by decide +kernel⟩
theorem pfX5_15 : PF RX5 15 5 1 (.array .int) := ⟨_, rfl, by decide, (inL 212 (by decide +kernel) rfl), rfl, rfl, by decide +kernel⟩
theorem miX0 : MI mX0_init := ⟨(inL 231 (by decide +kernel) rfl), (inL 82 (by decide +kernel) rfl), (inL 232 (by decide +kernel) rfl), rfl, rfl, ⟨by decide +kernel, by decide +kernel, by decide +kernel⟩⟩
theorem obX0 : Cond.methodLink RX0 1 Lib.objectInit ∈ wsG := (inL 233 (by decide +kernel) rfl)
abbrev d0_X0 : List Value := [.null, .int (iI 0), .int (iI 0)]
set_option maxRecDepth 20000 in
theorem mnX0 : MN RX10 60 0 d0_X0 3 := ⟨_, tyX0, rfl, rfl, (inL 228 (by decide +kernel) rfl), (inL 229 (by decide +kernel) rfl), (inL 82 (by decide +kernel) rfl), tyX0_ok, by rfl⟩
theorem pfX0_11 : PF RX0 11 0 0 (.array .int) := ⟨_, rfl, by decide, (inL 234 (by decide +kernel) rfl), rfl, rfl, by decide +kernel⟩
theorem miX1 : MI mX1_init := ⟨(inL 248 (by decide +kernel) rfl), (inL 83 (by decide +kernel) rfl), (inL 249 (by decide +kernel) rfl), rfl, rfl, ⟨by decide +kernel, by decide +kernel, by decide +kernel⟩⟩
theorem obX1 : Cond.methodLink RX1 3 Lib.objectInit ∈ wsG := (inL 250 (by decide +kernel) rfl)
abbrev d0_X1 : List Value := [.null, .null, .null, .null, .int (iI 0), .int (iI 0), .null]
set_option maxRecDepth 20000 in
theorem mnX1 : MN RX10 75 1 d0_X1 7 := ⟨_, tyX1, rfl, rfl, (inL 245 (by decide +kernel) rfl), (inL 246 (by decide +kernel) rfl), (inL 83 (by decide +kernel) rfl), tyX1_ok, by rfl⟩
theorem pfX1_11 : PF RX1 11 1 0 (.array .int) := ⟨_, rfl, by decide, (inL 251 (by decide +kernel) rfl), rfl, rfl, by decide +kernel⟩
theorem pfX1_15 : PF RX1 15 1 1 (.array .int) := ⟨_, rfl, by decide, (inL 252 (by decide +kernel) rfl), rfl, rfl, by decide +kernel⟩
theorem pfX1_18 : PF RX1 18 1 2 (.array .int) := ⟨_, rfl, by decide, (inL 253 (by decide +kernel) rfl), rfl, rfl, by decide +kernel⟩
theorem pfX1_21 : PF RX1 21 1 3 (.array .int) := ⟨_, rfl, by decide, (inL 254 (by decide +kernel) rfl), rfl, rfl, by decide +kernel⟩
theorem pfX1_32 : PF RX1 32 1 6 (.array .int) := ⟨_, rfl, by decide, (inL 258 (by decide +kernel) rfl), rfl, rfl, by decide +kernel⟩
theorem miX6 : MI mX6_init := ⟨(inL 278 (by decide +kernel) rfl), (inL 84 (by decide +kernel) rfl), (inL 279 (by decide +kernel) rfl), rfl, rfl, ⟨by decide +kernel, by decide +kernel, by decide +kernel⟩⟩
theorem obX6 : Cond.methodLink RX6 3 Lib.objectInit ∈ wsG := (inL 280 (by decide +kernel) rfl)
abbrev d0_X6 : List Value := [.null, .int (iI 0), .int (iI 0)]
set_option maxRecDepth 20000 in
theorem mnX6 : MN RX10 82 6 d0_X6 3 := ⟨_, tyX6, rfl, rfl, (inL 275 (by decide +kernel) rfl), (inL 276 (by decide +kernel) rfl), (inL 84 (by decide +kernel) rfl), tyX6_ok, by rfl⟩
theorem pfX6_9 : PF RX6 9 6 0 (.array .int) := ⟨_, rfl, by decide, (inL 281 (by decide +kernel) rfl), rfl, rfl, by decide +kernel⟩
theorem miX2 : MI mX2_init := ⟨(inL 295 (by decide +kernel) rfl), (inL 85 (by decide +kernel) rfl), (inL 296 (by decide +kernel) rfl), rfl, rfl, ⟨by decide +kernel, by decide +kernel, by decide +kernel⟩⟩
theorem obX2 : Cond.methodLink RX2 1 Lib.objectInit ∈ wsG := (inL 297 (by decide +kernel) rfl)
abbrev d0_X2 : List Value := [.long 0]
set_option maxRecDepth 20000 in
theorem mnX2 : MN RX10 89 2 d0_X2 1 := ⟨_, tyX2, rfl, rfl, (inL 292 (by decide +kernel) rfl), (inL 293 (by decide +kernel) rfl), (inL 85 (by decide +kernel) rfl), tyX2_ok, by rfl⟩
theorem miX8 : MI mX8_init := ⟨(inL 305 (by decide +kernel) rfl), (inL 86 (by decide +kernel) rfl), (inL 306 (by decide +kernel) rfl), rfl, rfl, ⟨by decide +kernel, by decide +kernel, by decide +kernel⟩⟩
theorem obX8 : Cond.methodLink RX8 1 Lib.objectInit ∈ wsG := (inL 307 (by decide +kernel) rfl)
abbrev d0_X8 : List Value := [.null, .int (iI 0), .null, .int (iI 0)]
set_option maxRecDepth 20000 in
theorem mnX8 : MN RX10 30 8 d0_X8 4 := ⟨_, tyX8, rfl, rfl, (inL 158 (by decide +kernel) rfl), (inL 303 (by decide +kernel) rfl), (inL 86 (by decide +kernel) rfl), tyX8_ok, by rfl⟩
theorem pfX8_9 : PF RX8 9 8 0 (.array .int) := ⟨_, rfl, by decide, (inL 308 (by decide +kernel) rfl), rfl, rfl, by decide +kernel⟩
theorem pfX8_19 : PF RX8 19 8 2 (.array .int) := ⟨_, rfl, by decide, (inL 310 (by decide +kernel) rfl), rfl, rfl, by decide +kernel⟩
theorem miX10 : MI mX10_init := ⟨(inL 104 (by decide +kernel) rfl), (inL 76 (by decide +kernel) rfl), (inL 105 (by decide +kernel) rfl), rfl, rfl, ⟨by decide +kernel, by decide +kernel, by decide +kernel⟩⟩
theorem obX10 : Cond.methodLink RX10 1 Lib.objectInit ∈ wsG := (inL 106 (by decide +kernel) rfl)
abbrev d0_X10 : List Value := [.null, .null, .null, .null, .int (iI 0), .int (iI 0), .null, .null, .null, .null, .null, .int (iI 0), .null, .null, .null, .null, .null]
set_option maxRecDepth 20000 in
theorem mnX10 : MN RL 8 10 d0_X10 17 := ⟨_, tyX10, rfl, rfl, (inL 101 (by decide +kernel) rfl), (inL 102 (by decide +kernel) rfl), (inL 76 (by decide +kernel) rfl), tyX10_ok, by rfl⟩
theorem pfX10_10 : PF RX10 10 10 0 (.object "RockingTable$Tape") := ⟨_, rfl, by decide, (inL 321 (by decide +kernel) rfl), rfl, rfl, by decide +kernel⟩
theorem pfX10_19 : PF RX10 19 10 1 (.object "RockingTable$GardenReader") := ⟨_, rfl, by decide, (inL 322 (by decide +kernel) rfl), rfl, rfl, by decide +kernel⟩
theorem pfX10_26 : PF RX10 26 10 2 (.object "RockingTable$WishReader") := ⟨_, rfl, by decide, (inL 323 (by decide +kernel) rfl), rfl, rfl, by decide +kernel⟩
theorem pfX10_32 : PF RX10 32 10 3 (.array (.object RX8)) := ⟨_, rfl, by decide, (inL 324 (by decide +kernel) rfl), rfl, rfl, by decide +kernel⟩
theorem pfX10_56 : PF RX10 56 10 8 (.object "RockingTable$Rocked") := ⟨_, rfl, by decide, (inL 329 (by decide +kernel) rfl), rfl, rfl, by decide +kernel⟩
theorem pfX10_63 : PF RX10 63 10 9 (.object "RockingTable$Acts") := ⟨_, rfl, by decide, (inL 330 (by decide +kernel) rfl), rfl, rfl, by decide +kernel⟩
theorem pfX10_67 : PF RX10 67 10 10 (.array .int) := ⟨_, rfl, by decide, (inL 331 (by decide +kernel) rfl), rfl, rfl, by decide +kernel⟩
theorem pfX10_78 : PF RX10 78 10 12 (.object "RockingTable$Cards") := ⟨_, rfl, by decide, (inL 333 (by decide +kernel) rfl), rfl, rfl, by decide +kernel⟩
theorem pfX10_85 : PF RX10 85 10 13 (.object "RockingTable$Round") := ⟨_, rfl, by decide, (inL 334 (by decide +kernel) rfl), rfl, rfl, by decide +kernel⟩
theorem pfX10_92 : PF RX10 92 10 14 (.object "RockingTable$Dice") := ⟨_, rfl, by decide, (inL 335 (by decide +kernel) rfl), rfl, rfl, by decide +kernel⟩
theorem pfX10_96 : PF RX10 96 10 15 (.array .int) := ⟨_, rfl, by decide, (inL 336 (by decide +kernel) rfl), rfl, rfl, by decide +kernel⟩
theorem pfX10_99 : PF RX10 99 10 16 (.array .int) := ⟨_, rfl, by decide, (inL 337 (by decide +kernel) rfl), rfl, rfl, by decide +kernel⟩
theorem miX11 : MI mX11_init := ⟨(inL 1098 (by decide +kernel) rfl), (inL 87 (by decide +kernel) rfl), (inL 1099 (by decide +kernel) rfl), rfl, rfl, ⟨by decide +kernel, by decide +kernel, by decide +kernel⟩⟩
theorem obX11 : Cond.methodLink RX11 1 Lib.objectInit ∈ wsG := (inL 1100 (by decide +kernel) rfl)
abbrev d0_X11 : List Value := [.int (iI 0), .null, .null, .null, .null, .null, .int (iI 0), .int (iI 0), .int (iI 0), .int (iI 0), .int (iI 0), .int (iI 0), .int (iI 0), .int (iI 0), .int (iI 0), .null, .null, .int (iI 0), .null, .null, .null, .null, .null, .null, .int (iI 0), .int (iI 0), .int (iI 0), .int (iI 0), .int (iI 0), .int (iI 0), .int (iI 0), .int (iI 0), .null, .null, .null, .int (iI 0), .long 0, .null, .null, .int (iI 0), .null, .null, .int (iI 0), .null, .null, .int (iI 0), .int (iI 0), .null, .int (iI 0), .null, .null, .int (iI 0)]
set_option maxRecDepth 20000 in
theorem mnX11 : MN RL 16 11 d0_X11 52 := ⟨_, tyX11, rfl, rfl, (inL 1095 (by decide +kernel) rfl), (inL 1096 (by decide +kernel) rfl), (inL 87 (by decide +kernel) rfl), tyX11_ok, by rfl⟩
theorem pfX11_9 : PF RX11 9 11 1 (.array .byte) := ⟨_, rfl, by decide, (inL 1104 (by decide +kernel) rfl), rfl, rfl, by decide +kernel⟩
theorem pfX11_13 : PF RX11 13 11 2 (.array .byte) := ⟨_, rfl, by decide, (inL 1105 (by decide +kernel) rfl), rfl, rfl, by decide +kernel⟩
theorem pfX11_16 : PF RX11 16 11 3 (.array .int) := ⟨_, rfl, by decide, (inL 1106 (by decide +kernel) rfl), rfl, rfl, by decide +kernel⟩
theorem pfX11_20 : PF RX11 20 11 4 (.array .int) := ⟨_, rfl, by decide, (inL 1107 (by decide +kernel) rfl), rfl, rfl, by decide +kernel⟩
theorem pfX11_28 : PF RX11 28 11 15 (.object "java/lang/String") := ⟨_, rfl, by decide, (inL 1118 (by decide +kernel) rfl), rfl, rfl, by decide +kernel⟩
theorem pfX11_34 : PF RX11 34 11 16 (.object "java/lang/String") := ⟨_, rfl, by decide, (inL 1119 (by decide +kernel) rfl), rfl, rfl, by decide +kernel⟩
theorem pfX11_37 : PF RX11 37 11 18 (.array .int) := ⟨_, rfl, by decide, (inL 1121 (by decide +kernel) rfl), rfl, rfl, by decide +kernel⟩
theorem pfX11_40 : PF RX11 40 11 19 (.array .int) := ⟨_, rfl, by decide, (inL 1122 (by decide +kernel) rfl), rfl, rfl, by decide +kernel⟩
theorem pfX11_43 : PF RX11 43 11 20 (.array .int) := ⟨_, rfl, by decide, (inL 1123 (by decide +kernel) rfl), rfl, rfl, by decide +kernel⟩
theorem pfX11_46 : PF RX11 46 11 21 (.array .int) := ⟨_, rfl, by decide, (inL 1124 (by decide +kernel) rfl), rfl, rfl, by decide +kernel⟩
theorem pfX11_49 : PF RX11 49 11 22 (.array .int) := ⟨_, rfl, by decide, (inL 1125 (by decide +kernel) rfl), rfl, rfl, by decide +kernel⟩
theorem pfX11_52 : PF RX11 52 11 23 (.array .int) := ⟨_, rfl, by decide, (inL 1126 (by decide +kernel) rfl), rfl, rfl, by decide +kernel⟩
theorem pfX11_59 : PF RX11 59 11 32 (.array .int) := ⟨_, rfl, by decide, (inL 1135 (by decide +kernel) rfl), rfl, rfl, by decide +kernel⟩
theorem pfX11_62 : PF RX11 62 11 33 (.array .int) := ⟨_, rfl, by decide, (inL 1136 (by decide +kernel) rfl), rfl, rfl, by decide +kernel⟩
theorem pfX11_65 : PF RX11 65 11 34 (.array .int) := ⟨_, rfl, by decide, (inL 1137 (by decide +kernel) rfl), rfl, rfl, by decide +kernel⟩
theorem pfX11_68 : PF RX11 68 11 37 (.array .int) := ⟨_, rfl, by decide, (inL 1140 (by decide +kernel) rfl), rfl, rfl, by decide +kernel⟩
theorem pfX11_71 : PF RX11 71 11 38 (.array .int) := ⟨_, rfl, by decide, (inL 1141 (by decide +kernel) rfl), rfl, rfl, by decide +kernel⟩
theorem pfX11_74 : PF RX11 74 11 40 (.array .int) := ⟨_, rfl, by decide, (inL 1143 (by decide +kernel) rfl), rfl, rfl, by decide +kernel⟩
theorem pfX11_77 : PF RX11 77 11 41 (.array .int) := ⟨_, rfl, by decide, (inL 1144 (by decide +kernel) rfl), rfl, rfl, by decide +kernel⟩
theorem pfX11_80 : PF RX11 80 11 43 (.array .int) := ⟨_, rfl, by decide, (inL 1146 (by decide +kernel) rfl), rfl, rfl, by decide +kernel⟩
theorem pfX11_83 : PF RX11 83 11 44 (.array .int) := ⟨_, rfl, by decide, (inL 1147 (by decide +kernel) rfl), rfl, rfl, by decide +kernel⟩
theorem pfX11_86 : PF RX11 86 11 47 (.array .int) := ⟨_, rfl, by decide, (inL 1150 (by decide +kernel) rfl), rfl, rfl, by decide +kernel⟩
theorem pfX11_89 : PF RX11 89 11 49 (.array .int) := ⟨_, rfl, by decide, (inL 1152 (by decide +kernel) rfl), rfl, rfl, by decide +kernel⟩
theorem pfX11_92 : PF RX11 92 11 50 (.array .int) := ⟨_, rfl, by decide, (inL 1153 (by decide +kernel) rfl), rfl, rfl, by decide +kernel⟩
theorem kaW : Cond.classLink RX10 30 RX8 ∈ wsG := (inL 158 (by decide +kernel) rfl)
/-- what X7 makes -/
def wf_X7 (X : Cx) (b : Nat) (qs : List Nat) : va_W := [
  (b, .inr (7, [.ref (qs.getD 0 0), .int (iI 0), .int (iI 0)])),
  (qs.getD 0 0, .inl (X.2.2.1 0, 160, .inl (fun _ => iI 0)))]
def rmC_X7 : Room := { frames := 2, cells := 1, slots := 160, locals := 80 }
set_option maxRecDepth 20000 in
theorem S_X7_init {X : Cx} (b : Nat) : SpecN X mX7_init rmC_X7 1 160 (.inr (7, d0_X7)) b (wf_X7 X b) := by
  refine specN_wn (Nat.le_of_ble_eq_true rfl) (by decide +kernel) ?_
  refine wn_aload_n dX7_init_0 rfl ?_
  refine wn_objInit dX7_init_1 obX7 (Nat.le_of_ble_eq_true rfl) (Nat.le_of_ble_eq_true rfl) (Nat.le_of_ble_eq_true rfl) ?_
  refine wn_aload_n dX7_init_4 rfl ?_
  refine wn_sipush dX7_init_5 (by decide) ?_
  refine wn_newI dX7_init_8 (by decide) (N := 160) rfl (Nat.le_of_ble_eq_true rfl) (Nat.le_of_ble_eq_true rfl) (fun a1 => ?_)
  refine wn_putF (q0 := 0) dX7_init_10 rfl pfX7_11 rfl rfl rfl (Nat.le_of_ble_eq_true rfl) ?_
  refine wn_aload_n dX7_init_13 rfl ?_
  refine wn_iconst dX7_init_14 ?_
  refine wn_put (q0 := 0) dX7_init_15 plX7_15 rfl rfl rfl (Nat.le_of_ble_eq_true rfl) ?_
  refine wn_aload_n dX7_init_18 rfl ?_
  refine wn_iconst dX7_init_19 ?_
  refine wn_put (q0 := 0) dX7_init_20 plX7_19 rfl rfl rfl (Nat.le_of_ble_eq_true rfl) ?_
  exact wn_vret dX7_init_23 rfl (Nat.le_of_ble_eq_true rfl) (Nat.le_of_ble_eq_true rfl) [a1] rfl
/-- what X4 makes -/
def wf_X4 (X : Cx) (b : Nat) (qs : List Nat) : va_W := [
  (b, .inr (4, [.ref (qs.getD 0 0), .int (iI 0)])),
  (qs.getD 0 0, .inl (X.2.2.1 0, 5, .inl (fun _ => iI 0)))]
def rmC_X4 : Room := { frames := 2, cells := 1, slots := 5, locals := 80 }
set_option maxRecDepth 20000 in
theorem S_X4_init {X : Cx} (b : Nat) : SpecN X mX4_init rmC_X4 1 5 (.inr (4, d0_X4)) b (wf_X4 X b) := by
  refine specN_wn (Nat.le_of_ble_eq_true rfl) (by decide +kernel) ?_
  refine wn_aload_n dX4_init_0 rfl ?_
  refine wn_objInit dX4_init_1 obX4 (Nat.le_of_ble_eq_true rfl) (Nat.le_of_ble_eq_true rfl) (Nat.le_of_ble_eq_true rfl) ?_
  refine wn_aload_n dX4_init_4 rfl ?_
  refine wn_iconst dX4_init_5 ?_
  refine wn_newI dX4_init_6 (by decide) (N := 5) rfl (Nat.le_of_ble_eq_true rfl) (Nat.le_of_ble_eq_true rfl) (fun a1 => ?_)
  refine wn_putF (q0 := 0) dX4_init_8 rfl pfX4_9 rfl rfl rfl (Nat.le_of_ble_eq_true rfl) ?_
  refine wn_aload_n dX4_init_11 rfl ?_
  refine wn_iconst dX4_init_12 ?_
  refine wn_put (q0 := 0) dX4_init_13 plX4_15 rfl rfl rfl (Nat.le_of_ble_eq_true rfl) ?_
  exact wn_vret dX4_init_16 rfl (Nat.le_of_ble_eq_true rfl) (Nat.le_of_ble_eq_true rfl) [a1] rfl
/-- what X9 makes -/
def wf_X9 (X : Cx) (b : Nat) (qs : List Nat) : va_W := [
  (b, .inr (9, [.ref (qs.getD 0 0), .int (iI 0)])),
  (qs.getD 0 0, .inl (X.2.2.1 0, 160, .inl (fun _ => iI 0)))]
def rmC_X9 : Room := { frames := 2, cells := 1, slots := 160, locals := 80 }
set_option maxRecDepth 20000 in
theorem S_X9_init {X : Cx} (b : Nat) : SpecN X mX9_init rmC_X9 1 160 (.inr (9, d0_X9)) b (wf_X9 X b) := by
  refine specN_wn (Nat.le_of_ble_eq_true rfl) (by decide +kernel) ?_
  refine wn_aload_n dX9_init_0 rfl ?_
  refine wn_objInit dX9_init_1 obX9 (Nat.le_of_ble_eq_true rfl) (Nat.le_of_ble_eq_true rfl) (Nat.le_of_ble_eq_true rfl) ?_
  refine wn_aload_n dX9_init_4 rfl ?_
  refine wn_sipush dX9_init_5 (by decide) ?_
  refine wn_newI dX9_init_8 (by decide) (N := 160) rfl (Nat.le_of_ble_eq_true rfl) (Nat.le_of_ble_eq_true rfl) (fun a1 => ?_)
  refine wn_putF (q0 := 0) dX9_init_10 rfl pfX9_11 rfl rfl rfl (Nat.le_of_ble_eq_true rfl) ?_
  refine wn_aload_n dX9_init_13 rfl ?_
  refine wn_iconst dX9_init_14 ?_
  refine wn_put (q0 := 0) dX9_init_15 plX9_17 rfl rfl rfl (Nat.le_of_ble_eq_true rfl) ?_
  exact wn_vret dX9_init_18 rfl (Nat.le_of_ble_eq_true rfl) (Nat.le_of_ble_eq_true rfl) [a1] rfl
/-- what X3 makes -/
def wf_X3 (X : Cx) (b : Nat) (qs : List Nat) : va_W := [
  (b, .inr (3, [.ref (qs.getD 0 0), .ref (qs.getD 1 0), .ref (qs.getD 2 0), .ref (qs.getD 3 0), .int (iI 0), .int (iI 0), .int (iI 0)])),
  (qs.getD 0 0, .inl (X.2.2.1 0, 24, .inl (fun _ => iI 0))),
  (qs.getD 1 0, .inl (X.2.2.1 0, 4, .inl (fun _ => iI 0))),
  (qs.getD 2 0, .inl (X.2.2.1 0, 4, .inl (fun _ => iI 0))),
  (qs.getD 3 0, .inl (X.2.2.1 0, 4, .inl (fun _ => iI 0)))]
def rmC_X3 : Room := { frames := 2, cells := 4, slots := 36, locals := 80 }
set_option maxRecDepth 20000 in
theorem S_X3_init {X : Cx} (b : Nat) : SpecN X mX3_init rmC_X3 4 36 (.inr (3, d0_X3)) b (wf_X3 X b) := by
  refine specN_wn (Nat.le_of_ble_eq_true rfl) (by decide +kernel) ?_
  refine wn_aload_n dX3_init_0 rfl ?_
  refine wn_objInit dX3_init_1 obX3 (Nat.le_of_ble_eq_true rfl) (Nat.le_of_ble_eq_true rfl) (Nat.le_of_ble_eq_true rfl) ?_
  refine wn_aload_n dX3_init_4 rfl ?_
  refine wn_bipush dX3_init_5 (by decide) ?_
  refine wn_newI dX3_init_7 (by decide) (N := 24) rfl (Nat.le_of_ble_eq_true rfl) (Nat.le_of_ble_eq_true rfl) (fun a1 => ?_)
  refine wn_putF (q0 := 0) dX3_init_9 rfl pfX3_9 rfl rfl rfl (Nat.le_of_ble_eq_true rfl) ?_
  refine wn_aload_n dX3_init_12 rfl ?_
  refine wn_iconst dX3_init_13 ?_
  refine wn_newI dX3_init_14 (by decide) (N := 4) rfl (Nat.le_of_ble_eq_true rfl) (Nat.le_of_ble_eq_true rfl) (fun a2 => ?_)
  refine wn_putF (q0 := 0) dX3_init_16 rfl pfX3_15 rfl rfl rfl (Nat.le_of_ble_eq_true rfl) ?_
  refine wn_aload_n dX3_init_19 rfl ?_
  refine wn_iconst dX3_init_20 ?_
  refine wn_newI dX3_init_21 (by decide) (N := 4) rfl (Nat.le_of_ble_eq_true rfl) (Nat.le_of_ble_eq_true rfl) (fun a3 => ?_)
  refine wn_putF (q0 := 0) dX3_init_23 rfl pfX3_18 rfl rfl rfl (Nat.le_of_ble_eq_true rfl) ?_
  refine wn_aload_n dX3_init_26 rfl ?_
  refine wn_iconst dX3_init_27 ?_
  refine wn_newI dX3_init_28 (by decide) (N := 4) rfl (Nat.le_of_ble_eq_true rfl) (Nat.le_of_ble_eq_true rfl) (fun a4 => ?_)
  refine wn_putF (q0 := 0) dX3_init_30 rfl pfX3_21 rfl rfl rfl (Nat.le_of_ble_eq_true rfl) ?_
  refine wn_aload_n dX3_init_33 rfl ?_
  refine wn_iconst dX3_init_34 ?_
  refine wn_put (q0 := 0) dX3_init_35 plX3_24 rfl rfl rfl (Nat.le_of_ble_eq_true rfl) ?_
  refine wn_aload_n dX3_init_38 rfl ?_
  refine wn_iconst dX3_init_39 ?_
  refine wn_put (q0 := 0) dX3_init_40 plX3_28 rfl rfl rfl (Nat.le_of_ble_eq_true rfl) ?_
  refine wn_aload_n dX3_init_43 rfl ?_
  refine wn_iconst dX3_init_44 ?_
  refine wn_put (q0 := 0) dX3_init_45 plX3_31 rfl rfl rfl (Nat.le_of_ble_eq_true rfl) ?_
  exact wn_vret dX3_init_48 rfl (Nat.le_of_ble_eq_true rfl) (Nat.le_of_ble_eq_true rfl) [a1, a2, a3, a4] rfl
/-- what X5 makes -/
def wf_X5 (X : Cx) (b : Nat) (qs : List Nat) : va_W := [
  (b, .inr (5, [.ref (qs.getD 0 0), .ref (qs.getD 1 0), .int (iI 0), .int (iI 0), .int (iI 99)])),
  (qs.getD 0 0, .inl (X.2.2.1 0, 20, .inl (fun _ => iI 0))),
  (qs.getD 1 0, .inl (X.2.2.1 0, 20, .inl (fun _ => iI 0)))]
def rmC_X5 : Room := { frames := 2, cells := 2, slots := 40, locals := 80 }
set_option maxRecDepth 20000 in
theorem S_X5_init {X : Cx} (b : Nat) : SpecN X mX5_init rmC_X5 2 40 (.inr (5, d0_X5)) b (wf_X5 X b) := by
  refine specN_wn (Nat.le_of_ble_eq_true rfl) (by decide +kernel) ?_
  refine wn_aload_n dX5_init_0 rfl ?_
  refine wn_objInit dX5_init_1 obX5 (Nat.le_of_ble_eq_true rfl) (Nat.le_of_ble_eq_true rfl) (Nat.le_of_ble_eq_true rfl) ?_
  refine wn_aload_n dX5_init_4 rfl ?_
  refine wn_bipush dX5_init_5 (by decide) ?_
  refine wn_newI dX5_init_7 (by decide) (N := 20) rfl (Nat.le_of_ble_eq_true rfl) (Nat.le_of_ble_eq_true rfl) (fun a1 => ?_)
  refine wn_putF (q0 := 0) dX5_init_9 rfl pfX5_11 rfl rfl rfl (Nat.le_of_ble_eq_true rfl) ?_
  refine wn_aload_n dX5_init_12 rfl ?_
  refine wn_bipush dX5_init_13 (by decide) ?_
  refine wn_newI dX5_init_15 (by decide) (N := 20) rfl (Nat.le_of_ble_eq_true rfl) (Nat.le_of_ble_eq_true rfl) (fun a2 => ?_)
  refine wn_putF (q0 := 0) dX5_init_17 rfl pfX5_15 rfl rfl rfl (Nat.le_of_ble_eq_true rfl) ?_
  refine wn_aload_n dX5_init_20 rfl ?_
  refine wn_iconst dX5_init_21 ?_
  refine wn_put (q0 := 0) dX5_init_22 plX5_18 rfl rfl rfl (Nat.le_of_ble_eq_true rfl) ?_
  refine wn_aload_n dX5_init_25 rfl ?_
  refine wn_iconst dX5_init_26 ?_
  refine wn_put (q0 := 0) dX5_init_27 plX5_22 rfl rfl rfl (Nat.le_of_ble_eq_true rfl) ?_
  refine wn_aload_n dX5_init_30 rfl ?_
  refine wn_bipush dX5_init_31 (by decide) ?_
  refine wn_put (q0 := 0) dX5_init_33 plX5_25 rfl rfl rfl (Nat.le_of_ble_eq_true rfl) ?_
  exact wn_vret dX5_init_36 rfl (Nat.le_of_ble_eq_true rfl) (Nat.le_of_ble_eq_true rfl) [a1, a2] rfl
/-- what X0 makes -/
def wf_X0 (X : Cx) (b : Nat) (qs : List Nat) : va_W := [
  (b, .inr (0, [.ref (qs.getD 0 0), .int (iI 0), .int (iI 0)])),
  (qs.getD 0 0, .inl (X.2.2.1 0, 1120, .inl (fun _ => iI 0)))]
def rmC_X0 : Room := { frames := 2, cells := 1, slots := 1120, locals := 80 }
set_option maxRecDepth 20000 in
theorem S_X0_init {X : Cx} (b : Nat) : SpecN X mX0_init rmC_X0 1 1120 (.inr (0, d0_X0)) b (wf_X0 X b) := by
  refine specN_wn (Nat.le_of_ble_eq_true rfl) (by decide +kernel) ?_
  refine wn_aload_n dX0_init_0 rfl ?_
  refine wn_objInit dX0_init_1 obX0 (Nat.le_of_ble_eq_true rfl) (Nat.le_of_ble_eq_true rfl) (Nat.le_of_ble_eq_true rfl) ?_
  refine wn_aload_n dX0_init_4 rfl ?_
  refine wn_sipush dX0_init_5 (by decide) ?_
  refine wn_newI dX0_init_8 (by decide) (N := 1120) rfl (Nat.le_of_ble_eq_true rfl) (Nat.le_of_ble_eq_true rfl) (fun a1 => ?_)
  refine wn_putF (q0 := 0) dX0_init_10 rfl pfX0_11 rfl rfl rfl (Nat.le_of_ble_eq_true rfl) ?_
  refine wn_aload_n dX0_init_13 rfl ?_
  refine wn_iconst dX0_init_14 ?_
  refine wn_put (q0 := 0) dX0_init_15 plX0_15 rfl rfl rfl (Nat.le_of_ble_eq_true rfl) ?_
  refine wn_aload_n dX0_init_18 rfl ?_
  refine wn_iconst dX0_init_19 ?_
  refine wn_put (q0 := 0) dX0_init_20 plX0_19 rfl rfl rfl (Nat.le_of_ble_eq_true rfl) ?_
  exact wn_vret dX0_init_23 rfl (Nat.le_of_ble_eq_true rfl) (Nat.le_of_ble_eq_true rfl) [a1] rfl
/-- what X1 makes -/
def wf_X1 (X : Cx) (b : Nat) (qs : List Nat) : va_W := [
  (b, .inr (1, [.ref (qs.getD 0 0), .ref (qs.getD 1 0), .ref (qs.getD 2 0), .ref (qs.getD 3 0), .int (iI 0), .int (iI 0), .ref (qs.getD 4 0)])),
  (qs.getD 0 0, .inl (X.2.2.1 0, 721, .inl (fun _ => iI 0))),
  (qs.getD 1 0, .inl (X.2.2.1 0, 721, .inl (fun _ => iI 0))),
  (qs.getD 2 0, .inl (X.2.2.1 0, 721, .inl (fun _ => iI 0))),
  (qs.getD 3 0, .inl (X.2.2.1 0, 721, .inl (fun _ => iI 0))),
  (qs.getD 4 0, .inl (X.2.2.1 0, 4, .inl (fun _ => iI 0)))]
def rmC_X1 : Room := { frames := 2, cells := 5, slots := 2888, locals := 80 }
set_option maxRecDepth 20000 in
theorem S_X1_init {X : Cx} (b : Nat) : SpecN X mX1_init rmC_X1 5 2888 (.inr (1, d0_X1)) b (wf_X1 X b) := by
  refine specN_wn (Nat.le_of_ble_eq_true rfl) (by decide +kernel) ?_
  refine wn_aload_n dX1_init_0 rfl ?_
  refine wn_objInit dX1_init_1 obX1 (Nat.le_of_ble_eq_true rfl) (Nat.le_of_ble_eq_true rfl) (Nat.le_of_ble_eq_true rfl) ?_
  refine wn_aload_n dX1_init_4 rfl ?_
  refine wn_sipush dX1_init_5 (by decide) ?_
  refine wn_newI dX1_init_8 (by decide) (N := 721) rfl (Nat.le_of_ble_eq_true rfl) (Nat.le_of_ble_eq_true rfl) (fun a1 => ?_)
  refine wn_putF (q0 := 0) dX1_init_10 rfl pfX1_11 rfl rfl rfl (Nat.le_of_ble_eq_true rfl) ?_
  refine wn_aload_n dX1_init_13 rfl ?_
  refine wn_sipush dX1_init_14 (by decide) ?_
  refine wn_newI dX1_init_17 (by decide) (N := 721) rfl (Nat.le_of_ble_eq_true rfl) (Nat.le_of_ble_eq_true rfl) (fun a2 => ?_)
  refine wn_putF (q0 := 0) dX1_init_19 rfl pfX1_15 rfl rfl rfl (Nat.le_of_ble_eq_true rfl) ?_
  refine wn_aload_n dX1_init_22 rfl ?_
  refine wn_sipush dX1_init_23 (by decide) ?_
  refine wn_newI dX1_init_26 (by decide) (N := 721) rfl (Nat.le_of_ble_eq_true rfl) (Nat.le_of_ble_eq_true rfl) (fun a3 => ?_)
  refine wn_putF (q0 := 0) dX1_init_28 rfl pfX1_18 rfl rfl rfl (Nat.le_of_ble_eq_true rfl) ?_
  refine wn_aload_n dX1_init_31 rfl ?_
  refine wn_sipush dX1_init_32 (by decide) ?_
  refine wn_newI dX1_init_35 (by decide) (N := 721) rfl (Nat.le_of_ble_eq_true rfl) (Nat.le_of_ble_eq_true rfl) (fun a4 => ?_)
  refine wn_putF (q0 := 0) dX1_init_37 rfl pfX1_21 rfl rfl rfl (Nat.le_of_ble_eq_true rfl) ?_
  refine wn_aload_n dX1_init_40 rfl ?_
  refine wn_iconst dX1_init_41 ?_
  refine wn_put (q0 := 0) dX1_init_42 plX1_24 rfl rfl rfl (Nat.le_of_ble_eq_true rfl) ?_
  refine wn_aload_n dX1_init_45 rfl ?_
  refine wn_iconst dX1_init_46 ?_
  refine wn_put (q0 := 0) dX1_init_47 plX1_28 rfl rfl rfl (Nat.le_of_ble_eq_true rfl) ?_
  refine wn_aload_n dX1_init_50 rfl ?_
  refine wn_iconst dX1_init_51 ?_
  refine wn_newI dX1_init_52 (by decide) (N := 4) rfl (Nat.le_of_ble_eq_true rfl) (Nat.le_of_ble_eq_true rfl) (fun a5 => ?_)
  refine wn_putF (q0 := 0) dX1_init_54 rfl pfX1_32 rfl rfl rfl (Nat.le_of_ble_eq_true rfl) ?_
  exact wn_vret dX1_init_57 rfl (Nat.le_of_ble_eq_true rfl) (Nat.le_of_ble_eq_true rfl) [a1, a2, a3, a4, a5] rfl
/-- what X6 makes -/
def wf_X6 (X : Cx) (b : Nat) (qs : List Nat) : va_W := [
  (b, .inr (6, [.ref (qs.getD 0 0), .int (iI 0), .int (iI 0)])),
  (qs.getD 0 0, .inl (X.2.2.1 0, 24, .inl (fun _ => iI 0)))]
def rmC_X6 : Room := { frames := 2, cells := 1, slots := 24, locals := 80 }
set_option maxRecDepth 20000 in
theorem S_X6_init {X : Cx} (b : Nat) : SpecN X mX6_init rmC_X6 1 24 (.inr (6, d0_X6)) b (wf_X6 X b) := by
  refine specN_wn (Nat.le_of_ble_eq_true rfl) (by decide +kernel) ?_
  refine wn_aload_n dX6_init_0 rfl ?_
  refine wn_objInit dX6_init_1 obX6 (Nat.le_of_ble_eq_true rfl) (Nat.le_of_ble_eq_true rfl) (Nat.le_of_ble_eq_true rfl) ?_
  refine wn_aload_n dX6_init_4 rfl ?_
  refine wn_bipush dX6_init_5 (by decide) ?_
  refine wn_newI dX6_init_7 (by decide) (N := 24) rfl (Nat.le_of_ble_eq_true rfl) (Nat.le_of_ble_eq_true rfl) (fun a1 => ?_)
  refine wn_putF (q0 := 0) dX6_init_9 rfl pfX6_9 rfl rfl rfl (Nat.le_of_ble_eq_true rfl) ?_
  refine wn_aload_n dX6_init_12 rfl ?_
  refine wn_iconst dX6_init_13 ?_
  refine wn_put (q0 := 0) dX6_init_14 plX6_15 rfl rfl rfl (Nat.le_of_ble_eq_true rfl) ?_
  refine wn_aload_n dX6_init_17 rfl ?_
  refine wn_iconst dX6_init_18 ?_
  refine wn_put (q0 := 0) dX6_init_19 plX6_19 rfl rfl rfl (Nat.le_of_ble_eq_true rfl) ?_
  exact wn_vret dX6_init_22 rfl (Nat.le_of_ble_eq_true rfl) (Nat.le_of_ble_eq_true rfl) [a1] rfl
/-- what X2 makes -/
def wf_X2 (X : Cx) (b : Nat) (qs : List Nat) : va_W := [
  (b, .inr (2, [.long 0]))]
def rmC_X2 : Room := { frames := 2, cells := 0, slots := 0, locals := 80 }
set_option maxRecDepth 20000 in
theorem S_X2_init {X : Cx} (b : Nat) : SpecN X mX2_init rmC_X2 0 0 (.inr (2, d0_X2)) b (wf_X2 X b) := by
  refine specN_wn (Nat.le_of_ble_eq_true rfl) (by decide +kernel) ?_
  refine wn_aload_n dX2_init_0 rfl ?_
  refine wn_objInit dX2_init_1 obX2 (Nat.le_of_ble_eq_true rfl) (Nat.le_of_ble_eq_true rfl) (Nat.le_of_ble_eq_true rfl) ?_
  refine wn_aload_n dX2_init_4 rfl ?_
  refine wn_lconst dX2_init_5 rfl ?_
  refine wn_put (q0 := 0) dX2_init_6 plX2_7 rfl rfl rfl (Nat.le_of_ble_eq_true rfl) ?_
  exact wn_vret dX2_init_9 rfl (Nat.le_of_ble_eq_true rfl) (Nat.le_of_ble_eq_true rfl) [] rfl
/-- what X8 makes -/
def wf_X8 (X : Cx) (b : Nat) (qs : List Nat) : va_W := [
  (b, .inr (8, [.ref (qs.getD 0 0), .int (iI 0), .ref (qs.getD 1 0), .int (iI 0)])),
  (qs.getD 0 0, .inl (X.2.2.1 0, 160, .inl (fun _ => iI 0))),
  (qs.getD 1 0, .inl (X.2.2.1 0, 24, .inl (fun _ => iI 0)))]
def rmC_X8 : Room := { frames := 2, cells := 2, slots := 184, locals := 80 }
set_option maxRecDepth 20000 in
theorem S_X8_init {X : Cx} (b : Nat) : SpecN X mX8_init rmC_X8 2 184 (.inr (8, d0_X8)) b (wf_X8 X b) := by
  refine specN_wn (Nat.le_of_ble_eq_true rfl) (by decide +kernel) ?_
  refine wn_aload_n dX8_init_0 rfl ?_
  refine wn_objInit dX8_init_1 obX8 (Nat.le_of_ble_eq_true rfl) (Nat.le_of_ble_eq_true rfl) (Nat.le_of_ble_eq_true rfl) ?_
  refine wn_aload_n dX8_init_4 rfl ?_
  refine wn_sipush dX8_init_5 (by decide) ?_
  refine wn_newI dX8_init_8 (by decide) (N := 160) rfl (Nat.le_of_ble_eq_true rfl) (Nat.le_of_ble_eq_true rfl) (fun a1 => ?_)
  refine wn_putF (q0 := 0) dX8_init_10 rfl pfX8_9 rfl rfl rfl (Nat.le_of_ble_eq_true rfl) ?_
  refine wn_aload_n dX8_init_13 rfl ?_
  refine wn_iconst dX8_init_14 ?_
  refine wn_put (q0 := 0) dX8_init_15 plX8_15 rfl rfl rfl (Nat.le_of_ble_eq_true rfl) ?_
  refine wn_aload_n dX8_init_18 rfl ?_
  refine wn_bipush dX8_init_19 (by decide) ?_
  refine wn_newI dX8_init_21 (by decide) (N := 24) rfl (Nat.le_of_ble_eq_true rfl) (Nat.le_of_ble_eq_true rfl) (fun a2 => ?_)
  refine wn_putF (q0 := 0) dX8_init_23 rfl pfX8_19 rfl rfl rfl (Nat.le_of_ble_eq_true rfl) ?_
  refine wn_aload_n dX8_init_26 rfl ?_
  refine wn_iconst dX8_init_27 ?_
  refine wn_put (q0 := 0) dX8_init_28 plX8_22 rfl rfl rfl (Nat.le_of_ble_eq_true rfl) ?_
  exact wn_vret dX8_init_31 rfl (Nat.le_of_ble_eq_true rfl) (Nat.le_of_ble_eq_true rfl) [a1, a2] rfl
