/-! the constructors -/
theorem waI : Cond.arrayClass .int ∈ tblG := tblG_at 91 (by decide +kernel) (by decide +kernel)
theorem waL : Cond.arrayClass .long ∈ tblG := tblG_at 206 (by decide +kernel) (by decide +kernel)
theorem waZ : Cond.arrayClass .boolean ∈ tblG := tblG_at 1050 (by decide +kernel) (by decide +kernel)
def mX0_init : Mt := (yX0_init, cX0_init, 1, none, { frames := 1, cells := 3, slots := 63, locals := 20 })
theorem zX0_init : Zi mX0_init 0 3 63 := ⟨tblG_at 243 (by decide +kernel) (by decide +kernel), tblG_at 64 (by decide +kernel) (by decide +kernel), ⟨by decide +kernel, by decide +kernel, by decide +kernel⟩, rfl, rfl, tblG_at 242 (by decide +kernel) (by decide +kernel), rfl, rfl⟩
theorem eX0_init_0 : Dc mX0_init 0 (.aload_n 0) 1 1 := ⟨by decide +kernel, rfl⟩
theorem eX0_init_1 : Dc mX0_init 1 (.invokespecial 3) 3 4 := ⟨by decide +kernel, rfl⟩
theorem eX0_init_4 : Dc mX0_init 4 (.aload_n 0) 1 5 := ⟨by decide +kernel, rfl⟩
theorem eX0_init_5 : Dc mX0_init 5 (.bipush 21) 2 7 := ⟨by decide +kernel, rfl⟩
theorem eX0_init_7 : Dc mX0_init 7 (.newarray .int) 2 9 := ⟨by decide +kernel, rfl⟩
theorem eX0_init_9 : Dc mX0_init 9 (.putfield 11) 3 12 := ⟨by decide +kernel, rfl⟩
theorem eX0_init_12 : Dc mX0_init 12 (.aload_n 0) 1 13 := ⟨by decide +kernel, rfl⟩
theorem eX0_init_13 : Dc mX0_init 13 (.bipush 21) 2 15 := ⟨by decide +kernel, rfl⟩
theorem eX0_init_15 : Dc mX0_init 15 (.newarray .long) 2 17 := ⟨by decide +kernel, rfl⟩
theorem eX0_init_17 : Dc mX0_init 17 (.putfield 15) 3 20 := ⟨by decide +kernel, rfl⟩
theorem eX0_init_20 : Dc mX0_init 20 (.aload_n 0) 1 21 := ⟨by decide +kernel, rfl⟩
theorem eX0_init_21 : Dc mX0_init 21 (.bipush 21) 2 23 := ⟨by decide +kernel, rfl⟩
theorem eX0_init_23 : Dc mX0_init 23 (.newarray .long) 2 25 := ⟨by decide +kernel, rfl⟩
theorem eX0_init_25 : Dc mX0_init 25 (.putfield 19) 3 28 := ⟨by decide +kernel, rfl⟩
theorem eX0_init_28 : Dc mX0_init 28 (.return_) 1 29 := ⟨by decide +kernel, rfl⟩
def mX1_init : Mt := (yX1_init, cX1_init, 1, none, { frames := 1, cells := 1, slots := 50, locals := 20 })
theorem zX1_init : Zi mX1_init 0 1 50 := ⟨tblG_at 140 (by decide +kernel) (by decide +kernel), tblG_at 58 (by decide +kernel) (by decide +kernel), ⟨by decide +kernel, by decide +kernel, by decide +kernel⟩, rfl, rfl, tblG_at 139 (by decide +kernel) (by decide +kernel), rfl, rfl⟩
theorem eX1_init_0 : Dc mX1_init 0 (.aload_n 0) 1 1 := ⟨by decide +kernel, rfl⟩
theorem eX1_init_1 : Dc mX1_init 1 (.invokespecial 3) 3 4 := ⟨by decide +kernel, rfl⟩
theorem eX1_init_4 : Dc mX1_init 4 (.aload_n 0) 1 5 := ⟨by decide +kernel, rfl⟩
theorem eX1_init_5 : Dc mX1_init 5 (.bipush 50) 2 7 := ⟨by decide +kernel, rfl⟩
theorem eX1_init_7 : Dc mX1_init 7 (.newarray .int) 2 9 := ⟨by decide +kernel, rfl⟩
theorem eX1_init_9 : Dc mX1_init 9 (.putfield 11) 3 12 := ⟨by decide +kernel, rfl⟩
theorem eX1_init_12 : Dc mX1_init 12 (.return_) 1 13 := ⟨by decide +kernel, rfl⟩
def mX2_init : Mt := (yX2_init, cX2_init, 1, none, { frames := 1, cells := 1, slots := 127, locals := 20 })
theorem zX2_init : Zi mX2_init 0 1 127 := ⟨tblG_at 227 (by decide +kernel) (by decide +kernel), tblG_at 63 (by decide +kernel) (by decide +kernel), ⟨by decide +kernel, by decide +kernel, by decide +kernel⟩, rfl, rfl, tblG_at 226 (by decide +kernel) (by decide +kernel), rfl, rfl⟩
theorem eX2_init_0 : Dc mX2_init 0 (.aload_n 0) 1 1 := ⟨by decide +kernel, rfl⟩
theorem eX2_init_1 : Dc mX2_init 1 (.invokespecial 3) 3 4 := ⟨by decide +kernel, rfl⟩
theorem eX2_init_4 : Dc mX2_init 4 (.aload_n 0) 1 5 := ⟨by decide +kernel, rfl⟩
theorem eX2_init_5 : Dc mX2_init 5 (.bipush 127) 2 7 := ⟨by decide +kernel, rfl⟩
theorem eX2_init_7 : Dc mX2_init 7 (.newarray .int) 2 9 := ⟨by decide +kernel, rfl⟩
theorem eX2_init_9 : Dc mX2_init 9 (.putfield 9) 3 12 := ⟨by decide +kernel, rfl⟩
theorem eX2_init_12 : Dc mX2_init 12 (.return_) 1 13 := ⟨by decide +kernel, rfl⟩
def mX3_init : Mt := (yX3_init, cX3_init, 1, none, { frames := 1, cells := 2, slots := 254, locals := 20 })
theorem zX3_init : Zi mX3_init 0 2 254 := ⟨tblG_at 211 (by decide +kernel) (by decide +kernel), tblG_at 62 (by decide +kernel) (by decide +kernel), ⟨by decide +kernel, by decide +kernel, by decide +kernel⟩, rfl, rfl, tblG_at 210 (by decide +kernel) (by decide +kernel), rfl, rfl⟩
theorem eX3_init_0 : Dc mX3_init 0 (.aload_n 0) 1 1 := ⟨by decide +kernel, rfl⟩
theorem eX3_init_1 : Dc mX3_init 1 (.invokespecial 3) 3 4 := ⟨by decide +kernel, rfl⟩
theorem eX3_init_4 : Dc mX3_init 4 (.aload_n 0) 1 5 := ⟨by decide +kernel, rfl⟩
theorem eX3_init_5 : Dc mX3_init 5 (.bipush 127) 2 7 := ⟨by decide +kernel, rfl⟩
theorem eX3_init_7 : Dc mX3_init 7 (.newarray .int) 2 9 := ⟨by decide +kernel, rfl⟩
theorem eX3_init_9 : Dc mX3_init 9 (.putfield 9) 3 12 := ⟨by decide +kernel, rfl⟩
theorem eX3_init_12 : Dc mX3_init 12 (.aload_n 0) 1 13 := ⟨by decide +kernel, rfl⟩
theorem eX3_init_13 : Dc mX3_init 13 (.bipush 127) 2 15 := ⟨by decide +kernel, rfl⟩
theorem eX3_init_15 : Dc mX3_init 15 (.newarray .int) 2 17 := ⟨by decide +kernel, rfl⟩
theorem eX3_init_17 : Dc mX3_init 17 (.putfield 15) 3 20 := ⟨by decide +kernel, rfl⟩
theorem eX3_init_20 : Dc mX3_init 20 (.return_) 1 21 := ⟨by decide +kernel, rfl⟩
def mX4_init : Mt := (yX4_init, cX4_init, 1, none, { frames := 1, cells := 1, slots := 8, locals := 20 })
theorem zX4_init : Zi mX4_init 0 1 8 := ⟨tblG_at 194 (by decide +kernel) (by decide +kernel), tblG_at 61 (by decide +kernel) (by decide +kernel), ⟨by decide +kernel, by decide +kernel, by decide +kernel⟩, rfl, rfl, tblG_at 193 (by decide +kernel) (by decide +kernel), rfl, rfl⟩
theorem eX4_init_0 : Dc mX4_init 0 (.aload_n 0) 1 1 := ⟨by decide +kernel, rfl⟩
theorem eX4_init_1 : Dc mX4_init 1 (.invokespecial 3) 3 4 := ⟨by decide +kernel, rfl⟩
theorem eX4_init_4 : Dc mX4_init 4 (.aload_n 0) 1 5 := ⟨by decide +kernel, rfl⟩
theorem eX4_init_5 : Dc mX4_init 5 (.bipush 8) 2 7 := ⟨by decide +kernel, rfl⟩
theorem eX4_init_7 : Dc mX4_init 7 (.newarray .long) 2 9 := ⟨by decide +kernel, rfl⟩
theorem eX4_init_9 : Dc mX4_init 9 (.putfield 9) 3 12 := ⟨by decide +kernel, rfl⟩
theorem eX4_init_12 : Dc mX4_init 12 (.return_) 1 13 := ⟨by decide +kernel, rfl⟩
def mX5_init : Mt := (yX5_init, cX5_init, 1, none, { frames := 1, cells := 1, slots := 3, locals := 20 })
theorem zX5_init : Zi mX5_init 0 1 3 := ⟨tblG_at 262 (by decide +kernel) (by decide +kernel), tblG_at 65 (by decide +kernel) (by decide +kernel), ⟨by decide +kernel, by decide +kernel, by decide +kernel⟩, rfl, rfl, tblG_at 261 (by decide +kernel) (by decide +kernel), rfl, rfl⟩
theorem eX5_init_0 : Dc mX5_init 0 (.aload_n 0) 1 1 := ⟨by decide +kernel, rfl⟩
theorem eX5_init_1 : Dc mX5_init 1 (.invokespecial 3) 3 4 := ⟨by decide +kernel, rfl⟩
theorem eX5_init_4 : Dc mX5_init 4 (.aload_n 0) 1 5 := ⟨by decide +kernel, rfl⟩
theorem eX5_init_5 : Dc mX5_init 5 (.iconst 3) 1 6 := ⟨by decide +kernel, rfl⟩
theorem eX5_init_6 : Dc mX5_init 6 (.newarray .int) 2 8 := ⟨by decide +kernel, rfl⟩
theorem eX5_init_8 : Dc mX5_init 8 (.putfield 11) 3 11 := ⟨by decide +kernel, rfl⟩
theorem eX5_init_11 : Dc mX5_init 11 (.return_) 1 12 := ⟨by decide +kernel, rfl⟩
def mX6_init : Mt := (yX6_init, cX6_init, 1, none, { frames := 1, cells := 2, slots := 12, locals := 20 })
theorem zX6_init : Zi mX6_init 0 2 12 := ⟨tblG_at 154 (by decide +kernel) (by decide +kernel), tblG_at 59 (by decide +kernel) (by decide +kernel), ⟨by decide +kernel, by decide +kernel, by decide +kernel⟩, rfl, rfl, tblG_at 153 (by decide +kernel) (by decide +kernel), rfl, rfl⟩
theorem eX6_init_0 : Dc mX6_init 0 (.aload_n 0) 1 1 := ⟨by decide +kernel, rfl⟩
theorem eX6_init_1 : Dc mX6_init 1 (.invokespecial 3) 3 4 := ⟨by decide +kernel, rfl⟩
theorem eX6_init_4 : Dc mX6_init 4 (.aload_n 0) 1 5 := ⟨by decide +kernel, rfl⟩
theorem eX6_init_5 : Dc mX6_init 5 (.bipush 6) 2 7 := ⟨by decide +kernel, rfl⟩
theorem eX6_init_7 : Dc mX6_init 7 (.newarray .int) 2 9 := ⟨by decide +kernel, rfl⟩
theorem eX6_init_9 : Dc mX6_init 9 (.putfield 9) 3 12 := ⟨by decide +kernel, rfl⟩
theorem eX6_init_12 : Dc mX6_init 12 (.aload_n 0) 1 13 := ⟨by decide +kernel, rfl⟩
theorem eX6_init_13 : Dc mX6_init 13 (.bipush 6) 2 15 := ⟨by decide +kernel, rfl⟩
theorem eX6_init_15 : Dc mX6_init 15 (.newarray .int) 2 17 := ⟨by decide +kernel, rfl⟩
theorem eX6_init_17 : Dc mX6_init 17 (.putfield 15) 3 20 := ⟨by decide +kernel, rfl⟩
theorem eX6_init_20 : Dc mX6_init 20 (.return_) 1 21 := ⟨by decide +kernel, rfl⟩
def mX7_init : Mt := (yX7_init, cX7_init, 2, none, { frames := 1, cells := 0, slots := 0, locals := 20 })
theorem zX7_init : Zi mX7_init 1 0 0 := ⟨tblG_at 124 (by decide +kernel) (by decide +kernel), tblG_at 57 (by decide +kernel) (by decide +kernel), ⟨by decide +kernel, by decide +kernel, by decide +kernel⟩, rfl, rfl, tblG_at 123 (by decide +kernel) (by decide +kernel), rfl, rfl⟩
theorem eX7_init_0 : Dc mX7_init 0 (.aload_n 0) 1 1 := ⟨by decide +kernel, rfl⟩
theorem eX7_init_1 : Dc mX7_init 1 (.invokespecial 3) 3 4 := ⟨by decide +kernel, rfl⟩
theorem eX7_init_4 : Dc mX7_init 4 (.aload_n 0) 1 5 := ⟨by decide +kernel, rfl⟩
theorem eX7_init_5 : Dc mX7_init 5 (.aload_n 1) 1 6 := ⟨by decide +kernel, rfl⟩
theorem eX7_init_6 : Dc mX7_init 6 (.putfield 9) 3 9 := ⟨by decide +kernel, rfl⟩
theorem eX7_init_9 : Dc mX7_init 9 (.return_) 1 10 := ⟨by decide +kernel, rfl⟩
def mX8_init : Mt := (yX8_init, cX8_init, 1, none, { frames := 1, cells := 1, slots := 120, locals := 20 })
theorem zX8_init : Zi mX8_init 0 1 120 := ⟨tblG_at 82 (by decide +kernel) (by decide +kernel), tblG_at 55 (by decide +kernel) (by decide +kernel), ⟨by decide +kernel, by decide +kernel, by decide +kernel⟩, rfl, rfl, tblG_at 81 (by decide +kernel) (by decide +kernel), rfl, rfl⟩
theorem eX8_init_0 : Dc mX8_init 0 (.aload_n 0) 1 1 := ⟨by decide +kernel, rfl⟩
theorem eX8_init_1 : Dc mX8_init 1 (.invokespecial 3) 3 4 := ⟨by decide +kernel, rfl⟩
theorem eX8_init_4 : Dc mX8_init 4 (.aload_n 0) 1 5 := ⟨by decide +kernel, rfl⟩
theorem eX8_init_5 : Dc mX8_init 5 (.bipush 120) 2 7 := ⟨by decide +kernel, rfl⟩
theorem eX8_init_7 : Dc mX8_init 7 (.newarray .int) 2 9 := ⟨by decide +kernel, rfl⟩
theorem eX8_init_9 : Dc mX8_init 9 (.putfield 9) 3 12 := ⟨by decide +kernel, rfl⟩
theorem eX8_init_12 : Dc mX8_init 12 (.return_) 1 13 := ⟨by decide +kernel, rfl⟩
def mX9_init : Mt := (yX9_init, cX9_init, 1, none, { frames := 2, cells := 6, slots := 37, locals := 40 })
theorem zX9_init : Zi mX9_init 0 6 37 := ⟨tblG_at 170 (by decide +kernel) (by decide +kernel), tblG_at 60 (by decide +kernel) (by decide +kernel), ⟨by decide +kernel, by decide +kernel, by decide +kernel⟩, rfl, rfl, tblG_at 169 (by decide +kernel) (by decide +kernel), rfl, rfl⟩
theorem eX9_init_0 : Dc mX9_init 0 (.aload_n 0) 1 1 := ⟨by decide +kernel, rfl⟩
theorem eX9_init_1 : Dc mX9_init 1 (.invokespecial 3) 3 4 := ⟨by decide +kernel, rfl⟩
theorem eX9_init_4 : Dc mX9_init 4 (.aload_n 0) 1 5 := ⟨by decide +kernel, rfl⟩
theorem eX9_init_5 : Dc mX9_init 5 (.new 9) 3 8 := ⟨by decide +kernel, rfl⟩
theorem eX9_init_8 : Dc mX9_init 8 (.dup) 1 9 := ⟨by decide +kernel, rfl⟩
theorem eX9_init_9 : Dc mX9_init 9 (.invokespecial 11) 3 12 := ⟨by decide +kernel, rfl⟩
theorem eX9_init_12 : Dc mX9_init 12 (.putfield 12) 3 15 := ⟨by decide +kernel, rfl⟩
theorem eX9_init_15 : Dc mX9_init 15 (.return_) 1 16 := ⟨by decide +kernel, rfl⟩
def mX10_init : Mt := (yX10_init, cX10_init, 1, none, { frames := 1, cells := 5, slots := 30, locals := 20 })
theorem zX10_init : Zi mX10_init 0 5 30 := ⟨tblG_at 96 (by decide +kernel) (by decide +kernel), tblG_at 56 (by decide +kernel) (by decide +kernel), ⟨by decide +kernel, by decide +kernel, by decide +kernel⟩, rfl, rfl, tblG_at 95 (by decide +kernel) (by decide +kernel), rfl, rfl⟩
theorem eX10_init_0 : Dc mX10_init 0 (.aload_n 0) 1 1 := ⟨by decide +kernel, rfl⟩
theorem eX10_init_1 : Dc mX10_init 1 (.invokespecial 3) 3 4 := ⟨by decide +kernel, rfl⟩
theorem eX10_init_4 : Dc mX10_init 4 (.aload_n 0) 1 5 := ⟨by decide +kernel, rfl⟩
theorem eX10_init_5 : Dc mX10_init 5 (.iconst 3) 1 6 := ⟨by decide +kernel, rfl⟩
theorem eX10_init_6 : Dc mX10_init 6 (.newarray .int) 2 8 := ⟨by decide +kernel, rfl⟩
theorem eX10_init_8 : Dc mX10_init 8 (.putfield 9) 3 11 := ⟨by decide +kernel, rfl⟩
theorem eX10_init_11 : Dc mX10_init 11 (.aload_n 0) 1 12 := ⟨by decide +kernel, rfl⟩
theorem eX10_init_12 : Dc mX10_init 12 (.bipush 18) 2 14 := ⟨by decide +kernel, rfl⟩
theorem eX10_init_14 : Dc mX10_init 14 (.newarray .int) 2 16 := ⟨by decide +kernel, rfl⟩
theorem eX10_init_16 : Dc mX10_init 16 (.putfield 15) 3 19 := ⟨by decide +kernel, rfl⟩
theorem eX10_init_19 : Dc mX10_init 19 (.aload_n 0) 1 20 := ⟨by decide +kernel, rfl⟩
theorem eX10_init_20 : Dc mX10_init 20 (.iconst 3) 1 21 := ⟨by decide +kernel, rfl⟩
theorem eX10_init_21 : Dc mX10_init 21 (.newarray .int) 2 23 := ⟨by decide +kernel, rfl⟩
theorem eX10_init_23 : Dc mX10_init 23 (.putfield 18) 3 26 := ⟨by decide +kernel, rfl⟩
theorem eX10_init_26 : Dc mX10_init 26 (.aload_n 0) 1 27 := ⟨by decide +kernel, rfl⟩
theorem eX10_init_27 : Dc mX10_init 27 (.iconst 3) 1 28 := ⟨by decide +kernel, rfl⟩
theorem eX10_init_28 : Dc mX10_init 28 (.newarray .int) 2 30 := ⟨by decide +kernel, rfl⟩
theorem eX10_init_30 : Dc mX10_init 30 (.putfield 21) 3 33 := ⟨by decide +kernel, rfl⟩
theorem eX10_init_33 : Dc mX10_init 33 (.aload_n 0) 1 34 := ⟨by decide +kernel, rfl⟩
theorem eX10_init_34 : Dc mX10_init 34 (.iconst 3) 1 35 := ⟨by decide +kernel, rfl⟩
theorem eX10_init_35 : Dc mX10_init 35 (.newarray .int) 2 37 := ⟨by decide +kernel, rfl⟩
theorem eX10_init_37 : Dc mX10_init 37 (.putfield 24) 3 40 := ⟨by decide +kernel, rfl⟩
theorem eX10_init_40 : Dc mX10_init 40 (.return_) 1 41 := ⟨by decide +kernel, rfl⟩
def mX11_init : Mt := (yX11_init, cX11_init, 1, none, { frames := 3, cells := 47, slots := 816, locals := 60 })
theorem zX11_init : Zi mX11_init 0 47 816 := ⟨tblG_at 74 (by decide +kernel) (by decide +kernel), tblG_at 54 (by decide +kernel) (by decide +kernel), ⟨by decide +kernel, by decide +kernel, by decide +kernel⟩, rfl, rfl, tblG_at 73 (by decide +kernel) (by decide +kernel), rfl, rfl⟩
theorem eX11_init_0 : Dc mX11_init 0 (.aload_n 0) 1 1 := ⟨by decide +kernel, rfl⟩
theorem eX11_init_1 : Dc mX11_init 1 (.invokespecial 3) 3 4 := ⟨by decide +kernel, rfl⟩
theorem eX11_init_4 : Dc mX11_init 4 (.aload_n 0) 1 5 := ⟨by decide +kernel, rfl⟩
theorem eX11_init_5 : Dc mX11_init 5 (.new 9) 3 8 := ⟨by decide +kernel, rfl⟩
theorem eX11_init_8 : Dc mX11_init 8 (.dup) 1 9 := ⟨by decide +kernel, rfl⟩
theorem eX11_init_9 : Dc mX11_init 9 (.invokespecial 11) 3 12 := ⟨by decide +kernel, rfl⟩
theorem eX11_init_12 : Dc mX11_init 12 (.putfield 12) 3 15 := ⟨by decide +kernel, rfl⟩
theorem eX11_init_15 : Dc mX11_init 15 (.aload_n 0) 1 16 := ⟨by decide +kernel, rfl⟩
theorem eX11_init_16 : Dc mX11_init 16 (.new 16) 3 19 := ⟨by decide +kernel, rfl⟩
theorem eX11_init_19 : Dc mX11_init 19 (.dup) 1 20 := ⟨by decide +kernel, rfl⟩
theorem eX11_init_20 : Dc mX11_init 20 (.invokespecial 18) 3 23 := ⟨by decide +kernel, rfl⟩
theorem eX11_init_23 : Dc mX11_init 23 (.putfield 19) 3 26 := ⟨by decide +kernel, rfl⟩
theorem eX11_init_26 : Dc mX11_init 26 (.aload_n 0) 1 27 := ⟨by decide +kernel, rfl⟩
theorem eX11_init_27 : Dc mX11_init 27 (.new 23) 3 30 := ⟨by decide +kernel, rfl⟩
theorem eX11_init_30 : Dc mX11_init 30 (.dup) 1 31 := ⟨by decide +kernel, rfl⟩
theorem eX11_init_31 : Dc mX11_init 31 (.aload_n 0) 1 32 := ⟨by decide +kernel, rfl⟩
theorem eX11_init_32 : Dc mX11_init 32 (.getfield 19) 3 35 := ⟨by decide +kernel, rfl⟩
theorem eX11_init_35 : Dc mX11_init 35 (.invokespecial 25) 3 38 := ⟨by decide +kernel, rfl⟩
theorem eX11_init_38 : Dc mX11_init 38 (.putfield 28) 3 41 := ⟨by decide +kernel, rfl⟩
theorem eX11_init_41 : Dc mX11_init 41 (.aload_n 0) 1 42 := ⟨by decide +kernel, rfl⟩
theorem eX11_init_42 : Dc mX11_init 42 (.new 32) 3 45 := ⟨by decide +kernel, rfl⟩
theorem eX11_init_45 : Dc mX11_init 45 (.dup) 1 46 := ⟨by decide +kernel, rfl⟩
theorem eX11_init_46 : Dc mX11_init 46 (.invokespecial 34) 3 49 := ⟨by decide +kernel, rfl⟩
theorem eX11_init_49 : Dc mX11_init 49 (.putfield 35) 3 52 := ⟨by decide +kernel, rfl⟩
theorem eX11_init_52 : Dc mX11_init 52 (.aload_n 0) 1 53 := ⟨by decide +kernel, rfl⟩
theorem eX11_init_53 : Dc mX11_init 53 (.iconst 2) 1 54 := ⟨by decide +kernel, rfl⟩
theorem eX11_init_54 : Dc mX11_init 54 (.anewarray 16) 3 57 := ⟨by decide +kernel, rfl⟩
theorem eX11_init_57 : Dc mX11_init 57 (.dup) 1 58 := ⟨by decide +kernel, rfl⟩
theorem eX11_init_58 : Dc mX11_init 58 (.iconst 0) 1 59 := ⟨by decide +kernel, rfl⟩
theorem eX11_init_59 : Dc mX11_init 59 (.new 16) 3 62 := ⟨by decide +kernel, rfl⟩
theorem eX11_init_62 : Dc mX11_init 62 (.dup) 1 63 := ⟨by decide +kernel, rfl⟩
theorem eX11_init_63 : Dc mX11_init 63 (.invokespecial 18) 3 66 := ⟨by decide +kernel, rfl⟩
theorem eX11_init_66 : Dc mX11_init 66 (.aastore) 1 67 := ⟨by decide +kernel, rfl⟩
theorem eX11_init_67 : Dc mX11_init 67 (.dup) 1 68 := ⟨by decide +kernel, rfl⟩
theorem eX11_init_68 : Dc mX11_init 68 (.iconst 1) 1 69 := ⟨by decide +kernel, rfl⟩
theorem eX11_init_69 : Dc mX11_init 69 (.new 16) 3 72 := ⟨by decide +kernel, rfl⟩
theorem eX11_init_72 : Dc mX11_init 72 (.dup) 1 73 := ⟨by decide +kernel, rfl⟩
theorem eX11_init_73 : Dc mX11_init 73 (.invokespecial 18) 3 76 := ⟨by decide +kernel, rfl⟩
theorem eX11_init_76 : Dc mX11_init 76 (.aastore) 1 77 := ⟨by decide +kernel, rfl⟩
theorem eX11_init_77 : Dc mX11_init 77 (.putfield 39) 3 80 := ⟨by decide +kernel, rfl⟩
theorem eX11_init_80 : Dc mX11_init 80 (.aload_n 0) 1 81 := ⟨by decide +kernel, rfl⟩
theorem eX11_init_81 : Dc mX11_init 81 (.new 43) 3 84 := ⟨by decide +kernel, rfl⟩
theorem eX11_init_84 : Dc mX11_init 84 (.dup) 1 85 := ⟨by decide +kernel, rfl⟩
theorem eX11_init_85 : Dc mX11_init 85 (.invokespecial 45) 3 88 := ⟨by decide +kernel, rfl⟩
theorem eX11_init_88 : Dc mX11_init 88 (.putfield 46) 3 91 := ⟨by decide +kernel, rfl⟩
theorem eX11_init_91 : Dc mX11_init 91 (.aload_n 0) 1 92 := ⟨by decide +kernel, rfl⟩
theorem eX11_init_92 : Dc mX11_init 92 (.new 50) 3 95 := ⟨by decide +kernel, rfl⟩
theorem eX11_init_95 : Dc mX11_init 95 (.dup) 1 96 := ⟨by decide +kernel, rfl⟩
theorem eX11_init_96 : Dc mX11_init 96 (.invokespecial 52) 3 99 := ⟨by decide +kernel, rfl⟩
theorem eX11_init_99 : Dc mX11_init 99 (.putfield 53) 3 102 := ⟨by decide +kernel, rfl⟩
theorem eX11_init_102 : Dc mX11_init 102 (.aload_n 0) 1 103 := ⟨by decide +kernel, rfl⟩
theorem eX11_init_103 : Dc mX11_init 103 (.new 57) 3 106 := ⟨by decide +kernel, rfl⟩
theorem eX11_init_106 : Dc mX11_init 106 (.dup) 1 107 := ⟨by decide +kernel, rfl⟩
theorem eX11_init_107 : Dc mX11_init 107 (.invokespecial 59) 3 110 := ⟨by decide +kernel, rfl⟩
theorem eX11_init_110 : Dc mX11_init 110 (.putfield 60) 3 113 := ⟨by decide +kernel, rfl⟩
theorem eX11_init_113 : Dc mX11_init 113 (.aload_n 0) 1 114 := ⟨by decide +kernel, rfl⟩
theorem eX11_init_114 : Dc mX11_init 114 (.new 64) 3 117 := ⟨by decide +kernel, rfl⟩
theorem eX11_init_117 : Dc mX11_init 117 (.dup) 1 118 := ⟨by decide +kernel, rfl⟩
theorem eX11_init_118 : Dc mX11_init 118 (.invokespecial 66) 3 121 := ⟨by decide +kernel, rfl⟩
theorem eX11_init_121 : Dc mX11_init 121 (.putfield 67) 3 124 := ⟨by decide +kernel, rfl⟩
theorem eX11_init_124 : Dc mX11_init 124 (.aload_n 0) 1 125 := ⟨by decide +kernel, rfl⟩
theorem eX11_init_125 : Dc mX11_init 125 (.new 71) 3 128 := ⟨by decide +kernel, rfl⟩
theorem eX11_init_128 : Dc mX11_init 128 (.dup) 1 129 := ⟨by decide +kernel, rfl⟩
theorem eX11_init_129 : Dc mX11_init 129 (.invokespecial 73) 3 132 := ⟨by decide +kernel, rfl⟩
theorem eX11_init_132 : Dc mX11_init 132 (.putfield 74) 3 135 := ⟨by decide +kernel, rfl⟩
theorem eX11_init_135 : Dc mX11_init 135 (.aload_n 0) 1 136 := ⟨by decide +kernel, rfl⟩
theorem eX11_init_136 : Dc mX11_init 136 (.new 78) 3 139 := ⟨by decide +kernel, rfl⟩
theorem eX11_init_139 : Dc mX11_init 139 (.dup) 1 140 := ⟨by decide +kernel, rfl⟩
theorem eX11_init_140 : Dc mX11_init 140 (.invokespecial 80) 3 143 := ⟨by decide +kernel, rfl⟩
theorem eX11_init_143 : Dc mX11_init 143 (.putfield 81) 3 146 := ⟨by decide +kernel, rfl⟩
theorem eX11_init_146 : Dc mX11_init 146 (.aload_n 0) 1 147 := ⟨by decide +kernel, rfl⟩
theorem eX11_init_147 : Dc mX11_init 147 (.new 85) 3 150 := ⟨by decide +kernel, rfl⟩
theorem eX11_init_150 : Dc mX11_init 150 (.dup) 1 151 := ⟨by decide +kernel, rfl⟩
theorem eX11_init_151 : Dc mX11_init 151 (.invokespecial 87) 3 154 := ⟨by decide +kernel, rfl⟩
theorem eX11_init_154 : Dc mX11_init 154 (.putfield 88) 3 157 := ⟨by decide +kernel, rfl⟩
theorem eX11_init_157 : Dc mX11_init 157 (.return_) 1 158 := ⟨by decide +kernel, rfl⟩
def mX12_init : Mt := (yX12_init, cX12_init, 1, none, { frames := 1, cells := 19, slots := 1639, locals := 21 })
theorem zX12_init : Zi mX12_init 0 19 1639 := ⟨tblG_at 941 (by decide +kernel) (by decide +kernel), tblG_at 66 (by decide +kernel) (by decide +kernel), ⟨by decide +kernel, by decide +kernel, by decide +kernel⟩, rfl, rfl, tblG_at 940 (by decide +kernel) (by decide +kernel), rfl, rfl⟩
theorem eX12_init_0 : Dc mX12_init 0 (.aload_n 0) 1 1 := ⟨by decide +kernel, rfl⟩
theorem eX12_init_1 : Dc mX12_init 1 (.invokespecial 1) 3 4 := ⟨by decide +kernel, rfl⟩
theorem eX12_init_4 : Dc mX12_init 4 (.aload_n 0) 1 5 := ⟨by decide +kernel, rfl⟩
theorem eX12_init_5 : Dc mX12_init 5 (.bipush 32) 2 7 := ⟨by decide +kernel, rfl⟩
theorem eX12_init_7 : Dc mX12_init 7 (.newarray .int) 2 9 := ⟨by decide +kernel, rfl⟩
theorem eX12_init_9 : Dc mX12_init 9 (.putfield 7) 3 12 := ⟨by decide +kernel, rfl⟩
theorem eX12_init_12 : Dc mX12_init 12 (.aload_n 0) 1 13 := ⟨by decide +kernel, rfl⟩
theorem eX12_init_13 : Dc mX12_init 13 (.bipush 32) 2 15 := ⟨by decide +kernel, rfl⟩
theorem eX12_init_15 : Dc mX12_init 15 (.newarray .int) 2 17 := ⟨by decide +kernel, rfl⟩
theorem eX12_init_17 : Dc mX12_init 17 (.putfield 13) 3 20 := ⟨by decide +kernel, rfl⟩
theorem eX12_init_20 : Dc mX12_init 20 (.aload_n 0) 1 21 := ⟨by decide +kernel, rfl⟩
theorem eX12_init_21 : Dc mX12_init 21 (.bipush 64) 2 23 := ⟨by decide +kernel, rfl⟩
theorem eX12_init_23 : Dc mX12_init 23 (.newarray .int) 2 25 := ⟨by decide +kernel, rfl⟩
theorem eX12_init_25 : Dc mX12_init 25 (.putfield 16) 3 28 := ⟨by decide +kernel, rfl⟩
theorem eX12_init_28 : Dc mX12_init 28 (.aload_n 0) 1 29 := ⟨by decide +kernel, rfl⟩
theorem eX12_init_29 : Dc mX12_init 29 (.iconst 2) 1 30 := ⟨by decide +kernel, rfl⟩
theorem eX12_init_30 : Dc mX12_init 30 (.newarray .boolean) 2 32 := ⟨by decide +kernel, rfl⟩
theorem eX12_init_32 : Dc mX12_init 32 (.putfield 19) 3 35 := ⟨by decide +kernel, rfl⟩
theorem eX12_init_35 : Dc mX12_init 35 (.aload_n 0) 1 36 := ⟨by decide +kernel, rfl⟩
theorem eX12_init_36 : Dc mX12_init 36 (.bipush 40) 2 38 := ⟨by decide +kernel, rfl⟩
theorem eX12_init_38 : Dc mX12_init 38 (.newarray .int) 2 40 := ⟨by decide +kernel, rfl⟩
theorem eX12_init_40 : Dc mX12_init 40 (.putfield 23) 3 43 := ⟨by decide +kernel, rfl⟩
theorem eX12_init_43 : Dc mX12_init 43 (.aload_n 0) 1 44 := ⟨by decide +kernel, rfl⟩
theorem eX12_init_44 : Dc mX12_init 44 (.bipush 6) 2 46 := ⟨by decide +kernel, rfl⟩
theorem eX12_init_46 : Dc mX12_init 46 (.newarray .int) 2 48 := ⟨by decide +kernel, rfl⟩
theorem eX12_init_48 : Dc mX12_init 48 (.putfield 26) 3 51 := ⟨by decide +kernel, rfl⟩
theorem eX12_init_51 : Dc mX12_init 51 (.aload_n 0) 1 52 := ⟨by decide +kernel, rfl⟩
theorem eX12_init_52 : Dc mX12_init 52 (.bipush 6) 2 54 := ⟨by decide +kernel, rfl⟩
theorem eX12_init_54 : Dc mX12_init 54 (.newarray .int) 2 56 := ⟨by decide +kernel, rfl⟩
theorem eX12_init_56 : Dc mX12_init 56 (.putfield 29) 3 59 := ⟨by decide +kernel, rfl⟩
theorem eX12_init_59 : Dc mX12_init 59 (.aload_n 0) 1 60 := ⟨by decide +kernel, rfl⟩
theorem eX12_init_60 : Dc mX12_init 60 (.bipush 120) 2 62 := ⟨by decide +kernel, rfl⟩
theorem eX12_init_62 : Dc mX12_init 62 (.newarray .int) 2 64 := ⟨by decide +kernel, rfl⟩
theorem eX12_init_64 : Dc mX12_init 64 (.putfield 32) 3 67 := ⟨by decide +kernel, rfl⟩
theorem eX12_init_67 : Dc mX12_init 67 (.aload_n 0) 1 68 := ⟨by decide +kernel, rfl⟩
theorem eX12_init_68 : Dc mX12_init 68 (.bipush 120) 2 70 := ⟨by decide +kernel, rfl⟩
theorem eX12_init_70 : Dc mX12_init 70 (.newarray .int) 2 72 := ⟨by decide +kernel, rfl⟩
theorem eX12_init_72 : Dc mX12_init 72 (.putfield 35) 3 75 := ⟨by decide +kernel, rfl⟩
theorem eX12_init_75 : Dc mX12_init 75 (.aload_n 0) 1 76 := ⟨by decide +kernel, rfl⟩
theorem eX12_init_76 : Dc mX12_init 76 (.bipush 120) 2 78 := ⟨by decide +kernel, rfl⟩
theorem eX12_init_78 : Dc mX12_init 78 (.newarray .int) 2 80 := ⟨by decide +kernel, rfl⟩
theorem eX12_init_80 : Dc mX12_init 80 (.putfield 38) 3 83 := ⟨by decide +kernel, rfl⟩
theorem eX12_init_83 : Dc mX12_init 83 (.aload_n 0) 1 84 := ⟨by decide +kernel, rfl⟩
theorem eX12_init_84 : Dc mX12_init 84 (.bipush 120) 2 86 := ⟨by decide +kernel, rfl⟩
theorem eX12_init_86 : Dc mX12_init 86 (.newarray .int) 2 88 := ⟨by decide +kernel, rfl⟩
theorem eX12_init_88 : Dc mX12_init 88 (.putfield 41) 3 91 := ⟨by decide +kernel, rfl⟩
theorem eX12_init_91 : Dc mX12_init 91 (.aload_n 0) 1 92 := ⟨by decide +kernel, rfl⟩
theorem eX12_init_92 : Dc mX12_init 92 (.bipush 8) 2 94 := ⟨by decide +kernel, rfl⟩
theorem eX12_init_94 : Dc mX12_init 94 (.newarray .long) 2 96 := ⟨by decide +kernel, rfl⟩
theorem eX12_init_96 : Dc mX12_init 96 (.putfield 44) 3 99 := ⟨by decide +kernel, rfl⟩
theorem eX12_init_99 : Dc mX12_init 99 (.aload_n 0) 1 100 := ⟨by decide +kernel, rfl⟩
theorem eX12_init_100 : Dc mX12_init 100 (.bipush 6) 2 102 := ⟨by decide +kernel, rfl⟩
theorem eX12_init_102 : Dc mX12_init 102 (.newarray .long) 2 104 := ⟨by decide +kernel, rfl⟩
theorem eX12_init_104 : Dc mX12_init 104 (.putfield 48) 3 107 := ⟨by decide +kernel, rfl⟩
theorem eX12_init_107 : Dc mX12_init 107 (.aload_n 0) 1 108 := ⟨by decide +kernel, rfl⟩
theorem eX12_init_108 : Dc mX12_init 108 (.sipush 400) 3 111 := ⟨by decide +kernel, rfl⟩
theorem eX12_init_111 : Dc mX12_init 111 (.newarray .int) 2 113 := ⟨by decide +kernel, rfl⟩
theorem eX12_init_113 : Dc mX12_init 113 (.putfield 51) 3 116 := ⟨by decide +kernel, rfl⟩
theorem eX12_init_116 : Dc mX12_init 116 (.aload_n 0) 1 117 := ⟨by decide +kernel, rfl⟩
theorem eX12_init_117 : Dc mX12_init 117 (.sipush 200) 3 120 := ⟨by decide +kernel, rfl⟩
theorem eX12_init_120 : Dc mX12_init 120 (.newarray .int) 2 122 := ⟨by decide +kernel, rfl⟩
theorem eX12_init_122 : Dc mX12_init 122 (.putfield 54) 3 125 := ⟨by decide +kernel, rfl⟩
theorem eX12_init_125 : Dc mX12_init 125 (.aload_n 0) 1 126 := ⟨by decide +kernel, rfl⟩
theorem eX12_init_126 : Dc mX12_init 126 (.sipush 200) 3 129 := ⟨by decide +kernel, rfl⟩
theorem eX12_init_129 : Dc mX12_init 129 (.newarray .int) 2 131 := ⟨by decide +kernel, rfl⟩
theorem eX12_init_131 : Dc mX12_init 131 (.putfield 57) 3 134 := ⟨by decide +kernel, rfl⟩
theorem eX12_init_134 : Dc mX12_init 134 (.aload_n 0) 1 135 := ⟨by decide +kernel, rfl⟩
theorem eX12_init_135 : Dc mX12_init 135 (.sipush 130) 3 138 := ⟨by decide +kernel, rfl⟩
theorem eX12_init_138 : Dc mX12_init 138 (.newarray .int) 2 140 := ⟨by decide +kernel, rfl⟩
theorem eX12_init_140 : Dc mX12_init 140 (.putfield 60) 3 143 := ⟨by decide +kernel, rfl⟩
theorem eX12_init_143 : Dc mX12_init 143 (.aload_n 0) 1 144 := ⟨by decide +kernel, rfl⟩
theorem eX12_init_144 : Dc mX12_init 144 (.bipush 30) 2 146 := ⟨by decide +kernel, rfl⟩
theorem eX12_init_146 : Dc mX12_init 146 (.newarray .int) 2 148 := ⟨by decide +kernel, rfl⟩
theorem eX12_init_148 : Dc mX12_init 148 (.putfield 63) 3 151 := ⟨by decide +kernel, rfl⟩
theorem eX12_init_151 : Dc mX12_init 151 (.aload_n 0) 1 152 := ⟨by decide +kernel, rfl⟩
theorem eX12_init_152 : Dc mX12_init 152 (.iconst 3) 1 153 := ⟨by decide +kernel, rfl⟩
theorem eX12_init_153 : Dc mX12_init 153 (.newarray .int) 2 155 := ⟨by decide +kernel, rfl⟩
theorem eX12_init_155 : Dc mX12_init 155 (.putfield 66) 3 158 := ⟨by decide +kernel, rfl⟩
theorem eX12_init_158 : Dc mX12_init 158 (.aload_n 0) 1 159 := ⟨by decide +kernel, rfl⟩
theorem eX12_init_159 : Dc mX12_init 159 (.invokevirtual 69) 3 162 := ⟨by decide +kernel, rfl⟩
theorem eX12_init_162 : Dc mX12_init 162 (.return_) 1 163 := ⟨by decide +kernel, rfl⟩
theorem obX0_3 : Cond.methodLink RX0 3 Lib.objectInit ∈ tblG ∧ Cond.instanceMethod Lib.objectInit ∈ tblG ∧ Cond.code Lib.objectInit ⟨#[0xb1]⟩ 1 none ∈ tblG := ⟨tblG_at 244 (by decide +kernel) (by decide +kernel), tblG_at 76 (by decide +kernel) (by decide +kernel), tblG_at 77 (by decide +kernel) (by decide +kernel)⟩
theorem fwX0_11 : Cond.fieldLink RX0 11 (TX0 0).1 (TX0 0).2.1 (TX0 0).2.2.1 ∈ tblG := tblG_at 245 (by decide +kernel) (by decide +kernel)
theorem fwX0_15 : Cond.fieldLink RX0 15 (TX0 1).1 (TX0 1).2.1 (TX0 1).2.2.1 ∈ tblG := tblG_at 246 (by decide +kernel) (by decide +kernel)
theorem fwX0_19 : Cond.fieldLink RX0 19 (TX0 2).1 (TX0 2).2.1 (TX0 2).2.2.1 ∈ tblG := tblG_at 247 (by decide +kernel) (by decide +kernel)
theorem obX1_3 : Cond.methodLink RX1 3 Lib.objectInit ∈ tblG ∧ Cond.instanceMethod Lib.objectInit ∈ tblG ∧ Cond.code Lib.objectInit ⟨#[0xb1]⟩ 1 none ∈ tblG := ⟨tblG_at 141 (by decide +kernel) (by decide +kernel), tblG_at 76 (by decide +kernel) (by decide +kernel), tblG_at 77 (by decide +kernel) (by decide +kernel)⟩
theorem fwX1_11 : Cond.fieldLink RX1 11 (TX1 0).1 (TX1 0).2.1 (TX1 0).2.2.1 ∈ tblG := tblG_at 142 (by decide +kernel) (by decide +kernel)
theorem obX2_3 : Cond.methodLink RX2 3 Lib.objectInit ∈ tblG ∧ Cond.instanceMethod Lib.objectInit ∈ tblG ∧ Cond.code Lib.objectInit ⟨#[0xb1]⟩ 1 none ∈ tblG := ⟨tblG_at 228 (by decide +kernel) (by decide +kernel), tblG_at 76 (by decide +kernel) (by decide +kernel), tblG_at 77 (by decide +kernel) (by decide +kernel)⟩
theorem fwX2_9 : Cond.fieldLink RX2 9 (TX2 0).1 (TX2 0).2.1 (TX2 0).2.2.1 ∈ tblG := tblG_at 229 (by decide +kernel) (by decide +kernel)
theorem obX3_3 : Cond.methodLink RX3 3 Lib.objectInit ∈ tblG ∧ Cond.instanceMethod Lib.objectInit ∈ tblG ∧ Cond.code Lib.objectInit ⟨#[0xb1]⟩ 1 none ∈ tblG := ⟨tblG_at 212 (by decide +kernel) (by decide +kernel), tblG_at 76 (by decide +kernel) (by decide +kernel), tblG_at 77 (by decide +kernel) (by decide +kernel)⟩
theorem fwX3_9 : Cond.fieldLink RX3 9 (TX3 0).1 (TX3 0).2.1 (TX3 0).2.2.1 ∈ tblG := tblG_at 213 (by decide +kernel) (by decide +kernel)
theorem fwX3_15 : Cond.fieldLink RX3 15 (TX3 1).1 (TX3 1).2.1 (TX3 1).2.2.1 ∈ tblG := tblG_at 214 (by decide +kernel) (by decide +kernel)
theorem obX4_3 : Cond.methodLink RX4 3 Lib.objectInit ∈ tblG ∧ Cond.instanceMethod Lib.objectInit ∈ tblG ∧ Cond.code Lib.objectInit ⟨#[0xb1]⟩ 1 none ∈ tblG := ⟨tblG_at 195 (by decide +kernel) (by decide +kernel), tblG_at 76 (by decide +kernel) (by decide +kernel), tblG_at 77 (by decide +kernel) (by decide +kernel)⟩
theorem fwX4_9 : Cond.fieldLink RX4 9 (TX4 0).1 (TX4 0).2.1 (TX4 0).2.2.1 ∈ tblG := tblG_at 196 (by decide +kernel) (by decide +kernel)
theorem obX5_3 : Cond.methodLink RX5 3 Lib.objectInit ∈ tblG ∧ Cond.instanceMethod Lib.objectInit ∈ tblG ∧ Cond.code Lib.objectInit ⟨#[0xb1]⟩ 1 none ∈ tblG := ⟨tblG_at 263 (by decide +kernel) (by decide +kernel), tblG_at 76 (by decide +kernel) (by decide +kernel), tblG_at 77 (by decide +kernel) (by decide +kernel)⟩
theorem fwX5_11 : Cond.fieldLink RX5 11 (TX5 0).1 (TX5 0).2.1 (TX5 0).2.2.1 ∈ tblG := tblG_at 264 (by decide +kernel) (by decide +kernel)
theorem obX6_3 : Cond.methodLink RX6 3 Lib.objectInit ∈ tblG ∧ Cond.instanceMethod Lib.objectInit ∈ tblG ∧ Cond.code Lib.objectInit ⟨#[0xb1]⟩ 1 none ∈ tblG := ⟨tblG_at 155 (by decide +kernel) (by decide +kernel), tblG_at 76 (by decide +kernel) (by decide +kernel), tblG_at 77 (by decide +kernel) (by decide +kernel)⟩
theorem fwX6_9 : Cond.fieldLink RX6 9 (TX6 0).1 (TX6 0).2.1 (TX6 0).2.2.1 ∈ tblG := tblG_at 156 (by decide +kernel) (by decide +kernel)
theorem fwX6_15 : Cond.fieldLink RX6 15 (TX6 1).1 (TX6 1).2.1 (TX6 1).2.2.1 ∈ tblG := tblG_at 157 (by decide +kernel) (by decide +kernel)
theorem obX7_3 : Cond.methodLink RX7 3 Lib.objectInit ∈ tblG ∧ Cond.instanceMethod Lib.objectInit ∈ tblG ∧ Cond.code Lib.objectInit ⟨#[0xb1]⟩ 1 none ∈ tblG := ⟨tblG_at 125 (by decide +kernel) (by decide +kernel), tblG_at 76 (by decide +kernel) (by decide +kernel), tblG_at 77 (by decide +kernel) (by decide +kernel)⟩
theorem fwX7_9 : Cond.fieldLink RX7 9 (TX7 0).1 (TX7 0).2.1 (TX7 0).2.2.1 ∈ tblG := tblG_at 126 (by decide +kernel) (by decide +kernel)
theorem obX8_3 : Cond.methodLink RX8 3 Lib.objectInit ∈ tblG ∧ Cond.instanceMethod Lib.objectInit ∈ tblG ∧ Cond.code Lib.objectInit ⟨#[0xb1]⟩ 1 none ∈ tblG := ⟨tblG_at 83 (by decide +kernel) (by decide +kernel), tblG_at 76 (by decide +kernel) (by decide +kernel), tblG_at 77 (by decide +kernel) (by decide +kernel)⟩
theorem fwX8_9 : Cond.fieldLink RX8 9 (TX8 0).1 (TX8 0).2.1 (TX8 0).2.2.1 ∈ tblG := tblG_at 84 (by decide +kernel) (by decide +kernel)
theorem obX9_3 : Cond.methodLink RX9 3 Lib.objectInit ∈ tblG ∧ Cond.instanceMethod Lib.objectInit ∈ tblG ∧ Cond.code Lib.objectInit ⟨#[0xb1]⟩ 1 none ∈ tblG := ⟨tblG_at 171 (by decide +kernel) (by decide +kernel), tblG_at 76 (by decide +kernel) (by decide +kernel), tblG_at 77 (by decide +kernel) (by decide +kernel)⟩
theorem nwX9_9 : Cond.classLink RX9 9 RX10 ∈ tblG ∧ Cond.instantiable RX10 7 ∈ tblG ∧ Cond.initialized RX10 ∈ tblG := ⟨tblG_at 172 (by decide +kernel) (by decide +kernel), tblG_at 93 (by decide +kernel) (by decide +kernel), tblG_at 56 (by decide +kernel) (by decide +kernel)⟩
theorem lkX9_11 : (RX9, 11, yX10_init, "ControlSigns") ∈ nstL := List.mem_of_getElem? (i := 5) (by decide +kernel)
theorem fwX9_12 : Cond.fieldLink RX9 12 (TX9 0).1 (TX9 0).2.1 (TX9 0).2.2.1 ∈ tblG := tblG_at 174 (by decide +kernel) (by decide +kernel)
theorem obX10_3 : Cond.methodLink RX10 3 Lib.objectInit ∈ tblG ∧ Cond.instanceMethod Lib.objectInit ∈ tblG ∧ Cond.code Lib.objectInit ⟨#[0xb1]⟩ 1 none ∈ tblG := ⟨tblG_at 97 (by decide +kernel) (by decide +kernel), tblG_at 76 (by decide +kernel) (by decide +kernel), tblG_at 77 (by decide +kernel) (by decide +kernel)⟩
theorem fwX10_9 : Cond.fieldLink RX10 9 (TX10 2).1 (TX10 2).2.1 (TX10 2).2.2.1 ∈ tblG := tblG_at 100 (by decide +kernel) (by decide +kernel)
theorem fwX10_15 : Cond.fieldLink RX10 15 (TX10 3).1 (TX10 3).2.1 (TX10 3).2.2.1 ∈ tblG := tblG_at 101 (by decide +kernel) (by decide +kernel)
theorem fwX10_18 : Cond.fieldLink RX10 18 (TX10 4).1 (TX10 4).2.1 (TX10 4).2.2.1 ∈ tblG := tblG_at 102 (by decide +kernel) (by decide +kernel)
theorem fwX10_21 : Cond.fieldLink RX10 21 (TX10 5).1 (TX10 5).2.1 (TX10 5).2.2.1 ∈ tblG := tblG_at 103 (by decide +kernel) (by decide +kernel)
theorem fwX10_24 : Cond.fieldLink RX10 24 (TX10 6).1 (TX10 6).2.1 (TX10 6).2.2.1 ∈ tblG := tblG_at 104 (by decide +kernel) (by decide +kernel)
theorem obX11_3 : Cond.methodLink RX11 3 Lib.objectInit ∈ tblG ∧ Cond.instanceMethod Lib.objectInit ∈ tblG ∧ Cond.code Lib.objectInit ⟨#[0xb1]⟩ 1 none ∈ tblG := ⟨tblG_at 75 (by decide +kernel) (by decide +kernel), tblG_at 76 (by decide +kernel) (by decide +kernel), tblG_at 77 (by decide +kernel) (by decide +kernel)⟩
theorem nwX11_9 : Cond.classLink RX11 9 RX8 ∈ tblG ∧ Cond.instantiable RX8 2 ∈ tblG ∧ Cond.initialized RX8 ∈ tblG := ⟨tblG_at 78 (by decide +kernel) (by decide +kernel), tblG_at 79 (by decide +kernel) (by decide +kernel), tblG_at 55 (by decide +kernel) (by decide +kernel)⟩
theorem lkX11_11 : (RX11, 11, yX8_init, "ControlSigns") ∈ nstL := List.mem_of_getElem? (i := 0) (by decide +kernel)
theorem fwX11_12 : Cond.fieldLink RX11 12 (TX11 0).1 (TX11 0).2.1 (TX11 0).2.2.1 ∈ tblG := tblG_at 268 (by decide +kernel) (by decide +kernel)
theorem nwX11_16 : Cond.classLink RX11 16 RX10 ∈ tblG ∧ Cond.instantiable RX10 7 ∈ tblG ∧ Cond.initialized RX10 ∈ tblG := ⟨tblG_at 92 (by decide +kernel) (by decide +kernel), tblG_at 93 (by decide +kernel) (by decide +kernel), tblG_at 56 (by decide +kernel) (by decide +kernel)⟩
theorem lkX11_18 : (RX11, 18, yX10_init, "ControlSigns") ∈ nstL := List.mem_of_getElem? (i := 1) (by decide +kernel)
theorem fwX11_19 : Cond.fieldLink RX11 19 (TX11 1).1 (TX11 1).2.1 (TX11 1).2.2.1 ∈ tblG := tblG_at 269 (by decide +kernel) (by decide +kernel)
theorem nwX11_23 : Cond.classLink RX11 23 RX7 ∈ tblG ∧ Cond.instantiable RX7 3 ∈ tblG ∧ Cond.initialized RX7 ∈ tblG := ⟨tblG_at 120 (by decide +kernel) (by decide +kernel), tblG_at 121 (by decide +kernel) (by decide +kernel), tblG_at 57 (by decide +kernel) (by decide +kernel)⟩
theorem lkX11_25 : Cond.methodLink RX11 25 yX7_init ∈ tblG := tblG_at 122 (by decide +kernel) (by decide +kernel)
theorem fwX11_28 : Cond.fieldLink RX11 28 (TX11 2).1 (TX11 2).2.1 (TX11 2).2.2.1 ∈ tblG := tblG_at 270 (by decide +kernel) (by decide +kernel)
theorem nwX11_32 : Cond.classLink RX11 32 RX1 ∈ tblG ∧ Cond.instantiable RX1 2 ∈ tblG ∧ Cond.initialized RX1 ∈ tblG := ⟨tblG_at 136 (by decide +kernel) (by decide +kernel), tblG_at 137 (by decide +kernel) (by decide +kernel), tblG_at 58 (by decide +kernel) (by decide +kernel)⟩
theorem lkX11_34 : (RX11, 34, yX1_init, "ControlSigns") ∈ nstL := List.mem_of_getElem? (i := 2) (by decide +kernel)
theorem fwX11_35 : Cond.fieldLink RX11 35 (TX11 3).1 (TX11 3).2.1 (TX11 3).2.2.1 ∈ tblG := tblG_at 271 (by decide +kernel) (by decide +kernel)
theorem fwX11_39 : Cond.fieldLink RX11 39 (TX11 4).1 (TX11 4).2.1 (TX11 4).2.2.1 ∈ tblG := tblG_at 272 (by decide +kernel) (by decide +kernel)
theorem nwX11_43 : Cond.classLink RX11 43 RX6 ∈ tblG ∧ Cond.instantiable RX6 3 ∈ tblG ∧ Cond.initialized RX6 ∈ tblG := ⟨tblG_at 150 (by decide +kernel) (by decide +kernel), tblG_at 151 (by decide +kernel) (by decide +kernel), tblG_at 59 (by decide +kernel) (by decide +kernel)⟩
theorem lkX11_45 : (RX11, 45, yX6_init, "ControlSigns") ∈ nstL := List.mem_of_getElem? (i := 3) (by decide +kernel)
theorem fwX11_46 : Cond.fieldLink RX11 46 (TX11 6).1 (TX11 6).2.1 (TX11 6).2.2.1 ∈ tblG := tblG_at 274 (by decide +kernel) (by decide +kernel)
theorem nwX11_50 : Cond.classLink RX11 50 RX9 ∈ tblG ∧ Cond.instantiable RX9 5 ∈ tblG ∧ Cond.initialized RX9 ∈ tblG := ⟨tblG_at 166 (by decide +kernel) (by decide +kernel), tblG_at 167 (by decide +kernel) (by decide +kernel), tblG_at 60 (by decide +kernel) (by decide +kernel)⟩
theorem lkX11_52 : (RX11, 52, yX9_init, "ControlSigns") ∈ nstL := List.mem_of_getElem? (i := 4) (by decide +kernel)
theorem fwX11_53 : Cond.fieldLink RX11 53 (TX11 7).1 (TX11 7).2.1 (TX11 7).2.2.1 ∈ tblG := tblG_at 275 (by decide +kernel) (by decide +kernel)
theorem nwX11_57 : Cond.classLink RX11 57 RX4 ∈ tblG ∧ Cond.instantiable RX4 3 ∈ tblG ∧ Cond.initialized RX4 ∈ tblG := ⟨tblG_at 190 (by decide +kernel) (by decide +kernel), tblG_at 191 (by decide +kernel) (by decide +kernel), tblG_at 61 (by decide +kernel) (by decide +kernel)⟩
theorem lkX11_59 : (RX11, 59, yX4_init, "ControlSigns") ∈ nstL := List.mem_of_getElem? (i := 6) (by decide +kernel)
theorem fwX11_60 : Cond.fieldLink RX11 60 (TX11 8).1 (TX11 8).2.1 (TX11 8).2.2.1 ∈ tblG := tblG_at 276 (by decide +kernel) (by decide +kernel)
theorem nwX11_64 : Cond.classLink RX11 64 RX3 ∈ tblG ∧ Cond.instantiable RX3 3 ∈ tblG ∧ Cond.initialized RX3 ∈ tblG := ⟨tblG_at 207 (by decide +kernel) (by decide +kernel), tblG_at 208 (by decide +kernel) (by decide +kernel), tblG_at 62 (by decide +kernel) (by decide +kernel)⟩
theorem lkX11_66 : (RX11, 66, yX3_init, "ControlSigns") ∈ nstL := List.mem_of_getElem? (i := 7) (by decide +kernel)
theorem fwX11_67 : Cond.fieldLink RX11 67 (TX11 9).1 (TX11 9).2.1 (TX11 9).2.2.1 ∈ tblG := tblG_at 277 (by decide +kernel) (by decide +kernel)
theorem nwX11_71 : Cond.classLink RX11 71 RX2 ∈ tblG ∧ Cond.instantiable RX2 3 ∈ tblG ∧ Cond.initialized RX2 ∈ tblG := ⟨tblG_at 223 (by decide +kernel) (by decide +kernel), tblG_at 224 (by decide +kernel) (by decide +kernel), tblG_at 63 (by decide +kernel) (by decide +kernel)⟩
theorem lkX11_73 : (RX11, 73, yX2_init, "ControlSigns") ∈ nstL := List.mem_of_getElem? (i := 8) (by decide +kernel)
theorem fwX11_74 : Cond.fieldLink RX11 74 (TX11 10).1 (TX11 10).2.1 (TX11 10).2.2.1 ∈ tblG := tblG_at 278 (by decide +kernel) (by decide +kernel)
theorem nwX11_78 : Cond.classLink RX11 78 RX0 ∈ tblG ∧ Cond.instantiable RX0 4 ∈ tblG ∧ Cond.initialized RX0 ∈ tblG := ⟨tblG_at 239 (by decide +kernel) (by decide +kernel), tblG_at 240 (by decide +kernel) (by decide +kernel), tblG_at 64 (by decide +kernel) (by decide +kernel)⟩
theorem lkX11_80 : (RX11, 80, yX0_init, "ControlSigns") ∈ nstL := List.mem_of_getElem? (i := 9) (by decide +kernel)
theorem fwX11_81 : Cond.fieldLink RX11 81 (TX11 11).1 (TX11 11).2.1 (TX11 11).2.2.1 ∈ tblG := tblG_at 279 (by decide +kernel) (by decide +kernel)
theorem nwX11_85 : Cond.classLink RX11 85 RX5 ∈ tblG ∧ Cond.instantiable RX5 1 ∈ tblG ∧ Cond.initialized RX5 ∈ tblG := ⟨tblG_at 258 (by decide +kernel) (by decide +kernel), tblG_at 259 (by decide +kernel) (by decide +kernel), tblG_at 65 (by decide +kernel) (by decide +kernel)⟩
theorem lkX11_87 : (RX11, 87, yX5_init, "ControlSigns") ∈ nstL := List.mem_of_getElem? (i := 10) (by decide +kernel)
theorem fwX11_88 : Cond.fieldLink RX11 88 (TX11 12).1 (TX11 12).2.1 (TX11 12).2.2.1 ∈ tblG := tblG_at 280 (by decide +kernel) (by decide +kernel)
theorem obX12_1 : Cond.methodLink RX12 1 Lib.objectInit ∈ tblG ∧ Cond.instanceMethod Lib.objectInit ∈ tblG ∧ Cond.code Lib.objectInit ⟨#[0xb1]⟩ 1 none ∈ tblG := ⟨tblG_at 942 (by decide +kernel) (by decide +kernel), tblG_at 76 (by decide +kernel) (by decide +kernel), tblG_at 77 (by decide +kernel) (by decide +kernel)⟩
theorem fwX12_7 : Cond.fieldLink RX12 7 (TX12 0).1 (TX12 0).2.1 (TX12 0).2.2.1 ∈ tblG := tblG_at 947 (by decide +kernel) (by decide +kernel)
theorem fwX12_13 : Cond.fieldLink RX12 13 (TX12 1).1 (TX12 1).2.1 (TX12 1).2.2.1 ∈ tblG := tblG_at 948 (by decide +kernel) (by decide +kernel)
theorem fwX12_16 : Cond.fieldLink RX12 16 (TX12 2).1 (TX12 2).2.1 (TX12 2).2.2.1 ∈ tblG := tblG_at 949 (by decide +kernel) (by decide +kernel)
theorem fwX12_19 : Cond.fieldLink RX12 19 (TX12 3).1 (TX12 3).2.1 (TX12 3).2.2.1 ∈ tblG := tblG_at 950 (by decide +kernel) (by decide +kernel)
theorem fwX12_23 : Cond.fieldLink RX12 23 (TX12 4).1 (TX12 4).2.1 (TX12 4).2.2.1 ∈ tblG := tblG_at 951 (by decide +kernel) (by decide +kernel)
theorem fwX12_26 : Cond.fieldLink RX12 26 (TX12 8).1 (TX12 8).2.1 (TX12 8).2.2.1 ∈ tblG := tblG_at 955 (by decide +kernel) (by decide +kernel)
theorem fwX12_29 : Cond.fieldLink RX12 29 (TX12 9).1 (TX12 9).2.1 (TX12 9).2.2.1 ∈ tblG := tblG_at 956 (by decide +kernel) (by decide +kernel)
theorem fwX12_32 : Cond.fieldLink RX12 32 (TX12 11).1 (TX12 11).2.1 (TX12 11).2.2.1 ∈ tblG := tblG_at 958 (by decide +kernel) (by decide +kernel)
theorem fwX12_35 : Cond.fieldLink RX12 35 (TX12 13).1 (TX12 13).2.1 (TX12 13).2.2.1 ∈ tblG := tblG_at 960 (by decide +kernel) (by decide +kernel)
theorem fwX12_38 : Cond.fieldLink RX12 38 (TX12 14).1 (TX12 14).2.1 (TX12 14).2.2.1 ∈ tblG := tblG_at 961 (by decide +kernel) (by decide +kernel)
theorem fwX12_41 : Cond.fieldLink RX12 41 (TX12 15).1 (TX12 15).2.1 (TX12 15).2.2.1 ∈ tblG := tblG_at 962 (by decide +kernel) (by decide +kernel)
theorem fwX12_44 : Cond.fieldLink RX12 44 (TX12 19).1 (TX12 19).2.1 (TX12 19).2.2.1 ∈ tblG := tblG_at 966 (by decide +kernel) (by decide +kernel)
theorem fwX12_48 : Cond.fieldLink RX12 48 (TX12 22).1 (TX12 22).2.1 (TX12 22).2.2.1 ∈ tblG := tblG_at 969 (by decide +kernel) (by decide +kernel)
theorem fwX12_51 : Cond.fieldLink RX12 51 (TX12 23).1 (TX12 23).2.1 (TX12 23).2.2.1 ∈ tblG := tblG_at 970 (by decide +kernel) (by decide +kernel)
theorem fwX12_54 : Cond.fieldLink RX12 54 (TX12 25).1 (TX12 25).2.1 (TX12 25).2.2.1 ∈ tblG := tblG_at 972 (by decide +kernel) (by decide +kernel)
theorem fwX12_57 : Cond.fieldLink RX12 57 (TX12 26).1 (TX12 26).2.1 (TX12 26).2.2.1 ∈ tblG := tblG_at 973 (by decide +kernel) (by decide +kernel)
theorem fwX12_60 : Cond.fieldLink RX12 60 (TX12 28).1 (TX12 28).2.1 (TX12 28).2.2.1 ∈ tblG := tblG_at 975 (by decide +kernel) (by decide +kernel)
theorem fwX12_63 : Cond.fieldLink RX12 63 (TX12 31).1 (TX12 31).2.1 (TX12 31).2.2.1 ∈ tblG := tblG_at 978 (by decide +kernel) (by decide +kernel)
theorem fwX12_66 : Cond.fieldLink RX12 66 (TX12 33).1 (TX12 33).2.1 (TX12 33).2.2.1 ∈ tblG := tblG_at 980 (by decide +kernel) (by decide +kernel)
theorem nwL_7 : Cond.classLink RL 7 RX11 ∈ tblG ∧ Cond.instantiable RX11 13 ∈ tblG ∧ Cond.initialized RX11 ∈ tblG := ⟨tblG_at 70 (by decide +kernel) (by decide +kernel), tblG_at 71 (by decide +kernel) (by decide +kernel), tblG_at 54 (by decide +kernel) (by decide +kernel)⟩
theorem lkL_9 : Cond.methodLink RL 9 yX11_init ∈ tblG := tblG_at 72 (by decide +kernel) (by decide +kernel)
theorem nwL_10 : Cond.classLink RL 10 RX12 ∈ tblG ∧ Cond.instantiable RX12 34 ∈ tblG ∧ Cond.initialized RX12 ∈ tblG := ⟨tblG_at 937 (by decide +kernel) (by decide +kernel), tblG_at 938 (by decide +kernel) (by decide +kernel), tblG_at 66 (by decide +kernel) (by decide +kernel)⟩
theorem lkL_12 : Cond.methodLink RL 12 yX12_init ∈ tblG := tblG_at 939 (by decide +kernel) (by decide +kernel)
theorem k_X0_init {g : Gl} {h : Nat} {wx : va_W} : Kt g mX0_init [Value.ref h] ((h, .inr (0, [.null, .null, .null, .int 0])) :: wx) (fun w => ∃ q1 q2 q3 : Nat, w = (q3, .inl (g.2.2.2.1 1, 21, .inr (.inl (fun _ => 0)))) :: (q2, .inl (g.2.2.2.1 1, 21, .inr (.inl (fun _ => 0)))) :: (q1, .inl (g.2.2.2.1 0, 21, .inl (fun _ => 0))) :: (h, .inr (0, [.ref q1, .ref q2, .ref q3, .int 0])) :: wx) 3 63 := by
  refine Kt.of (by decide +kernel) (Nat.le_of_ble_eq_true rfl) ?_
  show jn g mX0_init _ _ _ 0 0 [(0, Value.ref h)] 0 []
  refine n_aload eX0_init_0 rfl ?_
  refine n_obj obX0_3 (Nat.le_of_ble_eq_true rfl) (Nat.le_of_ble_eq_true rfl) eX0_init_1 ?_
  refine n_aload eX0_init_4 rfl ?_
  refine n_bipush 21 eX0_init_5 (by decide) ?_
  refine n_newI (N := 21) waI ⟨by decide, by decide, by decide⟩ (Nat.le_of_ble_eq_true rfl) (Nat.le_of_ble_eq_true rfl) eX0_init_7 (fun q1 => ?_)
  refine n_put (j := 0) (q0 := 1) tyX0 uw0 tyX0_ok nmX0 rfl rfl (by decide) fwX0_11 ⟨rfl, rfl, rfl⟩ rfl ⟨rfl, rfl, Nat.le_of_ble_eq_true rfl⟩ eX0_init_9 ?_
  show jn g mX0_init _ _ ((q1, .inl (g.2.2.2.1 0, 21, .inl (fun _ => 0))) :: (h, .inr (0, [.ref q1, .null, .null, .int 0])) :: wx) 1 21 _ 12 _
  refine n_aload eX0_init_12 rfl ?_
  refine n_bipush 21 eX0_init_13 (by decide) ?_
  refine n_newL (N := 21) waL ⟨by decide, by decide, by decide⟩ (Nat.le_of_ble_eq_true rfl) (Nat.le_of_ble_eq_true rfl) eX0_init_15 (fun q2 => ?_)
  refine n_put (j := 1) (q0 := 2) tyX0 uw0 tyX0_ok nmX0 rfl rfl (by decide) fwX0_15 ⟨rfl, rfl, rfl⟩ rfl ⟨rfl, rfl, Nat.le_of_ble_eq_true rfl⟩ eX0_init_17 ?_
  show jn g mX0_init _ _ ((q2, .inl (g.2.2.2.1 1, 21, .inr (.inl (fun _ => 0)))) :: (q1, .inl (g.2.2.2.1 0, 21, .inl (fun _ => 0))) :: (h, .inr (0, [.ref q1, .ref q2, .null, .int 0])) :: wx) 2 42 _ 20 _
  refine n_aload eX0_init_20 rfl ?_
  refine n_bipush 21 eX0_init_21 (by decide) ?_
  refine n_newL (N := 21) waL ⟨by decide, by decide, by decide⟩ (Nat.le_of_ble_eq_true rfl) (Nat.le_of_ble_eq_true rfl) eX0_init_23 (fun q3 => ?_)
  refine n_put (j := 2) (q0 := 3) tyX0 uw0 tyX0_ok nmX0 rfl rfl (by decide) fwX0_19 ⟨rfl, rfl, rfl⟩ rfl ⟨rfl, rfl, Nat.le_of_ble_eq_true rfl⟩ eX0_init_25 ?_
  show jn g mX0_init _ _ ((q3, .inl (g.2.2.2.1 1, 21, .inr (.inl (fun _ => 0)))) :: (q2, .inl (g.2.2.2.1 1, 21, .inr (.inl (fun _ => 0)))) :: (q1, .inl (g.2.2.2.1 0, 21, .inl (fun _ => 0))) :: (h, .inr (0, [.ref q1, .ref q2, .ref q3, .int 0])) :: wx) 3 63 _ 28 _
  exact n_ret rfl eX0_init_28 ⟨q1, q2, q3, rfl⟩
theorem k_X1_init {g : Gl} {h : Nat} {wx : va_W} : Kt g mX1_init [Value.ref h] ((h, .inr (1, [.null, .int 0])) :: wx) (fun w => ∃ q1 : Nat, w = (q1, .inl (g.2.2.2.1 0, 50, .inl (fun _ => 0))) :: (h, .inr (1, [.ref q1, .int 0])) :: wx) 1 50 := by
  refine Kt.of (by decide +kernel) (Nat.le_of_ble_eq_true rfl) ?_
  show jn g mX1_init _ _ _ 0 0 [(0, Value.ref h)] 0 []
  refine n_aload eX1_init_0 rfl ?_
  refine n_obj obX1_3 (Nat.le_of_ble_eq_true rfl) (Nat.le_of_ble_eq_true rfl) eX1_init_1 ?_
  refine n_aload eX1_init_4 rfl ?_
  refine n_bipush 50 eX1_init_5 (by decide) ?_
  refine n_newI (N := 50) waI ⟨by decide, by decide, by decide⟩ (Nat.le_of_ble_eq_true rfl) (Nat.le_of_ble_eq_true rfl) eX1_init_7 (fun q1 => ?_)
  refine n_put (j := 0) (q0 := 1) tyX1 uw1 tyX1_ok nmX1 rfl rfl (by decide) fwX1_11 ⟨rfl, rfl, rfl⟩ rfl ⟨rfl, rfl, Nat.le_of_ble_eq_true rfl⟩ eX1_init_9 ?_
  show jn g mX1_init _ _ ((q1, .inl (g.2.2.2.1 0, 50, .inl (fun _ => 0))) :: (h, .inr (1, [.ref q1, .int 0])) :: wx) 1 50 _ 12 _
  exact n_ret rfl eX1_init_12 ⟨q1, rfl⟩
theorem k_X2_init {g : Gl} {h : Nat} {wx : va_W} : Kt g mX2_init [Value.ref h] ((h, .inr (2, [.null, .int 0, .int 0])) :: wx) (fun w => ∃ q1 : Nat, w = (q1, .inl (g.2.2.2.1 0, 127, .inl (fun _ => 0))) :: (h, .inr (2, [.ref q1, .int 0, .int 0])) :: wx) 1 127 := by
  refine Kt.of (by decide +kernel) (Nat.le_of_ble_eq_true rfl) ?_
  show jn g mX2_init _ _ _ 0 0 [(0, Value.ref h)] 0 []
  refine n_aload eX2_init_0 rfl ?_
  refine n_obj obX2_3 (Nat.le_of_ble_eq_true rfl) (Nat.le_of_ble_eq_true rfl) eX2_init_1 ?_
  refine n_aload eX2_init_4 rfl ?_
  refine n_bipush 127 eX2_init_5 (by decide) ?_
  refine n_newI (N := 127) waI ⟨by decide, by decide, by decide⟩ (Nat.le_of_ble_eq_true rfl) (Nat.le_of_ble_eq_true rfl) eX2_init_7 (fun q1 => ?_)
  refine n_put (j := 0) (q0 := 1) tyX2 uw2 tyX2_ok nmX2 rfl rfl (by decide) fwX2_9 ⟨rfl, rfl, rfl⟩ rfl ⟨rfl, rfl, Nat.le_of_ble_eq_true rfl⟩ eX2_init_9 ?_
  show jn g mX2_init _ _ ((q1, .inl (g.2.2.2.1 0, 127, .inl (fun _ => 0))) :: (h, .inr (2, [.ref q1, .int 0, .int 0])) :: wx) 1 127 _ 12 _
  exact n_ret rfl eX2_init_12 ⟨q1, rfl⟩
theorem k_X3_init {g : Gl} {h : Nat} {wx : va_W} : Kt g mX3_init [Value.ref h] ((h, .inr (3, [.null, .null, .int 0])) :: wx) (fun w => ∃ q1 q2 : Nat, w = (q2, .inl (g.2.2.2.1 0, 127, .inl (fun _ => 0))) :: (q1, .inl (g.2.2.2.1 0, 127, .inl (fun _ => 0))) :: (h, .inr (3, [.ref q1, .ref q2, .int 0])) :: wx) 2 254 := by
  refine Kt.of (by decide +kernel) (Nat.le_of_ble_eq_true rfl) ?_
  show jn g mX3_init _ _ _ 0 0 [(0, Value.ref h)] 0 []
  refine n_aload eX3_init_0 rfl ?_
  refine n_obj obX3_3 (Nat.le_of_ble_eq_true rfl) (Nat.le_of_ble_eq_true rfl) eX3_init_1 ?_
  refine n_aload eX3_init_4 rfl ?_
  refine n_bipush 127 eX3_init_5 (by decide) ?_
  refine n_newI (N := 127) waI ⟨by decide, by decide, by decide⟩ (Nat.le_of_ble_eq_true rfl) (Nat.le_of_ble_eq_true rfl) eX3_init_7 (fun q1 => ?_)
  refine n_put (j := 0) (q0 := 1) tyX3 uw3 tyX3_ok nmX3 rfl rfl (by decide) fwX3_9 ⟨rfl, rfl, rfl⟩ rfl ⟨rfl, rfl, Nat.le_of_ble_eq_true rfl⟩ eX3_init_9 ?_
  show jn g mX3_init _ _ ((q1, .inl (g.2.2.2.1 0, 127, .inl (fun _ => 0))) :: (h, .inr (3, [.ref q1, .null, .int 0])) :: wx) 1 127 _ 12 _
  refine n_aload eX3_init_12 rfl ?_
  refine n_bipush 127 eX3_init_13 (by decide) ?_
  refine n_newI (N := 127) waI ⟨by decide, by decide, by decide⟩ (Nat.le_of_ble_eq_true rfl) (Nat.le_of_ble_eq_true rfl) eX3_init_15 (fun q2 => ?_)
  refine n_put (j := 1) (q0 := 2) tyX3 uw3 tyX3_ok nmX3 rfl rfl (by decide) fwX3_15 ⟨rfl, rfl, rfl⟩ rfl ⟨rfl, rfl, Nat.le_of_ble_eq_true rfl⟩ eX3_init_17 ?_
  show jn g mX3_init _ _ ((q2, .inl (g.2.2.2.1 0, 127, .inl (fun _ => 0))) :: (q1, .inl (g.2.2.2.1 0, 127, .inl (fun _ => 0))) :: (h, .inr (3, [.ref q1, .ref q2, .int 0])) :: wx) 2 254 _ 20 _
  exact n_ret rfl eX3_init_20 ⟨q1, q2, rfl⟩
theorem k_X4_init {g : Gl} {h : Nat} {wx : va_W} : Kt g mX4_init [Value.ref h] ((h, .inr (4, [.null, .int 0, .long 0])) :: wx) (fun w => ∃ q1 : Nat, w = (q1, .inl (g.2.2.2.1 1, 8, .inr (.inl (fun _ => 0)))) :: (h, .inr (4, [.ref q1, .int 0, .long 0])) :: wx) 1 8 := by
  refine Kt.of (by decide +kernel) (Nat.le_of_ble_eq_true rfl) ?_
  show jn g mX4_init _ _ _ 0 0 [(0, Value.ref h)] 0 []
  refine n_aload eX4_init_0 rfl ?_
  refine n_obj obX4_3 (Nat.le_of_ble_eq_true rfl) (Nat.le_of_ble_eq_true rfl) eX4_init_1 ?_
  refine n_aload eX4_init_4 rfl ?_
  refine n_bipush 8 eX4_init_5 (by decide) ?_
  refine n_newL (N := 8) waL ⟨by decide, by decide, by decide⟩ (Nat.le_of_ble_eq_true rfl) (Nat.le_of_ble_eq_true rfl) eX4_init_7 (fun q1 => ?_)
  refine n_put (j := 0) (q0 := 1) tyX4 uw4 tyX4_ok nmX4 rfl rfl (by decide) fwX4_9 ⟨rfl, rfl, rfl⟩ rfl ⟨rfl, rfl, Nat.le_of_ble_eq_true rfl⟩ eX4_init_9 ?_
  show jn g mX4_init _ _ ((q1, .inl (g.2.2.2.1 1, 8, .inr (.inl (fun _ => 0)))) :: (h, .inr (4, [.ref q1, .int 0, .long 0])) :: wx) 1 8 _ 12 _
  exact n_ret rfl eX4_init_12 ⟨q1, rfl⟩
theorem k_X5_init {g : Gl} {h : Nat} {wx : va_W} : Kt g mX5_init [Value.ref h] ((h, .inr (5, [.null])) :: wx) (fun w => ∃ q1 : Nat, w = (q1, .inl (g.2.2.2.1 0, 3, .inl (fun _ => 0))) :: (h, .inr (5, [.ref q1])) :: wx) 1 3 := by
  refine Kt.of (by decide +kernel) (Nat.le_of_ble_eq_true rfl) ?_
  show jn g mX5_init _ _ _ 0 0 [(0, Value.ref h)] 0 []
  refine n_aload eX5_init_0 rfl ?_
  refine n_obj obX5_3 (Nat.le_of_ble_eq_true rfl) (Nat.le_of_ble_eq_true rfl) eX5_init_1 ?_
  refine n_aload eX5_init_4 rfl ?_
  refine n_iconst 3 eX5_init_5 ?_
  refine n_newI (N := 3) waI ⟨by decide, by decide, by decide⟩ (Nat.le_of_ble_eq_true rfl) (Nat.le_of_ble_eq_true rfl) eX5_init_6 (fun q1 => ?_)
  refine n_put (j := 0) (q0 := 1) tyX5 uw5 tyX5_ok nmX5 rfl rfl (by decide) fwX5_11 ⟨rfl, rfl, rfl⟩ rfl ⟨rfl, rfl, Nat.le_of_ble_eq_true rfl⟩ eX5_init_8 ?_
  show jn g mX5_init _ _ ((q1, .inl (g.2.2.2.1 0, 3, .inl (fun _ => 0))) :: (h, .inr (5, [.ref q1])) :: wx) 1 3 _ 11 _
  exact n_ret rfl eX5_init_11 ⟨q1, rfl⟩
theorem k_X6_init {g : Gl} {h : Nat} {wx : va_W} : Kt g mX6_init [Value.ref h] ((h, .inr (6, [.null, .null, .int 0])) :: wx) (fun w => ∃ q1 q2 : Nat, w = (q2, .inl (g.2.2.2.1 0, 6, .inl (fun _ => 0))) :: (q1, .inl (g.2.2.2.1 0, 6, .inl (fun _ => 0))) :: (h, .inr (6, [.ref q1, .ref q2, .int 0])) :: wx) 2 12 := by
  refine Kt.of (by decide +kernel) (Nat.le_of_ble_eq_true rfl) ?_
  show jn g mX6_init _ _ _ 0 0 [(0, Value.ref h)] 0 []
  refine n_aload eX6_init_0 rfl ?_
  refine n_obj obX6_3 (Nat.le_of_ble_eq_true rfl) (Nat.le_of_ble_eq_true rfl) eX6_init_1 ?_
  refine n_aload eX6_init_4 rfl ?_
  refine n_bipush 6 eX6_init_5 (by decide) ?_
  refine n_newI (N := 6) waI ⟨by decide, by decide, by decide⟩ (Nat.le_of_ble_eq_true rfl) (Nat.le_of_ble_eq_true rfl) eX6_init_7 (fun q1 => ?_)
  refine n_put (j := 0) (q0 := 1) tyX6 uw6 tyX6_ok nmX6 rfl rfl (by decide) fwX6_9 ⟨rfl, rfl, rfl⟩ rfl ⟨rfl, rfl, Nat.le_of_ble_eq_true rfl⟩ eX6_init_9 ?_
  show jn g mX6_init _ _ ((q1, .inl (g.2.2.2.1 0, 6, .inl (fun _ => 0))) :: (h, .inr (6, [.ref q1, .null, .int 0])) :: wx) 1 6 _ 12 _
  refine n_aload eX6_init_12 rfl ?_
  refine n_bipush 6 eX6_init_13 (by decide) ?_
  refine n_newI (N := 6) waI ⟨by decide, by decide, by decide⟩ (Nat.le_of_ble_eq_true rfl) (Nat.le_of_ble_eq_true rfl) eX6_init_15 (fun q2 => ?_)
  refine n_put (j := 1) (q0 := 2) tyX6 uw6 tyX6_ok nmX6 rfl rfl (by decide) fwX6_15 ⟨rfl, rfl, rfl⟩ rfl ⟨rfl, rfl, Nat.le_of_ble_eq_true rfl⟩ eX6_init_17 ?_
  show jn g mX6_init _ _ ((q2, .inl (g.2.2.2.1 0, 6, .inl (fun _ => 0))) :: (q1, .inl (g.2.2.2.1 0, 6, .inl (fun _ => 0))) :: (h, .inr (6, [.ref q1, .ref q2, .int 0])) :: wx) 2 12 _ 20 _
  exact n_ret rfl eX6_init_20 ⟨q1, q2, rfl⟩
theorem k_X7_init {g : Gl} {h t : Nat} {wx : va_W} : Kt g mX7_init [Value.ref h, Value.ref t] ((h, .inr (7, [.null, .int 0, .int 0])) :: wx) (fun w => w = (h, .inr (7, [.ref t, .int 0, .int 0])) :: wx) 0 0 := by
  refine Kt.of (by decide +kernel) (Nat.le_of_ble_eq_true rfl) ?_
  show jn g mX7_init _ _ _ 0 0 [(0, Value.ref h), (1, Value.ref t)] 0 []
  refine n_aload eX7_init_0 rfl ?_
  refine n_obj obX7_3 (Nat.le_of_ble_eq_true rfl) (Nat.le_of_ble_eq_true rfl) eX7_init_1 ?_
  refine n_aload eX7_init_4 rfl ?_
  refine n_aload eX7_init_5 rfl ?_
  refine n_put (j := 0) (q0 := 0) tyX7 uw7 tyX7_ok nmX7 rfl rfl (by decide) fwX7_9 ⟨rfl, rfl, rfl⟩ rfl ⟨rfl, rfl, Nat.le_of_ble_eq_true rfl⟩ eX7_init_6 ?_
  show jn g mX7_init _ _ ((h, .inr (7, [.ref t, .int 0, .int 0])) :: wx) 0 0 _ 9 _
  exact n_ret rfl eX7_init_9 rfl
theorem k_X8_init {g : Gl} {h : Nat} {wx : va_W} : Kt g mX8_init [Value.ref h] ((h, .inr (8, [.null, .int 0])) :: wx) (fun w => ∃ q1 : Nat, w = (q1, .inl (g.2.2.2.1 0, 120, .inl (fun _ => 0))) :: (h, .inr (8, [.ref q1, .int 0])) :: wx) 1 120 := by
  refine Kt.of (by decide +kernel) (Nat.le_of_ble_eq_true rfl) ?_
  show jn g mX8_init _ _ _ 0 0 [(0, Value.ref h)] 0 []
  refine n_aload eX8_init_0 rfl ?_
  refine n_obj obX8_3 (Nat.le_of_ble_eq_true rfl) (Nat.le_of_ble_eq_true rfl) eX8_init_1 ?_
  refine n_aload eX8_init_4 rfl ?_
  refine n_bipush 120 eX8_init_5 (by decide) ?_
  refine n_newI (N := 120) waI ⟨by decide, by decide, by decide⟩ (Nat.le_of_ble_eq_true rfl) (Nat.le_of_ble_eq_true rfl) eX8_init_7 (fun q1 => ?_)
  refine n_put (j := 0) (q0 := 1) tyX8 uw8 tyX8_ok nmX8 rfl rfl (by decide) fwX8_9 ⟨rfl, rfl, rfl⟩ rfl ⟨rfl, rfl, Nat.le_of_ble_eq_true rfl⟩ eX8_init_9 ?_
  show jn g mX8_init _ _ ((q1, .inl (g.2.2.2.1 0, 120, .inl (fun _ => 0))) :: (h, .inr (8, [.ref q1, .int 0])) :: wx) 1 120 _ 12 _
  exact n_ret rfl eX8_init_12 ⟨q1, rfl⟩
theorem k_X10_init {g : Gl} {h : Nat} {wx : va_W} : Kt g mX10_init [Value.ref h] ((h, .inr (10, [.int 0, .int 0, .null, .null, .null, .null, .null])) :: wx) (fun w => ∃ q1 q2 q3 q4 q5 : Nat, w = (q5, .inl (g.2.2.2.1 0, 3, .inl (fun _ => 0))) :: (q4, .inl (g.2.2.2.1 0, 3, .inl (fun _ => 0))) :: (q3, .inl (g.2.2.2.1 0, 3, .inl (fun _ => 0))) :: (q2, .inl (g.2.2.2.1 0, 18, .inl (fun _ => 0))) :: (q1, .inl (g.2.2.2.1 0, 3, .inl (fun _ => 0))) :: (h, .inr (10, [.int 0, .int 0, .ref q1, .ref q2, .ref q3, .ref q4, .ref q5])) :: wx) 5 30 := by
  refine Kt.of (by decide +kernel) (Nat.le_of_ble_eq_true rfl) ?_
  show jn g mX10_init _ _ _ 0 0 [(0, Value.ref h)] 0 []
  refine n_aload eX10_init_0 rfl ?_
  refine n_obj obX10_3 (Nat.le_of_ble_eq_true rfl) (Nat.le_of_ble_eq_true rfl) eX10_init_1 ?_
  refine n_aload eX10_init_4 rfl ?_
  refine n_iconst 3 eX10_init_5 ?_
  refine n_newI (N := 3) waI ⟨by decide, by decide, by decide⟩ (Nat.le_of_ble_eq_true rfl) (Nat.le_of_ble_eq_true rfl) eX10_init_6 (fun q1 => ?_)
  refine n_put (j := 2) (q0 := 1) tyX10 uw10 tyX10_ok nmX10 rfl rfl (by decide) fwX10_9 ⟨rfl, rfl, rfl⟩ rfl ⟨rfl, rfl, Nat.le_of_ble_eq_true rfl⟩ eX10_init_8 ?_
  show jn g mX10_init _ _ ((q1, .inl (g.2.2.2.1 0, 3, .inl (fun _ => 0))) :: (h, .inr (10, [.int 0, .int 0, .ref q1, .null, .null, .null, .null])) :: wx) 1 3 _ 11 _
  refine n_aload eX10_init_11 rfl ?_
  refine n_bipush 18 eX10_init_12 (by decide) ?_
  refine n_newI (N := 18) waI ⟨by decide, by decide, by decide⟩ (Nat.le_of_ble_eq_true rfl) (Nat.le_of_ble_eq_true rfl) eX10_init_14 (fun q2 => ?_)
  refine n_put (j := 3) (q0 := 2) tyX10 uw10 tyX10_ok nmX10 rfl rfl (by decide) fwX10_15 ⟨rfl, rfl, rfl⟩ rfl ⟨rfl, rfl, Nat.le_of_ble_eq_true rfl⟩ eX10_init_16 ?_
  show jn g mX10_init _ _ ((q2, .inl (g.2.2.2.1 0, 18, .inl (fun _ => 0))) :: (q1, .inl (g.2.2.2.1 0, 3, .inl (fun _ => 0))) :: (h, .inr (10, [.int 0, .int 0, .ref q1, .ref q2, .null, .null, .null])) :: wx) 2 21 _ 19 _
  refine n_aload eX10_init_19 rfl ?_
  refine n_iconst 3 eX10_init_20 ?_
  refine n_newI (N := 3) waI ⟨by decide, by decide, by decide⟩ (Nat.le_of_ble_eq_true rfl) (Nat.le_of_ble_eq_true rfl) eX10_init_21 (fun q3 => ?_)
  refine n_put (j := 4) (q0 := 3) tyX10 uw10 tyX10_ok nmX10 rfl rfl (by decide) fwX10_18 ⟨rfl, rfl, rfl⟩ rfl ⟨rfl, rfl, Nat.le_of_ble_eq_true rfl⟩ eX10_init_23 ?_
  show jn g mX10_init _ _ ((q3, .inl (g.2.2.2.1 0, 3, .inl (fun _ => 0))) :: (q2, .inl (g.2.2.2.1 0, 18, .inl (fun _ => 0))) :: (q1, .inl (g.2.2.2.1 0, 3, .inl (fun _ => 0))) :: (h, .inr (10, [.int 0, .int 0, .ref q1, .ref q2, .ref q3, .null, .null])) :: wx) 3 24 _ 26 _
  refine n_aload eX10_init_26 rfl ?_
  refine n_iconst 3 eX10_init_27 ?_
  refine n_newI (N := 3) waI ⟨by decide, by decide, by decide⟩ (Nat.le_of_ble_eq_true rfl) (Nat.le_of_ble_eq_true rfl) eX10_init_28 (fun q4 => ?_)
  refine n_put (j := 5) (q0 := 4) tyX10 uw10 tyX10_ok nmX10 rfl rfl (by decide) fwX10_21 ⟨rfl, rfl, rfl⟩ rfl ⟨rfl, rfl, Nat.le_of_ble_eq_true rfl⟩ eX10_init_30 ?_
  show jn g mX10_init _ _ ((q4, .inl (g.2.2.2.1 0, 3, .inl (fun _ => 0))) :: (q3, .inl (g.2.2.2.1 0, 3, .inl (fun _ => 0))) :: (q2, .inl (g.2.2.2.1 0, 18, .inl (fun _ => 0))) :: (q1, .inl (g.2.2.2.1 0, 3, .inl (fun _ => 0))) :: (h, .inr (10, [.int 0, .int 0, .ref q1, .ref q2, .ref q3, .ref q4, .null])) :: wx) 4 27 _ 33 _
  refine n_aload eX10_init_33 rfl ?_
  refine n_iconst 3 eX10_init_34 ?_
  refine n_newI (N := 3) waI ⟨by decide, by decide, by decide⟩ (Nat.le_of_ble_eq_true rfl) (Nat.le_of_ble_eq_true rfl) eX10_init_35 (fun q5 => ?_)
  refine n_put (j := 6) (q0 := 5) tyX10 uw10 tyX10_ok nmX10 rfl rfl (by decide) fwX10_24 ⟨rfl, rfl, rfl⟩ rfl ⟨rfl, rfl, Nat.le_of_ble_eq_true rfl⟩ eX10_init_37 ?_
  show jn g mX10_init _ _ ((q5, .inl (g.2.2.2.1 0, 3, .inl (fun _ => 0))) :: (q4, .inl (g.2.2.2.1 0, 3, .inl (fun _ => 0))) :: (q3, .inl (g.2.2.2.1 0, 3, .inl (fun _ => 0))) :: (q2, .inl (g.2.2.2.1 0, 18, .inl (fun _ => 0))) :: (q1, .inl (g.2.2.2.1 0, 3, .inl (fun _ => 0))) :: (h, .inr (10, [.int 0, .int 0, .ref q1, .ref q2, .ref q3, .ref q4, .ref q5])) :: wx) 5 30 _ 40 _
  exact n_ret rfl eX10_init_40 ⟨q1, q2, q3, q4, q5, rfl⟩
theorem k_X9_init {g : Gl} {h : Nat} {wx : va_W} : Kt g mX9_init [Value.ref h] ((h, .inr (9, [.null, .int 0, .int 0, .int 0, .int 0])) :: wx) (fun w => ∃ q1 q2 q3 q4 q5 q6 : Nat, w = (q6, .inl (g.2.2.2.1 0, 3, .inl (fun _ => 0))) :: (q5, .inl (g.2.2.2.1 0, 3, .inl (fun _ => 0))) :: (q4, .inl (g.2.2.2.1 0, 3, .inl (fun _ => 0))) :: (q3, .inl (g.2.2.2.1 0, 18, .inl (fun _ => 0))) :: (q2, .inl (g.2.2.2.1 0, 3, .inl (fun _ => 0))) :: (q1, .inr (10, [.int 0, .int 0, .ref q2, .ref q3, .ref q4, .ref q5, .ref q6])) :: (h, .inr (9, [.ref q1, .int 0, .int 0, .int 0, .int 0])) :: wx) 6 37 := by
  refine Kt.of (by decide +kernel) (Nat.le_of_ble_eq_true rfl) ?_
  show jn g mX9_init _ _ _ 0 0 [(0, Value.ref h)] 0 []
  refine n_aload eX9_init_0 rfl ?_
  refine n_obj obX9_3 (Nat.le_of_ble_eq_true rfl) (Nat.le_of_ble_eq_true rfl) eX9_init_1 ?_
  refine n_aload eX9_init_4 rfl ?_
  refine n_new (ci := 10) (fs := [.int 0, .int 0, .null, .null, .null, .null, .null]) tyX10 nwX9_9 uw10 tyX10_ok rfl (fun j hj => by rcases (show j = 0 ∨ j = 1 ∨ j = 2 ∨ j = 3 ∨ j = 4 ∨ j = 5 ∨ j = 6 by omega) with rfl | rfl | rfl | rfl | rfl | rfl | rfl <;> rfl) (Nat.le_of_ble_eq_true rfl) (Nat.le_of_ble_eq_true rfl) eX9_init_5 (fun q1 => ?_)
  refine n_dup eX9_init_8 ?_
  refine n_callN (av := []) zX10_init lkX9_11 ⟨Nat.le_of_ble_eq_true rfl, Nat.le_of_ble_eq_true rfl⟩ k_X10_init (Nat.le_of_ble_eq_true rfl) (Nat.le_of_ble_eq_true rfl) (Nat.le_of_ble_eq_true rfl) eX9_init_9 ?_
  rintro _ ⟨q2, q3, q4, q5, q6, rfl⟩
  show jn g mX9_init _ _ ((q6, .inl (g.2.2.2.1 0, 3, .inl (fun _ => 0))) :: (q5, .inl (g.2.2.2.1 0, 3, .inl (fun _ => 0))) :: (q4, .inl (g.2.2.2.1 0, 3, .inl (fun _ => 0))) :: (q3, .inl (g.2.2.2.1 0, 18, .inl (fun _ => 0))) :: (q2, .inl (g.2.2.2.1 0, 3, .inl (fun _ => 0))) :: (q1, .inr (10, [.int 0, .int 0, .ref q2, .ref q3, .ref q4, .ref q5, .ref q6])) :: (h, .inr (9, [.null, .int 0, .int 0, .int 0, .int 0])) :: wx) 6 37 _ 12 _
  refine n_put (j := 0) (q0 := 6) tyX9 uw9 tyX9_ok nmX9 rfl rfl (by decide) fwX9_12 ⟨rfl, rfl, rfl⟩ rfl ⟨rfl, rfl, Nat.le_of_ble_eq_true rfl⟩ eX9_init_12 ?_
  show jn g mX9_init _ _ ((q6, .inl (g.2.2.2.1 0, 3, .inl (fun _ => 0))) :: (q5, .inl (g.2.2.2.1 0, 3, .inl (fun _ => 0))) :: (q4, .inl (g.2.2.2.1 0, 3, .inl (fun _ => 0))) :: (q3, .inl (g.2.2.2.1 0, 18, .inl (fun _ => 0))) :: (q2, .inl (g.2.2.2.1 0, 3, .inl (fun _ => 0))) :: (q1, .inr (10, [.int 0, .int 0, .ref q2, .ref q3, .ref q4, .ref q5, .ref q6])) :: (h, .inr (9, [.ref q1, .int 0, .int 0, .int 0, .int 0])) :: wx) 6 37 _ 15 _
  exact n_ret rfl eX9_init_15 ⟨q1, q2, q3, q4, q5, q6, rfl⟩
