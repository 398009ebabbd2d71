/-! ===== the program is checked, a method a row (written by a program) ===== -/
set_option maxRecDepth 1000000 in
theorem mj_k0 : mj_mok 0 = true := by decide +kernel
set_option maxRecDepth 1000000 in
theorem mj_k1 : mj_mok 1 = true := by decide +kernel
set_option maxRecDepth 1000000 in
theorem mj_k2 : mj_mok 2 = true := by decide +kernel
set_option maxRecDepth 1000000 in
theorem mj_k3 : mj_mok 3 = true := by decide +kernel
set_option maxRecDepth 1000000 in
theorem mj_k4 : mj_mok 4 = true := by decide +kernel
set_option maxRecDepth 1000000 in
theorem mj_k5 : mj_mok 5 = true := by decide +kernel
set_option maxRecDepth 1000000 in
theorem mj_k6 : mj_mok 6 = true := by decide +kernel
set_option maxRecDepth 1000000 in
theorem mj_k7 : mj_mok 7 = true := by decide +kernel
set_option maxRecDepth 1000000 in
theorem mj_k8 : mj_mok 8 = true := by decide +kernel
set_option maxRecDepth 1000000 in
theorem mj_k9 : mj_mok 9 = true := by decide +kernel
set_option maxRecDepth 1000000 in
theorem mj_k10 : mj_mok 10 = true := by decide +kernel
set_option maxRecDepth 1000000 in
theorem mj_k11 : mj_mok 11 = true := by decide +kernel
set_option maxRecDepth 1000000 in
theorem mj_k12 : mj_mok 12 = true := by decide +kernel
set_option maxRecDepth 1000000 in
theorem mj_k13 : mj_mok 13 = true := by decide +kernel
set_option maxRecDepth 1000000 in
theorem mj_k14 : mj_mok 14 = true := by decide +kernel
set_option maxRecDepth 1000000 in
theorem mj_k15 : mj_mok 15 = true := by decide +kernel
set_option maxRecDepth 1000000 in
theorem mj_k16 : mj_mok 16 = true := by decide +kernel
set_option maxRecDepth 1000000 in
theorem mj_k17 : mj_mok 17 = true := by decide +kernel
set_option maxRecDepth 1000000 in
theorem mj_k18 : mj_mok 18 = true := by decide +kernel
set_option maxRecDepth 1000000 in
theorem mj_k19 : mj_mok 19 = true := by decide +kernel
set_option maxRecDepth 1000000 in
theorem mj_k20 : mj_mok 20 = true := by decide +kernel
set_option maxRecDepth 1000000 in
theorem mj_k21 : mj_mok 21 = true := by decide +kernel
set_option maxRecDepth 1000000 in
theorem mj_k22 : mj_mok 22 = true := by decide +kernel
set_option maxRecDepth 1000000 in
theorem mj_k23 : mj_mok 23 = true := by decide +kernel
set_option maxRecDepth 1000000 in
theorem mj_k24 : mj_mok 24 = true := by decide +kernel
set_option maxRecDepth 1000000 in
theorem mj_k25 : mj_mok 25 = true := by decide +kernel
set_option maxRecDepth 1000000 in
theorem mj_k26 : mj_mok 26 = true := by decide +kernel
set_option maxRecDepth 1000000 in
theorem mj_k27 : mj_mok 27 = true := by decide +kernel
set_option maxRecDepth 1000000 in
theorem mj_k28 : mj_mok 28 = true := by decide +kernel
set_option maxRecDepth 1000000 in
theorem mj_k29 : mj_mok 29 = true := by decide +kernel
set_option maxRecDepth 1000000 in
theorem mj_k30 : mj_mok 30 = true := by decide +kernel
set_option maxRecDepth 1000000 in
theorem mj_k31 : mj_mok 31 = true := by decide +kernel
set_option maxRecDepth 1000000 in
theorem mj_k32 : mj_mok 32 = true := by decide +kernel
set_option maxRecDepth 1000000 in
theorem mj_k33 : mj_mok 33 = true := by decide +kernel
set_option maxRecDepth 1000000 in
theorem mj_k34 : mj_mok 34 = true := by decide +kernel
set_option maxRecDepth 1000000 in
theorem mj_k35 : mj_mok 35 = true := by decide +kernel
set_option maxRecDepth 1000000 in
theorem mj_k36 : mj_mok 36 = true := by decide +kernel
set_option maxRecDepth 1000000 in
theorem mj_k37 : mj_mok 37 = true := by decide +kernel
set_option maxRecDepth 1000000 in
theorem mj_k38 : mj_mok 38 = true := by decide +kernel
set_option maxRecDepth 1000000 in
theorem mj_k39 : mj_mok 39 = true := by decide +kernel
set_option maxRecDepth 1000000 in
theorem mj_k40 : mj_mok 40 = true := by decide +kernel
set_option maxRecDepth 1000000 in
theorem mj_k41 : mj_mok 41 = true := by decide +kernel
set_option maxRecDepth 1000000 in
theorem mj_k42 : mj_mok 42 = true := by decide +kernel
set_option maxRecDepth 1000000 in
theorem mj_k43 : mj_mok 43 = true := by decide +kernel
set_option maxRecDepth 1000000 in
theorem mj_k44 : mj_mok 44 = true := by decide +kernel
set_option maxRecDepth 1000000 in
theorem mj_k45 : mj_mok 45 = true := by decide +kernel
set_option maxRecDepth 1000000 in
theorem mj_k46 : mj_mok 46 = true := by decide +kernel
set_option maxRecDepth 1000000 in
theorem mj_k47 : mj_mok 47 = true := by decide +kernel
set_option maxRecDepth 1000000 in
theorem mj_k48 : mj_mok 48 = true := by decide +kernel
set_option maxRecDepth 1000000 in
theorem mj_k49 : mj_mok 49 = true := by decide +kernel
set_option maxRecDepth 1000000 in
theorem mj_k50 : mj_mok 50 = true := by decide +kernel
set_option maxRecDepth 1000000 in
theorem mj_k51 : mj_mok 51 = true := by decide +kernel
set_option maxRecDepth 1000000 in
theorem mj_k52 : mj_mok 52 = true := by decide +kernel
set_option maxRecDepth 1000000 in
theorem mj_k53 : mj_mok 53 = true := by decide +kernel
set_option maxRecDepth 1000000 in
theorem mj_k54 : mj_mok 54 = true := by decide +kernel
set_option maxRecDepth 1000000 in
theorem mj_k55 : mj_mok 55 = true := by decide +kernel
set_option maxRecDepth 1000000 in
theorem mj_k56 : mj_mok 56 = true := by decide +kernel
set_option maxRecDepth 1000000 in
theorem mj_k57 : mj_mok 57 = true := by decide +kernel
set_option maxRecDepth 1000000 in
theorem mj_k58 : mj_mok 58 = true := by decide +kernel
set_option maxRecDepth 1000000 in
theorem mj_k59 : mj_mok 59 = true := by decide +kernel
set_option maxRecDepth 1000000 in
theorem mj_k60 : mj_mok 60 = true := by decide +kernel
set_option maxRecDepth 1000000 in
theorem mj_k61 : mj_mok 61 = true := by decide +kernel
set_option maxRecDepth 1000000 in
theorem mj_k62 : mj_mok 62 = true := by decide +kernel
set_option maxRecDepth 1000000 in
theorem mj_k63 : mj_mok 63 = true := by decide +kernel
set_option maxRecDepth 1000000 in
theorem mj_k64 : mj_mok 64 = true := by decide +kernel
set_option maxRecDepth 1000000 in
theorem mj_k65 : mj_mok 65 = true := by decide +kernel
set_option maxRecDepth 1000000 in
theorem mj_k66 : mj_mok 66 = true := by decide +kernel
set_option maxRecDepth 1000000 in
theorem mj_k67 : mj_mok 67 = true := by decide +kernel
set_option maxRecDepth 1000000 in
theorem mj_k68 : mj_mok 68 = true := by decide +kernel
set_option maxRecDepth 1000000 in
theorem mj_k69 : mj_mok 69 = true := by decide +kernel
set_option maxRecDepth 1000000 in
theorem mj_k70 : mj_mok 70 = true := by decide +kernel
set_option maxRecDepth 1000000 in
theorem mj_k71 : mj_mok 71 = true := by decide +kernel
set_option maxRecDepth 1000000 in
theorem mj_k72 : mj_mok 72 = true := by decide +kernel
set_option maxRecDepth 1000000 in
theorem mj_k73 : mj_mok 73 = true := by decide +kernel
set_option maxRecDepth 1000000 in
theorem mj_k74 : mj_mok 74 = true := by decide +kernel
set_option maxRecDepth 1000000 in
theorem mj_k75 : mj_mok 75 = true := by decide +kernel
set_option maxRecDepth 1000000 in
theorem mj_k76 : mj_mok 76 = true := by decide +kernel
set_option maxRecDepth 1000000 in
theorem mj_k77 : mj_mok 77 = true := by decide +kernel
set_option maxRecDepth 1000000 in
theorem mj_k78 : mj_mok 78 = true := by decide +kernel
set_option maxRecDepth 1000000 in
theorem mj_k79 : mj_mok 79 = true := by decide +kernel
set_option maxRecDepth 1000000 in
theorem mj_k80 : mj_mok 80 = true := by decide +kernel
set_option maxRecDepth 1000000 in
theorem mj_k81 : mj_mok 81 = true := by decide +kernel
set_option maxRecDepth 1000000 in
theorem mj_k82 : mj_mok 82 = true := by decide +kernel
set_option maxRecDepth 1000000 in
theorem mj_k83 : mj_mok 83 = true := by decide +kernel
set_option maxRecDepth 1000000 in
theorem mj_k84 : mj_mok 84 = true := by decide +kernel
set_option maxRecDepth 1000000 in
theorem mj_k85 : mj_mok 85 = true := by decide +kernel
set_option maxRecDepth 1000000 in
theorem mj_k86 : mj_mok 86 = true := by decide +kernel
set_option maxRecDepth 1000000 in
theorem mj_k87 : mj_mok 87 = true := by decide +kernel
set_option maxRecDepth 1000000 in
theorem mj_k88 : mj_mok 88 = true := by decide +kernel
set_option maxRecDepth 1000000 in
theorem mj_k89 : mj_mok 89 = true := by decide +kernel
set_option maxRecDepth 1000000 in
theorem mj_k90 : mj_mok 90 = true := by decide +kernel
set_option maxRecDepth 1000000 in
theorem mj_k91 : mj_mok 91 = true := by decide +kernel
set_option maxRecDepth 1000000 in
theorem mj_k92 : mj_mok 92 = true := by decide +kernel
set_option maxRecDepth 1000000 in
theorem mj_k93 : mj_mok 93 = true := by decide +kernel
set_option maxRecDepth 1000000 in
theorem mj_k94 : mj_mok 94 = true := by decide +kernel
set_option maxRecDepth 1000000 in
theorem mj_k95 : mj_mok 95 = true := by decide +kernel
set_option maxRecDepth 1000000 in
theorem mj_k96 : mj_mok 96 = true := by decide +kernel
set_option maxRecDepth 1000000 in
theorem mj_k97 : mj_mok 97 = true := by decide +kernel
set_option maxRecDepth 1000000 in
theorem mj_k98 : mj_mok 98 = true := by decide +kernel
set_option maxRecDepth 1000000 in
theorem mj_k99 : mj_mok 99 = true := by decide +kernel
set_option maxRecDepth 1000000 in
theorem mj_k100 : mj_mok 100 = true := by decide +kernel
set_option maxRecDepth 1000000 in
theorem mj_k101 : mj_mok 101 = true := by decide +kernel
set_option maxRecDepth 1000000 in
theorem mj_k102 : mj_mok 102 = true := by decide +kernel
set_option maxRecDepth 1000000 in
theorem mj_k103 : mj_mok 103 = true := by decide +kernel
set_option maxRecDepth 1000000 in
theorem mj_k104 : mj_mok 104 = true := by decide +kernel
set_option maxRecDepth 1000000 in
theorem mj_k105 : mj_mok 105 = true := by decide +kernel
set_option maxRecDepth 1000000 in
theorem mj_k106 : mj_mok 106 = true := by decide +kernel
set_option maxRecDepth 1000000 in
theorem mj_k107 : mj_mok 107 = true := by decide +kernel
set_option maxRecDepth 1000000 in
theorem mj_k108 : mj_mok 108 = true := by decide +kernel
set_option maxRecDepth 1000000 in
theorem mj_k109 : mj_mok 109 = true := by decide +kernel
set_option maxRecDepth 1000000 in
theorem mj_k110 : mj_mok 110 = true := by decide +kernel
set_option maxRecDepth 1000000 in
theorem mj_k111 : mj_mok 111 = true := by decide +kernel
set_option maxRecDepth 1000000 in
theorem mj_k112 : mj_mok 112 = true := by decide +kernel
set_option maxRecDepth 1000000 in
theorem mj_k113 : mj_mok 113 = true := by decide +kernel
set_option maxRecDepth 1000000 in
theorem mj_k114 : mj_mok 114 = true := by decide +kernel
set_option maxRecDepth 1000000 in
theorem mj_k115 : mj_mok 115 = true := by decide +kernel
set_option maxRecDepth 1000000 in
theorem mj_k116 : mj_mok 116 = true := by decide +kernel
set_option maxRecDepth 1000000 in
theorem mj_k117 : mj_mok 117 = true := by decide +kernel
