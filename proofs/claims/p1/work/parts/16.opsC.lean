/-! runs over boxes: keep, tried, dots, printed by a program (wip/gen/ops.py) -/
def xo_c31 : List (List xe_v) := [xb_T, xb_T, xb_T, xb_T, xb_T]
theorem xo_v31 : (xo_c31.all fun c => xb_cv 0 c) = true := by decide +kernel
theorem xo_r31 : xl_go 25000 1238 xo_c31 = true := by decide +kernel
def xo_c14 : List (List xe_v) := [[(0, 0, 2147483647), (0, 2147483648, 2147483648), (0, 2147483649, 2147483649), (0, 2147483650, 2147483650), (0, 2147483651, 2147483651), (0, 2147483652, 2147483652), (0, 2147483653, 2147483653), (0, 2147483654, 2147483654), (0, 2147483655, 2147483655), (0, 2147483656, 4294967295)], xb_T, xb_T, xb_T, xb_T]
theorem xo_v14 : (xo_c14.all fun c => xb_cv 0 c) = true := by decide +kernel
theorem xo_r14 : xl_go 25000 660 xo_c14 = true := by decide +kernel
def xo_c19 : List (List xe_v) := [[(0, 0, 2147483647), (0, 2147483648, 2147483651), (0, 2147483652, 4294967295)], [(0, 0, 2147483646), (0, 2147483647, 2147483647), (0, 2147483648, 2147483648), (0, 2147483649, 2147483649), (0, 2147483650, 2147483650), (0, 2147483651, 2147483651), (0, 2147483652, 4294967295)], xb_T, xb_T, xb_T]
theorem xo_v19 : (xo_c19.all fun c => xb_cv 0 c) = true := by decide +kernel
theorem xo_r19 : xl_go 25000 837 xo_c19 = true := by decide +kernel
