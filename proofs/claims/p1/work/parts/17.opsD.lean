/-! runs over boxes: lamp, printed by a program (wip/gen/ops.py) -/
def xo_c27 : List (List xe_v) := [[(0, 0, 2147483647), (0, 2147483648, 2147483648), (0, 2147483649, 2147483649), (0, 2147483650, 2147483650), (0, 2147483651, 2147483651), (0, 2147483652, 2147483652), (0, 2147483653, 2147483653), (0, 2147483654, 2147483654), (0, 2147483655, 2147483655), (0, 2147483656, 2147483656), (0, 2147483657, 2147483657), (0, 2147483658, 2147483658), (0, 2147483659, 4294967295)], [(0, 0, 2147483648), (0, 2147483649, 2147483649), (0, 2147483650, 2147483650), (0, 2147483651, 2147483651), (0, 2147483652, 2147483652), (0, 2147483653, 2147483653), (0, 2147483654, 2147483654), (0, 2147483655, 2147483655), (0, 2147483656, 2147483656), (0, 2147483657, 2147483657), (0, 2147483658, 2147483658), (0, 2147483659, 2147483659), (0, 2147483660, 2147483660), (0, 2147483661, 2147483661), (0, 2147483662, 2147483662), (0, 2147483663, 2147483663), (0, 2147483664, 4294967295)], [(0, 0, 2147483647), (0, 2147483648, 2147483648), (0, 2147483649, 2147483649), (0, 2147483650, 4294967295)], xb_T, xb_T]
theorem xo_v27 : (xo_c27.all fun c => xb_cv 0 c) = true := by decide +kernel
theorem xo_r27_0 : xl_go 25000 1134 ([(0, 0, 2147483647)] :: xo_c27.tail) = true := by decide +kernel
theorem xo_r27_1 : xl_go 25000 1134 ([(0, 2147483648, 2147483648)] :: xo_c27.tail) = true := by decide +kernel
theorem xo_r27_2 : xl_go 25000 1134 ([(0, 2147483649, 2147483649)] :: xo_c27.tail) = true := by decide +kernel
theorem xo_r27_3 : xl_go 25000 1134 ([(0, 2147483650, 2147483650)] :: xo_c27.tail) = true := by decide +kernel
theorem xo_r27_4 : xl_go 25000 1134 ([(0, 2147483651, 2147483651)] :: xo_c27.tail) = true := by decide +kernel
theorem xo_r27_5 : xl_go 25000 1134 ([(0, 2147483652, 2147483652)] :: xo_c27.tail) = true := by decide +kernel
theorem xo_r27_6 : xl_go 25000 1134 ([(0, 2147483653, 2147483653)] :: xo_c27.tail) = true := by decide +kernel
theorem xo_r27_7 : xl_go 25000 1134 ([(0, 2147483654, 2147483654)] :: xo_c27.tail) = true := by decide +kernel
theorem xo_r27_8 : xl_go 25000 1134 ([(0, 2147483655, 2147483655)] :: xo_c27.tail) = true := by decide +kernel
theorem xo_r27_9 : xl_go 25000 1134 ([(0, 2147483656, 2147483656)] :: xo_c27.tail) = true := by decide +kernel
theorem xo_r27_10 : xl_go 25000 1134 ([(0, 2147483657, 2147483657)] :: xo_c27.tail) = true := by decide +kernel
theorem xo_r27_11 : xl_go 25000 1134 ([(0, 2147483658, 2147483658)] :: xo_c27.tail) = true := by decide +kernel
theorem xo_r27_12 : xl_go 25000 1134 ([(0, 2147483659, 4294967295)] :: xo_c27.tail) = true := by decide +kernel
theorem xo_r27 : xl_go 25000 1134 xo_c27 = true := xl_go_cut (fun a ha => by
  simp only [List.mem_cons, List.not_mem_nil, or_false] at ha
  rcases ha with rfl | rfl | rfl | rfl | rfl | rfl | rfl | rfl | rfl | rfl | rfl | rfl | rfl
  · exact xo_r27_0
  · exact xo_r27_1
  · exact xo_r27_2
  · exact xo_r27_3
  · exact xo_r27_4
  · exact xo_r27_5
  · exact xo_r27_6
  · exact xo_r27_7
  · exact xo_r27_8
  · exact xo_r27_9
  · exact xo_r27_10
  · exact xo_r27_11
  · exact xo_r27_12)
