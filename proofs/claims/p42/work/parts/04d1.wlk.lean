set_option maxRecDepth 1000000 in
theorem okW_0 : (List.range 40).all (fun j => okWk (0 + j)) = true := by decide +kernel
set_option maxRecDepth 1000000 in
theorem okW_40 : (List.range 40).all (fun j => okWk (40 + j)) = true := by decide +kernel
set_option maxRecDepth 1000000 in
theorem okW_80 : (List.range 40).all (fun j => okWk (80 + j)) = true := by decide +kernel
set_option maxRecDepth 1000000 in
theorem okW_120 : (List.range 40).all (fun j => okWk (120 + j)) = true := by decide +kernel
set_option maxRecDepth 1000000 in
theorem okW_160 : (List.range 40).all (fun j => okWk (160 + j)) = true := by decide +kernel
set_option maxRecDepth 1000000 in
theorem okW_200 : (List.range 40).all (fun j => okWk (200 + j)) = true := by decide +kernel
set_option maxRecDepth 1000000 in
theorem okW_240 : okWk 240 = true := by decide +kernel
