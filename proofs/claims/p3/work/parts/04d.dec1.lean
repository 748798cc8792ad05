set_option maxRecDepth 1000000 in
theorem okD_1 : (List.range 8).all (fun j => (MC (8 + j)).all (okDB (8 + j))) = true := by decide +kernel
set_option maxRecDepth 1000000 in
theorem okD_5 : (List.range 8).all (fun j => (MC (40 + j)).all (okDB (40 + j))) = true := by decide +kernel
set_option maxRecDepth 1000000 in
theorem okD_9 : (List.range 8).all (fun j => (MC (72 + j)).all (okDB (72 + j))) = true := by decide +kernel
set_option maxRecDepth 1000000 in
theorem okD_13 : (List.range 8).all (fun j => (MC (104 + j)).all (okDB (104 + j))) = true := by decide +kernel
set_option maxRecDepth 1000000 in
theorem okD_17 : (List.range 8).all (fun j => (MC (136 + j)).all (okDB (136 + j))) = true := by decide +kernel
set_option maxRecDepth 1000000 in
theorem okD_21 : (List.range 8).all (fun j => (MC (168 + j)).all (okDB (168 + j))) = true := by decide +kernel
set_option maxRecDepth 1000000 in
theorem okD_25 : (List.range 8).all (fun j => (MC (200 + j)).all (okDB (200 + j))) = true := by decide +kernel
set_option maxRecDepth 1000000 in
theorem okD_29 : (List.range 8).all (fun j => (MC (232 + j)).all (okDB (232 + j))) = true := by decide +kernel
set_option maxRecDepth 1000000 in
theorem okDL_3 : (((MC 240).drop 360).take 120).all (okDB 240) = true := by decide +kernel
set_option maxRecDepth 1000000 in
theorem okDL_7 : (((MC 240).drop 840).take 120).all (okDB 240) = true := by decide +kernel
