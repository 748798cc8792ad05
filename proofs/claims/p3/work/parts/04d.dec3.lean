set_option maxRecDepth 1000000 in
theorem okD_3 : (List.range 8).all (fun j => (MC (24 + j)).all (okDB (24 + j))) = true := by decide +kernel
set_option maxRecDepth 1000000 in
theorem okD_7 : (List.range 8).all (fun j => (MC (56 + j)).all (okDB (56 + j))) = true := by decide +kernel
set_option maxRecDepth 1000000 in
theorem okD_11 : (List.range 8).all (fun j => (MC (88 + j)).all (okDB (88 + j))) = true := by decide +kernel
set_option maxRecDepth 1000000 in
theorem okD_15 : (List.range 8).all (fun j => (MC (120 + j)).all (okDB (120 + j))) = true := by decide +kernel
set_option maxRecDepth 1000000 in
theorem okD_19 : (List.range 8).all (fun j => (MC (152 + j)).all (okDB (152 + j))) = true := by decide +kernel
set_option maxRecDepth 1000000 in
theorem okD_23 : (List.range 8).all (fun j => (MC (184 + j)).all (okDB (184 + j))) = true := by decide +kernel
set_option maxRecDepth 1000000 in
theorem okD_27 : (List.range 8).all (fun j => (MC (216 + j)).all (okDB (216 + j))) = true := by decide +kernel
set_option maxRecDepth 1000000 in
theorem okDL_1 : (((MC 240).drop 120).take 120).all (okDB 240) = true := by decide +kernel
set_option maxRecDepth 1000000 in
theorem okDL_5 : (((MC 240).drop 600).take 120).all (okDB 240) = true := by decide +kernel
set_option maxRecDepth 1000000 in
theorem okDL_9 : (((MC 240).drop 1080).take 120).all (okDB 240) = true := by decide +kernel
