set_option maxRecDepth 1000000 in
theorem okD_2 : (List.range 8).all (fun j => (MC (16 + j)).all (okDB (16 + j))) = true := by decide +kernel
set_option maxRecDepth 1000000 in
theorem okD_6 : (List.range 8).all (fun j => (MC (48 + j)).all (okDB (48 + j))) = true := by decide +kernel
set_option maxRecDepth 1000000 in
theorem okD_10 : (List.range 8).all (fun j => (MC (80 + j)).all (okDB (80 + j))) = true := by decide +kernel
set_option maxRecDepth 1000000 in
theorem okD_14 : (List.range 8).all (fun j => (MC (112 + j)).all (okDB (112 + j))) = true := by decide +kernel
set_option maxRecDepth 1000000 in
theorem okD_18 : (List.range 8).all (fun j => (MC (144 + j)).all (okDB (144 + j))) = true := by decide +kernel
set_option maxRecDepth 1000000 in
theorem okD_22 : (List.range 8).all (fun j => (MC (176 + j)).all (okDB (176 + j))) = true := by decide +kernel
set_option maxRecDepth 1000000 in
theorem okD_26 : (List.range 8).all (fun j => (MC (208 + j)).all (okDB (208 + j))) = true := by decide +kernel
set_option maxRecDepth 1000000 in
theorem okDL_0 : (((MC 240).drop 0).take 120).all (okDB 240) = true := by decide +kernel
set_option maxRecDepth 1000000 in
theorem okDL_4 : (((MC 240).drop 480).take 120).all (okDB 240) = true := by decide +kernel
set_option maxRecDepth 1000000 in
theorem okDL_8 : (((MC 240).drop 960).take 120).all (okDB 240) = true := by decide +kernel
