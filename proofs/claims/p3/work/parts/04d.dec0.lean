set_option maxRecDepth 1000000 in
theorem okD_0 : (List.range 8).all (fun j => (MC (0 + j)).all (okDB (0 + j))) = true := by decide +kernel
set_option maxRecDepth 1000000 in
theorem okD_4 : (List.range 8).all (fun j => (MC (32 + j)).all (okDB (32 + j))) = true := by decide +kernel
set_option maxRecDepth 1000000 in
theorem okD_8 : (List.range 8).all (fun j => (MC (64 + j)).all (okDB (64 + j))) = true := by decide +kernel
set_option maxRecDepth 1000000 in
theorem okD_12 : (List.range 8).all (fun j => (MC (96 + j)).all (okDB (96 + j))) = true := by decide +kernel
set_option maxRecDepth 1000000 in
theorem okD_16 : (List.range 8).all (fun j => (MC (128 + j)).all (okDB (128 + j))) = true := by decide +kernel
set_option maxRecDepth 1000000 in
theorem okD_20 : (List.range 8).all (fun j => (MC (160 + j)).all (okDB (160 + j))) = true := by decide +kernel
set_option maxRecDepth 1000000 in
theorem okD_24 : (List.range 8).all (fun j => (MC (192 + j)).all (okDB (192 + j))) = true := by decide +kernel
set_option maxRecDepth 1000000 in
theorem okD_28 : (List.range 8).all (fun j => (MC (224 + j)).all (okDB (224 + j))) = true := by decide +kernel
set_option maxRecDepth 1000000 in
theorem okDL_2 : (((MC 240).drop 240).take 120).all (okDB 240) = true := by decide +kernel
set_option maxRecDepth 1000000 in
theorem okDL_6 : (((MC 240).drop 720).take 120).all (okDB 240) = true := by decide +kernel
