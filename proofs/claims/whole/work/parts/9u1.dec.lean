set_option maxRecDepth 100000 in
theorem dcL_0 : (List.range 60).all (fun j => jChk code (0 + j) (tL_law (0 + j))) = true := by decide +kernel
set_option maxRecDepth 100000 in
theorem dcL_1 : (List.range 60).all (fun j => jChk code (60 + j) (tL_law (60 + j))) = true := by decide +kernel
set_option maxRecDepth 100000 in
theorem dcL_2 : (List.range 60).all (fun j => jChk code (120 + j) (tL_law (120 + j))) = true := by decide +kernel
set_option maxRecDepth 100000 in
theorem dcL_3 : (List.range 60).all (fun j => jChk code (180 + j) (tL_law (180 + j))) = true := by decide +kernel
set_option maxRecDepth 100000 in
theorem dcL_4 : (List.range 60).all (fun j => jChk code (240 + j) (tL_law (240 + j))) = true := by decide +kernel
set_option maxRecDepth 100000 in
theorem dcL_5 : (List.range 60).all (fun j => jChk code (300 + j) (tL_law (300 + j))) = true := by decide +kernel
set_option maxRecDepth 100000 in
theorem dcL_6 : (List.range 60).all (fun j => jChk code (360 + j) (tL_law (360 + j))) = true := by decide +kernel
set_option maxRecDepth 100000 in
theorem dcL_7 : (List.range 60).all (fun j => jChk code (420 + j) (tL_law (420 + j))) = true := by decide +kernel
set_option maxRecDepth 100000 in
theorem dcL_8 : (List.range 60).all (fun j => jChk code (480 + j) (tL_law (480 + j))) = true := by decide +kernel
set_option maxRecDepth 100000 in
theorem dcL_9 : (List.range 60).all (fun j => jChk code (540 + j) (tL_law (540 + j))) = true := by decide +kernel

