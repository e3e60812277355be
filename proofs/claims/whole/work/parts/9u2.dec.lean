set_option maxRecDepth 100000 in
theorem dcL_10 : (List.range 60).all (fun j => jChk code (600 + j) (tL_law (600 + j))) = true := by decide +kernel
set_option maxRecDepth 100000 in
theorem dcL_11 : (List.range 60).all (fun j => jChk code (660 + j) (tL_law (660 + j))) = true := by decide +kernel
set_option maxRecDepth 100000 in
theorem dcL_12 : (List.range 60).all (fun j => jChk code (720 + j) (tL_law (720 + j))) = true := by decide +kernel
set_option maxRecDepth 100000 in
theorem dcL_13 : (List.range 60).all (fun j => jChk code (780 + j) (tL_law (780 + j))) = true := by decide +kernel
set_option maxRecDepth 100000 in
theorem dcL_14 : (List.range 60).all (fun j => jChk code (840 + j) (tL_law (840 + j))) = true := by decide +kernel
set_option maxRecDepth 100000 in
theorem dcL_15 : (List.range 60).all (fun j => jChk code (900 + j) (tL_law (900 + j))) = true := by decide +kernel
set_option maxRecDepth 100000 in
theorem dcL_16 : (List.range 60).all (fun j => jChk code (960 + j) (tL_law (960 + j))) = true := by decide +kernel
set_option maxRecDepth 100000 in
theorem dcL_17 : (List.range 60).all (fun j => jChk code (1020 + j) (tL_law (1020 + j))) = true := by decide +kernel
set_option maxRecDepth 100000 in
theorem dcL_18 : (List.range 60).all (fun j => jChk code (1080 + j) (tL_law (1080 + j))) = true := by decide +kernel
set_option maxRecDepth 100000 in
theorem dcL_19 : (List.range 60).all (fun j => jChk code (1140 + j) (tL_law (1140 + j))) = true := by decide +kernel

