set_option maxRecDepth 100000 in
theorem dcL_20 : (List.range 60).all (fun j => jChk code (1200 + j) (tL_law (1200 + j))) = true := by decide +kernel
set_option maxRecDepth 100000 in
theorem dcL_21 : (List.range 60).all (fun j => jChk code (1260 + j) (tL_law (1260 + j))) = true := by decide +kernel
set_option maxRecDepth 100000 in
theorem dcL_22 : (List.range 60).all (fun j => jChk code (1320 + j) (tL_law (1320 + j))) = true := by decide +kernel
set_option maxRecDepth 100000 in
theorem dcL_23 : (List.range 60).all (fun j => jChk code (1380 + j) (tL_law (1380 + j))) = true := by decide +kernel
set_option maxRecDepth 100000 in
theorem dcL_24 : (List.range 60).all (fun j => jChk code (1440 + j) (tL_law (1440 + j))) = true := by decide +kernel
set_option maxRecDepth 100000 in
theorem dcL_25 : (List.range 60).all (fun j => jChk code (1500 + j) (tL_law (1500 + j))) = true := by decide +kernel
set_option maxRecDepth 100000 in
theorem dcL_26 : (List.range 60).all (fun j => jChk code (1560 + j) (tL_law (1560 + j))) = true := by decide +kernel
set_option maxRecDepth 100000 in
theorem dcL_27 : (List.range 60).all (fun j => jChk code (1620 + j) (tL_law (1620 + j))) = true := by decide +kernel
set_option maxRecDepth 100000 in
theorem dcL_28 : (List.range 60).all (fun j => jChk code (1680 + j) (tL_law (1680 + j))) = true := by decide +kernel
set_option maxRecDepth 100000 in
theorem dcL_29 : (List.range 60).all (fun j => jChk code (1740 + j) (tL_law (1740 + j))) = true := by decide +kernel

