/-! the law, block by block -/
set_option maxRecDepth 100000 in
set_option maxHeartbeats 4000000 in
theorem cl196_40 : chkL (cix 196) 196 (mxL 196) code (pcs 196) (pcb 196 40) (blk 196 40) = true := by decide +kernel
set_option maxRecDepth 100000 in
set_option maxHeartbeats 4000000 in
theorem cl196_41 : chkL (cix 196) 196 (mxL 196) code (pcs 196) (pcb 196 41) (blk 196 41) = true := by decide +kernel
set_option maxRecDepth 100000 in
set_option maxHeartbeats 4000000 in
theorem cl196_42 : chkL (cix 196) 196 (mxL 196) code (pcs 196) (pcb 196 42) (blk 196 42) = true := by decide +kernel
set_option maxRecDepth 100000 in
set_option maxHeartbeats 4000000 in
theorem cl196_43 : chkL (cix 196) 196 (mxL 196) code (pcs 196) (pcb 196 43) (blk 196 43) = true := by decide +kernel
set_option maxRecDepth 100000 in
set_option maxHeartbeats 4000000 in
theorem cl196_44 : chkL (cix 196) 196 (mxL 196) code (pcs 196) (pcb 196 44) (blk 196 44) = true := by decide +kernel
set_option maxRecDepth 100000 in
set_option maxHeartbeats 4000000 in
theorem cl196_45 : chkL (cix 196) 196 (mxL 196) code (pcs 196) (pcb 196 45) (blk 196 45) = true := by decide +kernel
set_option maxRecDepth 100000 in
set_option maxHeartbeats 4000000 in
theorem cl196_46 : chkL (cix 196) 196 (mxL 196) code (pcs 196) (pcb 196 46) (blk 196 46) = true := by decide +kernel
set_option maxRecDepth 100000 in
set_option maxHeartbeats 4000000 in
theorem cl196_47 : chkL (cix 196) 196 (mxL 196) code (pcs 196) (pcb 196 47) (blk 196 47) = true := by decide +kernel
set_option maxRecDepth 100000 in
set_option maxHeartbeats 4000000 in
theorem cl196_48 : chkL (cix 196) 196 (mxL 196) code (pcs 196) (pcb 196 48) (blk 196 48) = true := by decide +kernel
set_option maxRecDepth 100000 in
set_option maxHeartbeats 4000000 in
theorem cl196_49 : chkL (cix 196) 196 (mxL 196) code (pcs 196) (pcb 196 49) (blk 196 49) = true := by decide +kernel
set_option maxRecDepth 100000 in
set_option maxHeartbeats 4000000 in
theorem cl196_50 : chkL (cix 196) 196 (mxL 196) code (pcs 196) (pcb 196 50) (blk 196 50) = true := by decide +kernel
set_option maxRecDepth 100000 in
set_option maxHeartbeats 4000000 in
theorem cl196_51 : chkL (cix 196) 196 (mxL 196) code (pcs 196) (pcb 196 51) (blk 196 51) = true := by decide +kernel
set_option maxRecDepth 100000 in
set_option maxHeartbeats 4000000 in
theorem cl196_52 : chkL (cix 196) 196 (mxL 196) code (pcs 196) (pcb 196 52) (blk 196 52) = true := by decide +kernel
set_option maxRecDepth 100000 in
set_option maxHeartbeats 4000000 in
theorem cl196_53 : chkL (cix 196) 196 (mxL 196) code (pcs 196) (pcb 196 53) (blk 196 53) = true := by decide +kernel
set_option maxRecDepth 100000 in
set_option maxHeartbeats 4000000 in
theorem cl196_54 : chkL (cix 196) 196 (mxL 196) code (pcs 196) (pcb 196 54) (blk 196 54) = true := by decide +kernel
set_option maxRecDepth 100000 in
set_option maxHeartbeats 4000000 in
theorem cl196_55 : chkL (cix 196) 196 (mxL 196) code (pcs 196) (pcb 196 55) (blk 196 55) = true := by decide +kernel
set_option maxRecDepth 100000 in
set_option maxHeartbeats 4000000 in
theorem cl196_56 : chkL (cix 196) 196 (mxL 196) code (pcs 196) (pcb 196 56) (blk 196 56) = true := by decide +kernel
set_option maxRecDepth 100000 in
set_option maxHeartbeats 4000000 in
theorem cl196_57 : chkL (cix 196) 196 (mxL 196) code (pcs 196) (pcb 196 57) (blk 196 57) = true := by decide +kernel
set_option maxRecDepth 100000 in
set_option maxHeartbeats 4000000 in
theorem cl196_58 : chkL (cix 196) 196 (mxL 196) code (pcs 196) (pcb 196 58) (blk 196 58) = true := by decide +kernel
set_option maxRecDepth 100000 in
set_option maxHeartbeats 4000000 in
theorem cl196_59 : chkL (cix 196) 196 (mxL 196) code (pcs 196) (pcb 196 59) (blk 196 59) = true := by decide +kernel
