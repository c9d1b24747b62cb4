/-! the law, block by block -/
set_option maxRecDepth 100000 in
set_option maxHeartbeats 4000000 in
theorem cl196_60 : chkL (cix 196) 196 (mxL 196) code (pcs 196) (pcb 196 60) (blk 196 60) = true := by decide +kernel
set_option maxRecDepth 100000 in
set_option maxHeartbeats 4000000 in
theorem cl196_61 : chkL (cix 196) 196 (mxL 196) code (pcs 196) (pcb 196 61) (blk 196 61) = true := by decide +kernel
set_option maxRecDepth 100000 in
set_option maxHeartbeats 4000000 in
theorem cl196_62 : chkL (cix 196) 196 (mxL 196) code (pcs 196) (pcb 196 62) (blk 196 62) = true := by decide +kernel
set_option maxRecDepth 100000 in
set_option maxHeartbeats 4000000 in
theorem cl196_63 : chkL (cix 196) 196 (mxL 196) code (pcs 196) (pcb 196 63) (blk 196 63) = true := by decide +kernel
set_option maxRecDepth 100000 in
set_option maxHeartbeats 4000000 in
theorem cl196_64 : chkL (cix 196) 196 (mxL 196) code (pcs 196) (pcb 196 64) (blk 196 64) = true := by decide +kernel
set_option maxRecDepth 100000 in
set_option maxHeartbeats 4000000 in
theorem cl196_65 : chkL (cix 196) 196 (mxL 196) code (pcs 196) (pcb 196 65) (blk 196 65) = true := by decide +kernel
set_option maxRecDepth 100000 in
set_option maxHeartbeats 4000000 in
theorem cl196_66 : chkL (cix 196) 196 (mxL 196) code (pcs 196) (pcb 196 66) (blk 196 66) = true := by decide +kernel
set_option maxRecDepth 100000 in
set_option maxHeartbeats 4000000 in
theorem cl196_67 : chkL (cix 196) 196 (mxL 196) code (pcs 196) (pcb 196 67) (blk 196 67) = true := by decide +kernel
set_option maxRecDepth 100000 in
set_option maxHeartbeats 4000000 in
theorem cl196_68 : chkL (cix 196) 196 (mxL 196) code (pcs 196) (pcb 196 68) (blk 196 68) = true := by decide +kernel
set_option maxRecDepth 100000 in
set_option maxHeartbeats 4000000 in
theorem cl196_69 : chkL (cix 196) 196 (mxL 196) code (pcs 196) (pcb 196 69) (blk 196 69) = true := by decide +kernel
set_option maxRecDepth 100000 in
set_option maxHeartbeats 4000000 in
theorem cl196_70 : chkL (cix 196) 196 (mxL 196) code (pcs 196) (pcb 196 70) (blk 196 70) = true := by decide +kernel
set_option maxRecDepth 100000 in
set_option maxHeartbeats 4000000 in
theorem cl196_71 : chkL (cix 196) 196 (mxL 196) code (pcs 196) (pcb 196 71) (blk 196 71) = true := by decide +kernel
set_option maxRecDepth 100000 in
set_option maxHeartbeats 4000000 in
theorem cl196_72 : chkL (cix 196) 196 (mxL 196) code (pcs 196) (pcb 196 72) (blk 196 72) = true := by decide +kernel
set_option maxRecDepth 100000 in
set_option maxHeartbeats 4000000 in
theorem cl196_73 : chkL (cix 196) 196 (mxL 196) code (pcs 196) (pcb 196 73) (blk 196 73) = true := by decide +kernel
set_option maxRecDepth 100000 in
set_option maxHeartbeats 4000000 in
theorem cl196_74 : chkL (cix 196) 196 (mxL 196) code (pcs 196) (pcb 196 74) (blk 196 74) = true := by decide +kernel
set_option maxRecDepth 100000 in
set_option maxHeartbeats 4000000 in
theorem cl196_75 : chkL (cix 196) 196 (mxL 196) code (pcs 196) (pcb 196 75) (blk 196 75) = true := by decide +kernel
set_option maxRecDepth 100000 in
set_option maxHeartbeats 4000000 in
theorem cl196_76 : chkL (cix 196) 196 (mxL 196) code (pcs 196) (pcb 196 76) (blk 196 76) = true := by decide +kernel
set_option maxRecDepth 100000 in
set_option maxHeartbeats 4000000 in
theorem cl196_77 : chkL (cix 196) 196 (mxL 196) code (pcs 196) (pcb 196 77) (blk 196 77) = true := by decide +kernel
set_option maxRecDepth 100000 in
set_option maxHeartbeats 4000000 in
theorem cl196_78 : chkL (cix 196) 196 (mxL 196) code (pcs 196) (pcb 196 78) (blk 196 78) = true := by decide +kernel
