/-! the law, block by block -/
set_option maxRecDepth 100000 in
set_option maxHeartbeats 4000000 in
theorem cl196_0 : chkL (cix 196) 196 (mxL 196) code (pcs 196) (pcb 196 0) (blk 196 0) = true := by decide +kernel
set_option maxRecDepth 100000 in
set_option maxHeartbeats 4000000 in
theorem cl196_1 : chkL (cix 196) 196 (mxL 196) code (pcs 196) (pcb 196 1) (blk 196 1) = true := by decide +kernel
set_option maxRecDepth 100000 in
set_option maxHeartbeats 4000000 in
theorem cl196_2 : chkL (cix 196) 196 (mxL 196) code (pcs 196) (pcb 196 2) (blk 196 2) = true := by decide +kernel
set_option maxRecDepth 100000 in
set_option maxHeartbeats 4000000 in
theorem cl196_3 : chkL (cix 196) 196 (mxL 196) code (pcs 196) (pcb 196 3) (blk 196 3) = true := by decide +kernel
set_option maxRecDepth 100000 in
set_option maxHeartbeats 4000000 in
theorem cl196_4 : chkL (cix 196) 196 (mxL 196) code (pcs 196) (pcb 196 4) (blk 196 4) = true := by decide +kernel
set_option maxRecDepth 100000 in
set_option maxHeartbeats 4000000 in
theorem cl196_5 : chkL (cix 196) 196 (mxL 196) code (pcs 196) (pcb 196 5) (blk 196 5) = true := by decide +kernel
set_option maxRecDepth 100000 in
set_option maxHeartbeats 4000000 in
theorem cl196_6 : chkL (cix 196) 196 (mxL 196) code (pcs 196) (pcb 196 6) (blk 196 6) = true := by decide +kernel
set_option maxRecDepth 100000 in
set_option maxHeartbeats 4000000 in
theorem cl196_7 : chkL (cix 196) 196 (mxL 196) code (pcs 196) (pcb 196 7) (blk 196 7) = true := by decide +kernel
set_option maxRecDepth 100000 in
set_option maxHeartbeats 4000000 in
theorem cl196_8 : chkL (cix 196) 196 (mxL 196) code (pcs 196) (pcb 196 8) (blk 196 8) = true := by decide +kernel
set_option maxRecDepth 100000 in
set_option maxHeartbeats 4000000 in
theorem cl196_9 : chkL (cix 196) 196 (mxL 196) code (pcs 196) (pcb 196 9) (blk 196 9) = true := by decide +kernel
set_option maxRecDepth 100000 in
set_option maxHeartbeats 4000000 in
theorem cl196_10 : chkL (cix 196) 196 (mxL 196) code (pcs 196) (pcb 196 10) (blk 196 10) = true := by decide +kernel
set_option maxRecDepth 100000 in
set_option maxHeartbeats 4000000 in
theorem cl196_11 : chkL (cix 196) 196 (mxL 196) code (pcs 196) (pcb 196 11) (blk 196 11) = true := by decide +kernel
set_option maxRecDepth 100000 in
set_option maxHeartbeats 4000000 in
theorem cl196_12 : chkL (cix 196) 196 (mxL 196) code (pcs 196) (pcb 196 12) (blk 196 12) = true := by decide +kernel
set_option maxRecDepth 100000 in
set_option maxHeartbeats 4000000 in
theorem cl196_13 : chkL (cix 196) 196 (mxL 196) code (pcs 196) (pcb 196 13) (blk 196 13) = true := by decide +kernel
set_option maxRecDepth 100000 in
set_option maxHeartbeats 4000000 in
theorem cl196_14 : chkL (cix 196) 196 (mxL 196) code (pcs 196) (pcb 196 14) (blk 196 14) = true := by decide +kernel
set_option maxRecDepth 100000 in
set_option maxHeartbeats 4000000 in
theorem cl196_15 : chkL (cix 196) 196 (mxL 196) code (pcs 196) (pcb 196 15) (blk 196 15) = true := by decide +kernel
set_option maxRecDepth 100000 in
set_option maxHeartbeats 4000000 in
theorem cl196_16 : chkL (cix 196) 196 (mxL 196) code (pcs 196) (pcb 196 16) (blk 196 16) = true := by decide +kernel
set_option maxRecDepth 100000 in
set_option maxHeartbeats 4000000 in
theorem cl196_17 : chkL (cix 196) 196 (mxL 196) code (pcs 196) (pcb 196 17) (blk 196 17) = true := by decide +kernel
set_option maxRecDepth 100000 in
set_option maxHeartbeats 4000000 in
theorem cl196_18 : chkL (cix 196) 196 (mxL 196) code (pcs 196) (pcb 196 18) (blk 196 18) = true := by decide +kernel
set_option maxRecDepth 100000 in
set_option maxHeartbeats 4000000 in
theorem cl196_19 : chkL (cix 196) 196 (mxL 196) code (pcs 196) (pcb 196 19) (blk 196 19) = true := by decide +kernel
