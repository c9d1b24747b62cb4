/-! the law, block by block -/
set_option maxRecDepth 100000 in
set_option maxHeartbeats 4000000 in
theorem cl196_20 : chkL (cix 196) 196 (mxL 196) code (pcs 196) (pcb 196 20) (blk 196 20) = true := by decide +kernel
set_option maxRecDepth 100000 in
set_option maxHeartbeats 4000000 in
theorem cl196_21 : chkL (cix 196) 196 (mxL 196) code (pcs 196) (pcb 196 21) (blk 196 21) = true := by decide +kernel
set_option maxRecDepth 100000 in
set_option maxHeartbeats 4000000 in
theorem cl196_22 : chkL (cix 196) 196 (mxL 196) code (pcs 196) (pcb 196 22) (blk 196 22) = true := by decide +kernel
set_option maxRecDepth 100000 in
set_option maxHeartbeats 4000000 in
theorem cl196_23 : chkL (cix 196) 196 (mxL 196) code (pcs 196) (pcb 196 23) (blk 196 23) = true := by decide +kernel
set_option maxRecDepth 100000 in
set_option maxHeartbeats 4000000 in
theorem cl196_24 : chkL (cix 196) 196 (mxL 196) code (pcs 196) (pcb 196 24) (blk 196 24) = true := by decide +kernel
set_option maxRecDepth 100000 in
set_option maxHeartbeats 4000000 in
theorem cl196_25 : chkL (cix 196) 196 (mxL 196) code (pcs 196) (pcb 196 25) (blk 196 25) = true := by decide +kernel
set_option maxRecDepth 100000 in
set_option maxHeartbeats 4000000 in
theorem cl196_26 : chkL (cix 196) 196 (mxL 196) code (pcs 196) (pcb 196 26) (blk 196 26) = true := by decide +kernel
set_option maxRecDepth 100000 in
set_option maxHeartbeats 4000000 in
theorem cl196_27 : chkL (cix 196) 196 (mxL 196) code (pcs 196) (pcb 196 27) (blk 196 27) = true := by decide +kernel
set_option maxRecDepth 100000 in
set_option maxHeartbeats 4000000 in
theorem cl196_28 : chkL (cix 196) 196 (mxL 196) code (pcs 196) (pcb 196 28) (blk 196 28) = true := by decide +kernel
set_option maxRecDepth 100000 in
set_option maxHeartbeats 4000000 in
theorem cl196_29 : chkL (cix 196) 196 (mxL 196) code (pcs 196) (pcb 196 29) (blk 196 29) = true := by decide +kernel
set_option maxRecDepth 100000 in
set_option maxHeartbeats 4000000 in
theorem cl196_30 : chkL (cix 196) 196 (mxL 196) code (pcs 196) (pcb 196 30) (blk 196 30) = true := by decide +kernel
set_option maxRecDepth 100000 in
set_option maxHeartbeats 4000000 in
theorem cl196_31 : chkL (cix 196) 196 (mxL 196) code (pcs 196) (pcb 196 31) (blk 196 31) = true := by decide +kernel
set_option maxRecDepth 100000 in
set_option maxHeartbeats 4000000 in
theorem cl196_32 : chkL (cix 196) 196 (mxL 196) code (pcs 196) (pcb 196 32) (blk 196 32) = true := by decide +kernel
set_option maxRecDepth 100000 in
set_option maxHeartbeats 4000000 in
theorem cl196_33 : chkL (cix 196) 196 (mxL 196) code (pcs 196) (pcb 196 33) (blk 196 33) = true := by decide +kernel
set_option maxRecDepth 100000 in
set_option maxHeartbeats 4000000 in
theorem cl196_34 : chkL (cix 196) 196 (mxL 196) code (pcs 196) (pcb 196 34) (blk 196 34) = true := by decide +kernel
set_option maxRecDepth 100000 in
set_option maxHeartbeats 4000000 in
theorem cl196_35 : chkL (cix 196) 196 (mxL 196) code (pcs 196) (pcb 196 35) (blk 196 35) = true := by decide +kernel
set_option maxRecDepth 100000 in
set_option maxHeartbeats 4000000 in
theorem cl196_36 : chkL (cix 196) 196 (mxL 196) code (pcs 196) (pcb 196 36) (blk 196 36) = true := by decide +kernel
set_option maxRecDepth 100000 in
set_option maxHeartbeats 4000000 in
theorem cl196_37 : chkL (cix 196) 196 (mxL 196) code (pcs 196) (pcb 196 37) (blk 196 37) = true := by decide +kernel
set_option maxRecDepth 100000 in
set_option maxHeartbeats 4000000 in
theorem cl196_38 : chkL (cix 196) 196 (mxL 196) code (pcs 196) (pcb 196 38) (blk 196 38) = true := by decide +kernel
set_option maxRecDepth 100000 in
set_option maxHeartbeats 4000000 in
theorem cl196_39 : chkL (cix 196) 196 (mxL 196) code (pcs 196) (pcb 196 39) (blk 196 39) = true := by decide +kernel
