theorem ya : (xmY xm_0).cls = xmO xm_0 := by decide +kernel
theorem yb : plainName (xmO xm_0) = true := by decide +kernel
theorem yc : xw 101 (.initialized (xmO xm_0)) = true := by decide +kernel
theorem yd : xw 602 (.code (xmY xm_0) (xmB xm_0) (xmL xm_0) (xmR xm_0)) = true := by decide +kernel
theorem ye : (parseMethodDescriptor (xmY xm_0).desc).map (fun d => d.parameters.length) = some (xmN xm_0) := by decide +kernel
theorem yf : xw 601 (.static (xmY xm_0)) = true := by decide +kernel
