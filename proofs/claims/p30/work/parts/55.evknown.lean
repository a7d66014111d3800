theorem ev_known : ev_1 (fn_L_known gl_kd gl_init 6) = true := by decide +kernel
