theorem ev_texts : ev_1 (fn_L_texts gl_kd gl_init 6) = true := by decide +kernel
