set_option linter.all false
theorem rL_741_741_4560_4563_1_0 : frL gJ bsJ 100 ((741, 741), (4560, 4563), (1, 0), (0, 99)) := frL_of (by decide +kernel)
theorem rL_741_741_4570_4665_1_0 : frL gJ bsJ 100 ((741, 741), (4570, 4665), (1, 0), (0, 999)) := frL_of (by decide +kernel)
