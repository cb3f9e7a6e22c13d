theorem x_X11_118 : XF RX11 118 122 "java/lang/IllegalArgumentException" ["java/lang/RuntimeException", "java/lang/Exception"] := ⟨by decide +kernel, by decide +kernel, w_874, w_23, by decide +kernel, rfl⟩
theorem x_X11_128 : XF RX11 128 132 "java/lang/UnsupportedOperationException" ["java/lang/RuntimeException", "java/lang/Exception"] := ⟨by decide +kernel, by decide +kernel, w_944, w_24, by decide +kernel, rfl⟩
theorem x_X11_158 : XF RX11 158 162 "java/lang/IndexOutOfBoundsException" ["java/lang/RuntimeException", "java/lang/Exception"] := ⟨by decide +kernel, by decide +kernel, w_985, w_25, by decide +kernel, rfl⟩
theorem x_X11_163 : XF RX11 163 167 "java/util/NoSuchElementException" ["java/lang/RuntimeException", "java/lang/Exception"] := ⟨by decide +kernel, by decide +kernel, w_1001, w_26, by decide +kernel, rfl⟩
theorem x_X11_223 : XF RX11 223 227 "java/lang/IllegalStateException" ["java/lang/RuntimeException", "java/lang/Exception"] := ⟨by decide +kernel, by decide +kernel, w_1044, w_27, by decide +kernel, rfl⟩
theorem a_X10_40_5 : AF RX10 40 5 ⟨"BiteYears$Text", "readLine", "()Z"⟩ mX5_readLine 0 := ⟨⟨w_660, w_662, w_663, w_664, w_10, w_665⟩, rfl, nw_661, by decide +kernel, by decide⟩
theorem a_X10_40_6 : AF RX10 40 6 ⟨"BiteYears$Text", "readLine", "()Z"⟩ mX6_readLine 0 := ⟨⟨w_660, w_662, w_818, w_819, w_9, w_820⟩, rfl, nw_661, by decide +kernel, by decide⟩
