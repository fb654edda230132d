def kBegin (N : Nat) (s : CS) (v0 : Int32) : Option (CS) := (ex_Interpreter_begin N s.o_interpreter s.g_interpreter_at s.g_interpreter_ends 65536 s.g_tape v0).map (fun u => ((s.1, s.2.1, s.2.2.1, s.2.2.2.1, s.2.2.2.2.1, s.2.2.2.2.2.1, s.2.2.2.2.2.2.1, s.2.2.2.2.2.2.2.1, (s.o_interpreter, s.o_interpreter_parser, u.1, u.2, s.g_interpreter_actCount, s.g_interpreter_actNext, s.g_interpreter_copies, s.g_interpreter_called, s.g_interpreter_acts, s.g_interpreter_actIds, s.g_interpreter_parser_data), s.2.2.2.2.2.2.2.2.2.1, s.2.2.2.2.2.2.2.2.2.2.1, s.2.2.2.2.2.2.2.2.2.2.2) : CS))

def kSubmit (N : Nat) (s : CS) (v0 : Int32) (v1 : Int32) : Option (CS × Int32) := (ex_Main_submit N s.o_this s.g_tape s.o_picture s.o_coder s.o_reader s.o_file s.n_picture_types s.g_picture_types s.n_picture_counts s.g_picture_counts s.n_picture_places s.g_picture_places s.g_coder_above s.g_coder_line s.g_reader_tree s.g_reader_above s.g_reader_line s.g_file_bytes s.g_file_table s.o_page s.o_sheet s.o_fonts s.o_macros s.o_raster s.o_interpreter s.o_interpreter_parser s.g_interpreter_copies s.g_interpreter_at s.g_interpreter_ends s.g_interpreter_called s.g_interpreter_acts s.g_interpreter_actIds s.g_interpreter_actCount s.g_interpreter_actNext s.g_page_stack s.g_page_kept s.g_macros_ids s.g_macros_places s.g_macros_lengths s.g_macros_permanent s.g_macros_bytes s.n_macros_collected s.g_macros_collected s.g_macros_saidActs s.g_macros_saidIds s.g_interpreter_parser_data s.g_sheet_marks s.g_sheet_dots s.n_sheet_band s.g_sheet_band s.g_fonts_ids s.g_fonts_attributes s.g_fonts_permanent s.g_fonts_glyphs s.g_fonts_dots s.g_fonts_wishes s.g_fonts_pins s.g_fonts_chosen s.g_fonts_left s.g_fonts_coming s.g_raster_seed v0 v1).map (fun u => ((((u.1, s.g_tape), s.2.1, (u.2.1, s.n_picture_types, u.2.2.2.2.2.1, s.n_picture_counts, u.2.2.2.2.2.2.1, s.n_picture_places, u.2.2.2.2.2.2.2.1), (u.2.2.2.1, s.g_reader_tree, u.2.2.2.2.2.2.2.2.2.2.1, u.2.2.2.2.2.2.2.2.2.2.2.1), (u.2.2.1, u.2.2.2.2.2.2.2.2.2.1, u.2.2.2.2.2.2.2.2.1), (u.2.2.2.2.2.2.2.2.2.2.2.2.2.2.2.1, u.2.2.2.2.2.2.2.2.2.2.2.2.2.2.2.2.2.2.2.2.2.2.2.2.2.2.2.2.2.2.2.2.2.2.2.2.2.2.2.2.1, u.2.2.2.2.2.2.2.2.2.2.2.2.2.2.2.2.2.2.2.2.2.2.2.2.2.2.2.2.2.2.2.2.2.2.2.2.2.2.2.2.2.1, s.n_sheet_band, u.2.2.2.2.2.2.2.2.2.2.2.2.2.2.2.2.2.2.2.2.2.2.2.2.2.2.2.2.2.2.2.2.2.2.2.2.2.2.2.2.2.2.1), (u.2.2.2.2.2.2.2.2.2.2.2.2.2.2.1, u.2.2.2.2.2.2.2.2.2.2.2.2.2.2.2.2.2.2.2.2.2.2.2.2.2.2.2.2.2.1, u.2.2.2.2.2.2.2.2.2.2.2.2.2.2.2.2.2.2.2.2.2.2.2.2.2.2.2.2.2.2.1), (u.2.2.2.2.1, u.2.2.2.2.2.2.2.2.2.2.2.2.1, u.2.2.2.2.2.2.2.2.2.2.2.2.2.1), (u.2.2.2.2.2.2.2.2.2.2.2.2.2.2.2.2.2.2.2.1, u.2.2.2.2.2.2.2.2.2.2.2.2.2.2.2.2.2.2.2.2.1, u.2.2.2.2.2.2.2.2.2.2.2.2.2.2.2.2.2.2.2.2.2.2.1, u.2.2.2.2.2.2.2.2.2.2.2.2.2.2.2.2.2.2.2.2.2.2.2.1, u.2.2.2.2.2.2.2.2.2.2.2.2.2.2.2.2.2.2.2.2.2.2.2.2.2.2.2.1, u.2.2.2.2.2.2.2.2.2.2.2.2.2.2.2.2.2.2.2.2.2.2.2.2.2.2.2.2.1, u.2.2.2.2.2.2.2.2.2.2.2.2.2.2.2.2.2.2.2.2.2.1, u.2.2.2.2.2.2.2.2.2.2.2.2.2.2.2.2.2.2.2.2.2.2.2.2.1, u.2.2.2.2.2.2.2.2.2.2.2.2.2.2.2.2.2.2.2.2.2.2.2.2.2.1, u.2.2.2.2.2.2.2.2.2.2.2.2.2.2.2.2.2.2.2.2.2.2.2.2.2.2.1, u.2.2.2.2.2.2.2.2.2.2.2.2.2.2.2.2.2.2.2.2.2.2.2.2.2.2.2.2.2.2.2.2.2.2.2.2.2.2.2.1), (u.2.2.2.2.2.2.2.2.2.2.2.2.2.2.2.2.2.1, u.2.2.2.2.2.2.2.2.2.2.2.2.2.2.2.2.2.2.2.2.2.2.2.2.2.2.2.2.2.2.2.1, u.2.2.2.2.2.2.2.2.2.2.2.2.2.2.2.2.2.2.2.2.2.2.2.2.2.2.2.2.2.2.2.2.1, u.2.2.2.2.2.2.2.2.2.2.2.2.2.2.2.2.2.2.2.2.2.2.2.2.2.2.2.2.2.2.2.2.2.1, u.2.2.2.2.2.2.2.2.2.2.2.2.2.2.2.2.2.2.2.2.2.2.2.2.2.2.2.2.2.2.2.2.2.2.1, u.2.2.2.2.2.2.2.2.2.2.2.2.2.2.2.2.2.2.2.2.2.2.2.2.2.2.2.2.2.2.2.2.2.2.2.1, s.n_macros_collected, u.2.2.2.2.2.2.2.2.2.2.2.2.2.2.2.2.2.2.2.2.2.2.2.2.2.2.2.2.2.2.2.2.2.2.2.2.1, u.2.2.2.2.2.2.2.2.2.2.2.2.2.2.2.2.2.2.2.2.2.2.2.2.2.2.2.2.2.2.2.2.2.2.2.2.2.1, u.2.2.2.2.2.2.2.2.2.2.2.2.2.2.2.2.2.2.2.2.2.2.2.2.2.2.2.2.2.2.2.2.2.2.2.2.2.2.1), (u.2.2.2.2.2.2.2.2.2.2.2.2.2.2.2.2.1, u.2.2.2.2.2.2.2.2.2.2.2.2.2.2.2.2.2.2.2.2.2.2.2.2.2.2.2.2.2.2.2.2.2.2.2.2.2.2.2.2.2.2.2.1, u.2.2.2.2.2.2.2.2.2.2.2.2.2.2.2.2.2.2.2.2.2.2.2.2.2.2.2.2.2.2.2.2.2.2.2.2.2.2.2.2.2.2.2.2.1, u.2.2.2.2.2.2.2.2.2.2.2.2.2.2.2.2.2.2.2.2.2.2.2.2.2.2.2.2.2.2.2.2.2.2.2.2.2.2.2.2.2.2.2.2.2.1, u.2.2.2.2.2.2.2.2.2.2.2.2.2.2.2.2.2.2.2.2.2.2.2.2.2.2.2.2.2.2.2.2.2.2.2.2.2.2.2.2.2.2.2.2.2.2.1, u.2.2.2.2.2.2.2.2.2.2.2.2.2.2.2.2.2.2.2.2.2.2.2.2.2.2.2.2.2.2.2.2.2.2.2.2.2.2.2.2.2.2.2.2.2.2.2.1, u.2.2.2.2.2.2.2.2.2.2.2.2.2.2.2.2.2.2.2.2.2.2.2.2.2.2.2.2.2.2.2.2.2.2.2.2.2.2.2.2.2.2.2.2.2.2.2.2.1, u.2.2.2.2.2.2.2.2.2.2.2.2.2.2.2.2.2.2.2.2.2.2.2.2.2.2.2.2.2.2.2.2.2.2.2.2.2.2.2.2.2.2.2.2.2.2.2.2.2.1, u.2.2.2.2.2.2.2.2.2.2.2.2.2.2.2.2.2.2.2.2.2.2.2.2.2.2.2.2.2.2.2.2.2.2.2.2.2.2.2.2.2.2.2.2.2.2.2.2.2.2.1, u.2.2.2.2.2.2.2.2.2.2.2.2.2.2.2.2.2.2.2.2.2.2.2.2.2.2.2.2.2.2.2.2.2.2.2.2.2.2.2.2.2.2.2.2.2.2.2.2.2.2.2.1, u.2.2.2.2.2.2.2.2.2.2.2.2.2.2.2.2.2.2.2.2.2.2.2.2.2.2.2.2.2.2.2.2.2.2.2.2.2.2.2.2.2.2.2.2.2.2.2.2.2.2.2.2.1), (u.2.2.2.2.2.2.2.2.2.2.2.2.2.2.2.2.2.2.1, u.2.2.2.2.2.2.2.2.2.2.2.2.2.2.2.2.2.2.2.2.2.2.2.2.2.2.2.2.2.2.2.2.2.2.2.2.2.2.2.2.2.2.2.2.2.2.2.2.2.2.2.2.2.1)) : CS), u.2.2.2.2.2.2.2.2.2.2.2.2.2.2.2.2.2.2.2.2.2.2.2.2.2.2.2.2.2.2.2.2.2.2.2.2.2.2.2.2.2.2.2.2.2.2.2.2.2.2.2.2.2.2))

def kPictures (N : Nat) (s : CS) (v0 : Int32) : Option (CS × Int32) := (ex_Main_printPictures N s.o_this s.o_picture s.g_tape s.n_picture_types s.g_picture_types s.n_picture_counts s.g_picture_counts s.n_picture_places s.g_picture_places s.o_coder s.o_reader s.o_file s.g_coder_above s.g_coder_line s.g_file_bytes s.g_file_table s.g_reader_tree s.g_reader_above s.g_reader_line v0).map (fun u => ((((u.1, s.g_tape), s.2.1, (u.2.1, s.n_picture_types, u.2.2.1, s.n_picture_counts, u.2.2.2.1, s.n_picture_places, u.2.2.2.2.1), (u.2.2.2.2.2.2.1, s.g_reader_tree, u.2.2.2.2.2.2.2.2.2.2.2.2.1, u.2.2.2.2.2.2.2.2.2.2.2.2.2.1), (u.2.2.2.2.2.1, u.2.2.2.2.2.2.2.2.2.1, u.2.2.2.2.2.2.2.2.1), s.2.2.2.2.2.1, s.2.2.2.2.2.2.1, (u.2.2.2.2.2.2.2.1, u.2.2.2.2.2.2.2.2.2.2.1, u.2.2.2.2.2.2.2.2.2.2.2.1), s.2.2.2.2.2.2.2.2.1, s.2.2.2.2.2.2.2.2.2.1, s.2.2.2.2.2.2.2.2.2.2.1, s.2.2.2.2.2.2.2.2.2.2.2) : CS), u.2.2.2.2.2.2.2.2.2.2.2.2.2.2))

def kConclude (N : Nat) (s : CS) : Option (CS × Int32) := (ex_Main_conclude N s.o_this s.o_interpreter s.o_macros s.o_interpreter_parser s.g_interpreter_at s.g_interpreter_ends s.g_interpreter_actCount s.g_interpreter_actNext s.o_sheet s.o_page s.o_fonts s.g_fonts_ids s.g_fonts_attributes s.g_fonts_permanent s.g_fonts_glyphs s.g_fonts_dots s.g_fonts_wishes s.g_fonts_pins s.g_fonts_chosen s.g_fonts_left s.g_macros_ids s.g_macros_places s.g_macros_lengths s.g_macros_permanent s.g_macros_bytes s.o_raster s.o_file s.o_shown s.g_shown_bytes s.o_coder s.g_sheet_marks s.g_sheet_dots s.n_sheet_band s.g_sheet_band s.g_coder_above s.g_coder_line s.g_file_bytes s.g_file_table).map (fun u => ((((u.1, s.g_tape), (u.2.2.2.2.2.2.2.2.2.2.2.2.2.2.2.2.2.2.2.2.2.2.2.2.2.2.1, u.2.2.2.2.2.2.2.2.2.2.2.2.2.2.2.2.2.2.2.2.2.2.2.2.2.2.2.1, s.g_shown_table), s.2.2.1, s.2.2.2.1, (u.2.2.2.2.2.2.2.2.2.2.2.2.2.2.2.2.2.2.2.2.2.2.2.2.2.2.2.2.1, u.2.2.2.2.2.2.2.2.2.2.2.2.2.2.2.2.2.2.2.2.2.2.2.2.2.2.2.2.2.2.2.1, u.2.2.2.2.2.2.2.2.2.2.2.2.2.2.2.2.2.2.2.2.2.2.2.2.2.2.2.2.2.2.1), (u.2.2.2.2.2.2.2.1, s.g_sheet_marks, s.g_sheet_dots, s.n_sheet_band, u.2.2.2.2.2.2.2.2.2.2.2.2.2.2.2.2.2.2.2.2.2.2.2.2.2.2.2.2.2.1), (u.2.2.2.2.2.2.2.2.1, s.g_page_stack, s.g_page_kept), (u.2.2.2.2.2.2.2.2.2.2.2.2.2.2.2.2.2.2.2.2.2.2.2.2.2.1, u.2.2.2.2.2.2.2.2.2.2.2.2.2.2.2.2.2.2.2.2.2.2.2.2.2.2.2.2.2.2.2.2.1, u.2.2.2.2.2.2.2.2.2.2.2.2.2.2.2.2.2.2.2.2.2.2.2.2.2.2.2.2.2.2.2.2.2.1), (u.2.1, u.2.2.2.1, u.2.2.2.2.1, s.g_interpreter_ends, u.2.2.2.2.2.1, u.2.2.2.2.2.2.1, s.g_interpreter_copies, s.g_interpreter_called, s.g_interpreter_acts, s.g_interpreter_actIds, s.g_interpreter_parser_data), (u.2.2.1, u.2.2.2.2.2.2.2.2.2.2.2.2.2.2.2.2.2.2.2.1, u.2.2.2.2.2.2.2.2.2.2.2.2.2.2.2.2.2.2.2.2.1, u.2.2.2.2.2.2.2.2.2.2.2.2.2.2.2.2.2.2.2.2.2.1, u.2.2.2.2.2.2.2.2.2.2.2.2.2.2.2.2.2.2.2.2.2.2.1, u.2.2.2.2.2.2.2.2.2.2.2.2.2.2.2.2.2.2.2.2.2.2.2.1, s.n_macros_collected, s.g_macros_collected, s.g_macros_saidActs, s.g_macros_saidIds), (u.2.2.2.2.2.2.2.2.2.1, u.2.2.2.2.2.2.2.2.2.2.1, u.2.2.2.2.2.2.2.2.2.2.2.1, u.2.2.2.2.2.2.2.2.2.2.2.2.1, u.2.2.2.2.2.2.2.2.2.2.2.2.2.1, u.2.2.2.2.2.2.2.2.2.2.2.2.2.2.1, u.2.2.2.2.2.2.2.2.2.2.2.2.2.2.2.1, u.2.2.2.2.2.2.2.2.2.2.2.2.2.2.2.2.1, u.2.2.2.2.2.2.2.2.2.2.2.2.2.2.2.2.2.1, u.2.2.2.2.2.2.2.2.2.2.2.2.2.2.2.2.2.2.1, s.g_fonts_coming), (u.2.2.2.2.2.2.2.2.2.2.2.2.2.2.2.2.2.2.2.2.2.2.2.2.1, s.g_raster_seed)) : CS), u.2.2.2.2.2.2.2.2.2.2.2.2.2.2.2.2.2.2.2.2.2.2.2.2.2.2.2.2.2.2.2.2.2.2))

def kStatus (N : Nat) (s : CS) (v0 : Int32) : Option (Int32) := (ex_Main_status N s.o_this s.o_file s.o_sheet s.o_page s.o_fonts s.o_macros s.o_raster s.g_fonts_ids s.g_fonts_chosen s.o_shown v0).map (fun u => u)

def kBytesAt (N : Nat) (s : CS) (v0 : Int32) : Option (Int64) := (ex_Main_bytesAt N s.o_this s.o_shown s.g_shown_bytes v0).map (fun u => u)

def kSheetOf (N : Nat) (s : CS) (v0 : Int32) (v1 : Int32) : Option (Int32) := (ex_Main_sheetOf N s.o_this s.o_shown s.g_shown_table v0 v1).map (fun u => u)

def kPrinted (N : Nat) (s : CS) (v0 : Int32) (v1 : Int32) (v2 : Int32) : Option (CS × Int64) := (ex_Main_printed N s.o_this s.o_shown s.g_shown_table s.o_reader s.g_shown_bytes s.g_reader_tree s.g_reader_above s.g_reader_line v0 v1 v2).map (fun u => (((s.1, s.2.1, s.2.2.1, (u.1, s.g_reader_tree, u.2.1, u.2.2.1), s.2.2.2.2.1, s.2.2.2.2.2.1, s.2.2.2.2.2.2.1, s.2.2.2.2.2.2.2.1, s.2.2.2.2.2.2.2.2.1, s.2.2.2.2.2.2.2.2.2.1, s.2.2.2.2.2.2.2.2.2.2.1, s.2.2.2.2.2.2.2.2.2.2.2) : CS), u.2.2.2))

def kTape (N : Nat) (s : CS) (v0 : Int32) (v1 : Int32) (v2 : Int32) (v3 : Int32) (v4 : Int32) : Option (CS × Int32) := (ex_Main_tape N s.o_this s.g_tape v0 v1 v2 v3 v4).map (fun u => ((((u.1, u.2.1), s.2.1, s.2.2.1, s.2.2.2.1, s.2.2.2.2.1, s.2.2.2.2.2.1, s.2.2.2.2.2.2.1, s.2.2.2.2.2.2.2.1, s.2.2.2.2.2.2.2.2.1, s.2.2.2.2.2.2.2.2.2.1, s.2.2.2.2.2.2.2.2.2.2.1, s.2.2.2.2.2.2.2.2.2.2.2) : CS), u.2.2))

def mSubmit (N : Nat) (s : RS) (v0 : Int32) (v1 : Int32) : Option (RS × Int32) := (ex_Ref_submit N s.o_this s.g_tape s.o_desk s.o_shelf s.o_macros s.o_sheet s.o_lines s.o_job s.g_pages s.g_seed s.g_fresh s.g_xWhat s.g_xId s.g_toDo s.g_toDoId s.g_bytes1 s.g_bytes2 s.g_macros_ids s.g_macros_permanent s.g_macros_lengths s.g_macros_store s.g_macros_buffer s.g_desk_state s.g_desk_kept s.g_desk_isKept s.g_desk_steps s.g_desk_glyph s.g_desk_page s.g_desk_other s.g_desk_store s.g_shelf_ids s.g_shelf_attributes s.g_shelf_permanent s.g_shelf_glyph s.g_shelf_store 7 s.g_shelf_draft 14 s.g_shelf_wishes 2 s.g_shelf_pins s.g_shelf_coming s.g_shelf_bytes s.g_shelf_left s.n_sheet_dots s.g_sheet_dots s.g_lines_whiteRests s.g_lines_blackRests s.g_lines_whiteBlocks s.g_lines_blackBlocks s.g_lines_blocks s.g_lines_modes s.g_lines_line s.g_lines_above s.n_lines_out s.g_lines_out s.g_job_file s.g_job_places s.g_job_lengths s.o_part s.g_part_file s.g_part_numbers s.g_part_firstStrip s.g_part_stripPlace s.g_part_stripLength s.g_part_entry s.g_lines_readLine s.g_lines_readAbove v0 v1).map (fun u => ((((u.1, u.2.2.2.2.2.2.2.1, u.2.2.2.2.2.2.2.2.2.1, s.g_shownPages, s.g_tape, u.2.2.2.2.2.2.2.2.1, u.2.2.2.2.2.2.2.2.2.2.1, u.2.2.2.2.2.2.2.2.2.2.2.1, u.2.2.2.2.2.2.2.2.2.2.2.2.1, u.2.2.2.2.2.2.2.2.2.2.2.2.2.1, u.2.2.2.2.2.2.2.2.2.2.2.2.2.2.2.1, u.2.2.2.2.2.2.2.2.2.2.2.2.2.2.1), (u.2.2.2.2.2.2.1, u.2.2.2.2.2.2.2.2.2.2.2.2.2.2.2.2.2.2.2.2.2.2.2.2.2.2.2.2.2.2.2.2.2.2.2.2.2.2.2.2.2.2.2.2.1, u.2.2.2.2.2.2.2.2.2.2.2.2.2.2.2.2.2.2.2.2.2.2.2.2.2.2.2.2.2.2.2.2.2.2.2.2.2.2.2.2.2.2.2.2.2.1, u.2.2.2.2.2.2.2.2.2.2.2.2.2.2.2.2.2.2.2.2.2.2.2.2.2.2.2.2.2.2.2.2.2.2.2.2.2.2.2.2.2.2.2.2.2.2.1), (u.2.2.2.2.2.1, s.n_lines_out, u.2.2.2.2.2.2.2.2.2.2.2.2.2.2.2.2.2.2.2.2.2.2.2.2.2.2.2.2.2.2.2.2.2.2.2.2.2.2.2.2.2.2.2.1, u.2.2.2.2.2.2.2.2.2.2.2.2.2.2.2.2.2.2.2.2.2.2.2.2.2.2.2.2.2.2.2.2.2.2.2.2.2.2.2.2.2.1, u.2.2.2.2.2.2.2.2.2.2.2.2.2.2.2.2.2.2.2.2.2.2.2.2.2.2.2.2.2.2.2.2.2.2.2.2.2.2.2.2.2.2.1, s.g_lines_whiteRests, s.g_lines_blackRests, s.g_lines_whiteBlocks, s.g_lines_blackBlocks, s.g_lines_blocks, s.g_lines_modes, u.2.2.2.2.2.2.2.2.2.2.2.2.2.2.2.2.2.2.2.2.2.2.2.2.2.2.2.2.2.2.2.2.2.2.2.2.2.2.2.2.2.2.2.2.2.2.2.2.2.2.2.2.2.2.2.1, u.2.2.2.2.2.2.2.2.2.2.2.2.2.2.2.2.2.2.2.2.2.2.2.2.2.2.2.2.2.2.2.2.2.2.2.2.2.2.2.2.2.2.2.2.2.2.2.2.2.2.2.2.2.2.1), (u.2.2.2.2.1, s.n_sheet_dots, u.2.2.2.2.2.2.2.2.2.2.2.2.2.2.2.2.2.2.2.2.2.2.2.2.2.2.2.2.2.2.2.2.2.2.2.2.2.2.2.2.1), (u.2.1, u.2.2.2.2.2.2.2.2.2.2.2.2.2.2.2.2.2.2.2.2.2.1, u.2.2.2.2.2.2.2.2.2.2.2.2.2.2.2.2.2.2.2.2.2.2.2.1, u.2.2.2.2.2.2.2.2.2.2.2.2.2.2.2.2.2.2.2.2.2.2.2.2.1, u.2.2.2.2.2.2.2.2.2.2.2.2.2.2.2.2.2.2.2.2.2.2.2.2.2.2.2.2.1, u.2.2.2.2.2.2.2.2.2.2.2.2.2.2.2.2.2.2.2.2.2.2.2.2.2.2.1, u.2.2.2.2.2.2.2.2.2.2.2.2.2.2.2.2.2.2.2.2.2.2.2.2.2.2.2.1, u.2.2.2.2.2.2.2.2.2.2.2.2.2.2.2.2.2.2.2.2.2.2.2.2.2.1, u.2.2.2.2.2.2.2.2.2.2.2.2.2.2.2.2.2.2.2.2.2.2.1), (u.2.2.1, u.2.2.2.2.2.2.2.2.2.2.2.2.2.2.2.2.2.2.2.2.2.2.2.2.2.2.2.2.2.1, u.2.2.2.2.2.2.2.2.2.2.2.2.2.2.2.2.2.2.2.2.2.2.2.2.2.2.2.2.2.2.1, u.2.2.2.2.2.2.2.2.2.2.2.2.2.2.2.2.2.2.2.2.2.2.2.2.2.2.2.2.2.2.2.1, u.2.2.2.2.2.2.2.2.2.2.2.2.2.2.2.2.2.2.2.2.2.2.2.2.2.2.2.2.2.2.2.2.1, u.2.2.2.2.2.2.2.2.2.2.2.2.2.2.2.2.2.2.2.2.2.2.2.2.2.2.2.2.2.2.2.2.2.1, u.2.2.2.2.2.2.2.2.2.2.2.2.2.2.2.2.2.2.2.2.2.2.2.2.2.2.2.2.2.2.2.2.2.2.1, u.2.2.2.2.2.2.2.2.2.2.2.2.2.2.2.2.2.2.2.2.2.2.2.2.2.2.2.2.2.2.2.2.2.2.2.1, u.2.2.2.2.2.2.2.2.2.2.2.2.2.2.2.2.2.2.2.2.2.2.2.2.2.2.2.2.2.2.2.2.2.2.2.2.1, u.2.2.2.2.2.2.2.2.2.2.2.2.2.2.2.2.2.2.2.2.2.2.2.2.2.2.2.2.2.2.2.2.2.2.2.2.2.1, u.2.2.2.2.2.2.2.2.2.2.2.2.2.2.2.2.2.2.2.2.2.2.2.2.2.2.2.2.2.2.2.2.2.2.2.2.2.2.1, u.2.2.2.2.2.2.2.2.2.2.2.2.2.2.2.2.2.2.2.2.2.2.2.2.2.2.2.2.2.2.2.2.2.2.2.2.2.2.2.1), (u.2.2.2.1, u.2.2.2.2.2.2.2.2.2.2.2.2.2.2.2.2.1, u.2.2.2.2.2.2.2.2.2.2.2.2.2.2.2.2.2.1, u.2.2.2.2.2.2.2.2.2.2.2.2.2.2.2.2.2.2.1, u.2.2.2.2.2.2.2.2.2.2.2.2.2.2.2.2.2.2.2.1, u.2.2.2.2.2.2.2.2.2.2.2.2.2.2.2.2.2.2.2.2.1), s.2.2.2.2.2.2.2.1, (u.2.2.2.2.2.2.2.2.2.2.2.2.2.2.2.2.2.2.2.2.2.2.2.2.2.2.2.2.2.2.2.2.2.2.2.2.2.2.2.2.2.2.2.2.2.2.2.1, u.2.2.2.2.2.2.2.2.2.2.2.2.2.2.2.2.2.2.2.2.2.2.2.2.2.2.2.2.2.2.2.2.2.2.2.2.2.2.2.2.2.2.2.2.2.2.2.2.2.1, u.2.2.2.2.2.2.2.2.2.2.2.2.2.2.2.2.2.2.2.2.2.2.2.2.2.2.2.2.2.2.2.2.2.2.2.2.2.2.2.2.2.2.2.2.2.2.2.2.2.2.1, u.2.2.2.2.2.2.2.2.2.2.2.2.2.2.2.2.2.2.2.2.2.2.2.2.2.2.2.2.2.2.2.2.2.2.2.2.2.2.2.2.2.2.2.2.2.2.2.2.2.2.2.1, u.2.2.2.2.2.2.2.2.2.2.2.2.2.2.2.2.2.2.2.2.2.2.2.2.2.2.2.2.2.2.2.2.2.2.2.2.2.2.2.2.2.2.2.2.2.2.2.2.2.2.2.2.1, u.2.2.2.2.2.2.2.2.2.2.2.2.2.2.2.2.2.2.2.2.2.2.2.2.2.2.2.2.2.2.2.2.2.2.2.2.2.2.2.2.2.2.2.2.2.2.2.2.1, u.2.2.2.2.2.2.2.2.2.2.2.2.2.2.2.2.2.2.2.2.2.2.2.2.2.2.2.2.2.2.2.2.2.2.2.2.2.2.2.2.2.2.2.2.2.2.2.2.2.2.2.2.2.1), s.2.2.2.2.2.2.2.2.2) : RS), u.2.2.2.2.2.2.2.2.2.2.2.2.2.2.2.2.2.2.2.2.2.2.2.2.2.2.2.2.2.2.2.2.2.2.2.2.2.2.2.2.2.2.2.2.2.2.2.2.2.2.2.2.2.2.2.2))

def mPicture (N : Nat) (s : RS) (v0 : Int32) : Option (RS) := (ex_Ref_picture N s.o_this s.o_part s.g_tape s.g_part_file s.g_part_numbers s.g_part_firstStrip s.g_part_stripPlace s.g_part_stripLength s.g_part_entry s.o_lines s.o_job s.g_pages s.g_lines_whiteRests s.g_lines_blackRests s.g_lines_whiteBlocks s.g_lines_blackBlocks s.g_lines_blocks s.g_lines_modes s.g_lines_line s.g_lines_above s.n_lines_out s.g_lines_out s.g_lines_readLine s.g_lines_readAbove s.g_job_file s.g_job_places s.g_job_lengths v0).map (fun u => (((u.1, u.2.2.2.2.2.2.2.2.2.2.1, s.g_fresh, s.g_shownPages, s.g_tape, s.g_seed, s.g_xWhat, s.g_xId, s.g_toDo, s.g_toDoId, s.g_bytes2, s.g_bytes1), (u.2.2.2.2.2.2.2.2.2.1, u.2.2.2.2.2.2.2.2.2.2.2.2.2.2.2.2.1, u.2.2.2.2.2.2.2.2.2.2.2.2.2.2.2.2.2.1, u.2.2.2.2.2.2.2.2.2.2.2.2.2.2.2.2.2.2), (u.2.2.2.2.2.2.2.2.1, s.n_lines_out, u.2.2.2.2.2.2.2.2.2.2.2.2.2.1, u.2.2.2.2.2.2.2.2.2.2.2.1, u.2.2.2.2.2.2.2.2.2.2.2.2.1, s.g_lines_whiteRests, s.g_lines_blackRests, s.g_lines_whiteBlocks, s.g_lines_blackBlocks, s.g_lines_blocks, s.g_lines_modes, u.2.2.2.2.2.2.2.2.2.2.2.2.2.2.2.1, u.2.2.2.2.2.2.2.2.2.2.2.2.2.2.1), s.2.2.2.1, s.2.2.2.2.1, s.2.2.2.2.2.1, s.2.2.2.2.2.2.1, s.2.2.2.2.2.2.2.1, (u.2.1, u.2.2.2.1, u.2.2.2.2.1, u.2.2.2.2.2.1, u.2.2.2.2.2.2.1, u.2.2.1, u.2.2.2.2.2.2.2.1), s.2.2.2.2.2.2.2.2.2) : RS))

def mConclude (N : Nat) (s : RS) : Option (RS × Int32) := (ex_Ref_conclude N s.o_this s.o_desk s.o_job s.o_shown s.g_pages s.g_shownPages s.o_shelf s.o_macros s.o_sheet s.g_desk_state s.g_desk_isKept s.g_desk_steps s.g_shelf_ids s.g_shelf_attributes s.g_shelf_permanent s.g_shelf_glyph s.g_shelf_store 7 s.g_shelf_draft 14 s.g_shelf_wishes 2 s.g_shelf_pins s.g_macros_ids s.g_macros_permanent s.g_macros_lengths s.g_macros_store s.n_sheet_dots s.g_sheet_dots s.g_shown_file s.o_lines s.g_desk_page s.g_lines_whiteRests s.g_lines_blackRests s.g_lines_whiteBlocks s.g_lines_blackBlocks s.g_lines_blocks s.g_lines_modes s.g_lines_line s.g_lines_above s.n_lines_out s.g_lines_out s.g_job_file s.g_job_places s.g_job_lengths).map (fun u => ((((u.1, u.2.2.2.2.1, s.g_fresh, u.2.2.2.2.2.1, s.g_tape, s.g_seed, s.g_xWhat, s.g_xId, s.g_toDo, s.g_toDoId, s.g_bytes2, s.g_bytes1), (u.2.2.1, u.2.2.2.2.2.2.2.2.2.2.2.2.2.2.2.2.2.2.2.2.2.2.2.2.2.2.2.2.2.2.2.1, u.2.2.2.2.2.2.2.2.2.2.2.2.2.2.2.2.2.2.2.2.2.2.2.2.2.2.2.2.2.2.2.2.1, u.2.2.2.2.2.2.2.2.2.2.2.2.2.2.2.2.2.2.2.2.2.2.2.2.2.2.2.2.2.2.2.2.2.1), (u.2.2.2.2.2.2.2.2.2.2.2.2.2.2.2.2.2.2.2.2.2.2.2.2.2.2.1, s.n_lines_out, u.2.2.2.2.2.2.2.2.2.2.2.2.2.2.2.2.2.2.2.2.2.2.2.2.2.2.2.2.2.2.1, u.2.2.2.2.2.2.2.2.2.2.2.2.2.2.2.2.2.2.2.2.2.2.2.2.2.2.2.2.1, u.2.2.2.2.2.2.2.2.2.2.2.2.2.2.2.2.2.2.2.2.2.2.2.2.2.2.2.2.2.1, s.g_lines_whiteRests, s.g_lines_blackRests, s.g_lines_whiteBlocks, s.g_lines_blackBlocks, s.g_lines_blocks, s.g_lines_modes, s.g_lines_readAbove, s.g_lines_readLine), (u.2.2.2.2.2.2.2.2.1, s.n_sheet_dots, u.2.2.2.2.2.2.2.2.2.2.2.2.2.2.2.2.2.2.2.2.2.2.2.2.1), (u.2.1, u.2.2.2.2.2.2.2.2.2.1, u.2.2.2.2.2.2.2.2.2.2.1, u.2.2.2.2.2.2.2.2.2.2.2.1, s.g_desk_store, u.2.2.2.2.2.2.2.2.2.2.2.2.2.2.2.2.2.2.2.2.2.2.2.2.2.2.2.1, s.g_desk_other, s.g_desk_glyph, s.g_desk_kept), (u.2.2.2.2.2.2.1, u.2.2.2.2.2.2.2.2.2.2.2.2.1, u.2.2.2.2.2.2.2.2.2.2.2.2.2.1, u.2.2.2.2.2.2.2.2.2.2.2.2.2.2.1, u.2.2.2.2.2.2.2.2.2.2.2.2.2.2.2.1, u.2.2.2.2.2.2.2.2.2.2.2.2.2.2.2.2.1, u.2.2.2.2.2.2.2.2.2.2.2.2.2.2.2.2.2.1, u.2.2.2.2.2.2.2.2.2.2.2.2.2.2.2.2.2.2.1, u.2.2.2.2.2.2.2.2.2.2.2.2.2.2.2.2.2.2.2.1, s.g_shelf_coming, s.g_shelf_bytes, s.g_shelf_left), (u.2.2.2.2.2.2.2.1, u.2.2.2.2.2.2.2.2.2.2.2.2.2.2.2.2.2.2.2.2.1, u.2.2.2.2.2.2.2.2.2.2.2.2.2.2.2.2.2.2.2.2.2.1, u.2.2.2.2.2.2.2.2.2.2.2.2.2.2.2.2.2.2.2.2.2.2.1, u.2.2.2.2.2.2.2.2.2.2.2.2.2.2.2.2.2.2.2.2.2.2.2.1, s.g_macros_buffer), (u.2.2.2.1, u.2.2.2.2.2.2.2.2.2.2.2.2.2.2.2.2.2.2.2.2.2.2.2.2.2.1), s.2.2.2.2.2.2.2.2.1, s.2.2.2.2.2.2.2.2.2) : RS), u.2.2.2.2.2.2.2.2.2.2.2.2.2.2.2.2.2.2.2.2.2.2.2.2.2.2.2.2.2.2.2.2.2.2))

def mStatus (N : Nat) (s : RS) (v0 : Int32) : Option (RS × Int32) := (ex_Ref_status N s.o_this s.o_job s.o_sheet s.o_desk s.g_desk_state s.o_shelf s.g_shelf_ids s.g_shelf_attributes s.g_shelf_permanent 14 s.g_shelf_wishes 2 s.g_shelf_pins s.g_shelf_left s.o_macros s.o_shown v0).map (fun u => ((((u.1, s.g_pages, s.g_fresh, s.g_shownPages, s.g_tape, s.g_seed, s.g_xWhat, s.g_xId, s.g_toDo, s.g_toDoId, s.g_bytes2, s.g_bytes1), s.2.1, s.2.2.1, s.2.2.2.1, s.2.2.2.2.1, (u.2.1, s.g_shelf_ids, s.g_shelf_attributes, s.g_shelf_permanent, s.g_shelf_glyph, s.g_shelf_store, s.g_shelf_draft, s.g_shelf_wishes, s.g_shelf_pins, s.g_shelf_coming, s.g_shelf_bytes, u.2.2.1), s.2.2.2.2.2.2.1, s.2.2.2.2.2.2.2.1, s.2.2.2.2.2.2.2.2.1, s.2.2.2.2.2.2.2.2.2) : RS), u.2.2.2))

def mBytesAt (N : Nat) (s : RS) (v0 : Int32) : Option (RS × Int64) := (ex_Ref_bytesAt N s.o_this s.o_shown s.g_shown_file v0).map (fun u => ((((u.1, s.g_pages, s.g_fresh, s.g_shownPages, s.g_tape, s.g_seed, s.g_xWhat, s.g_xId, s.g_toDo, s.g_toDoId, s.g_bytes2, s.g_bytes1), s.2.1, s.2.2.1, s.2.2.2.1, s.2.2.2.2.1, s.2.2.2.2.2.1, s.2.2.2.2.2.2.1, (u.2.1, s.g_shown_file), s.2.2.2.2.2.2.2.2.1, s.2.2.2.2.2.2.2.2.2) : RS), u.2.2))

def mSheetOf (N : Nat) (s : RS) (v0 : Int32) (v1 : Int32) : Option (RS × Int32) := (ex_Ref_sheetOf N s.o_this s.o_shown s.g_shownPages v0 v1).map (fun u => ((((u.1, s.g_pages, s.g_fresh, s.g_shownPages, s.g_tape, s.g_seed, s.g_xWhat, s.g_xId, s.g_toDo, s.g_toDoId, s.g_bytes2, s.g_bytes1), s.2.1, s.2.2.1, s.2.2.2.1, s.2.2.2.2.1, s.2.2.2.2.2.1, s.2.2.2.2.2.2.1, s.2.2.2.2.2.2.2.1, s.2.2.2.2.2.2.2.2.1, s.2.2.2.2.2.2.2.2.2) : RS), u.2))

def mPrinted (N : Nat) (s : RS) (v0 : Int32) (v1 : Int32) (v2 : Int32) : Option (RS × Int64) := (ex_Ref_printed N s.o_this s.o_shown s.g_shownPages s.o_view s.g_shown_file s.g_view_readAbove s.g_view_whiteRests s.g_view_blackRests s.g_view_whiteBlocks s.g_view_blackBlocks s.g_view_blocks s.g_view_modes s.g_view_readLine v0 v1 v2).map (fun u => ((((u.1, s.g_pages, s.g_fresh, s.g_shownPages, s.g_tape, s.g_seed, s.g_xWhat, s.g_xId, s.g_toDo, s.g_toDoId, s.g_bytes2, s.g_bytes1), s.2.1, s.2.2.1, s.2.2.2.1, s.2.2.2.2.1, s.2.2.2.2.2.1, s.2.2.2.2.2.2.1, s.2.2.2.2.2.2.2.1, s.2.2.2.2.2.2.2.2.1, (u.2.1, u.2.2.1, s.g_view_whiteRests, s.g_view_blackRests, s.g_view_whiteBlocks, s.g_view_blackBlocks, s.g_view_blocks, s.g_view_modes, u.2.2.2.1)) : RS), u.2.2.2.2))

def mTape (N : Nat) (s : RS) (v0 : Int32) (v1 : Int32) (v2 : Int32) (v3 : Int32) (v4 : Int32) : Option (RS × Int32) := (ex_Ref_tape N s.o_this s.g_tape v0 v1 v2 v3 v4).map (fun u => ((((u.1, s.g_pages, s.g_fresh, s.g_shownPages, u.2.1, s.g_seed, s.g_xWhat, s.g_xId, s.g_toDo, s.g_toDoId, s.g_bytes2, s.g_bytes1), s.2.1, s.2.2.1, s.2.2.2.1, s.2.2.2.2.1, s.2.2.2.2.2.1, s.2.2.2.2.2.2.1, s.2.2.2.2.2.2.2.1, s.2.2.2.2.2.2.2.2.1, s.2.2.2.2.2.2.2.2.2) : RS), u.2.2))

def mThrown (N : Nat) (s : RS) : Option (Int32) := (ex_Ref_thrown N s.o_this).map (fun u => u)
def mSb (N L : Nat) (f : Nat → Int32) : Nat → Nat → RS → Option RS
  | 0, _, _ => none
  | n + 1, k, s => if L ≤ k then some s else (if fd_Ref_fault s.o_this = 0 then (mComes0 N s (f k &&& 255)).bind (fun s1 => mSb N L f n (k + 1) s1) else some s)

theorem subl {N L : Nat} {f : Nat → Int32} {o0 : ob_Ref} {v1 : Int32} (hL : L ≤ 65536) (hl : fd_Ref_onTape o0 - 20 + v1 = nI L) : ∀ (n k : Nat) (s s' : RS), k ≤ 65536 → mSb N L f n k s = some s' → ∃ r, lp_Ref_submit_91 N o0 f 7 14 2 s.n_sheet_dots s.g_lines_whiteRests s.g_lines_blackRests s.g_lines_whiteBlocks s.g_lines_blackBlocks s.g_lines_blocks s.g_lines_modes s.n_lines_out v1 n (nI k) s.o_this s.o_desk s.o_shelf s.o_macros s.o_sheet s.o_lines s.o_job s.g_pages s.g_seed s.g_fresh s.g_xWhat s.g_xId s.g_toDo s.g_toDoId s.g_bytes1 s.g_bytes2 s.g_macros_ids s.g_macros_permanent s.g_macros_lengths s.g_macros_store s.g_macros_buffer s.g_desk_state s.g_desk_kept s.g_desk_isKept s.g_desk_steps s.g_desk_glyph s.g_desk_page s.g_desk_other s.g_desk_store s.g_shelf_ids s.g_shelf_attributes s.g_shelf_permanent s.g_shelf_glyph s.g_shelf_store s.g_shelf_draft s.g_shelf_wishes s.g_shelf_pins s.g_shelf_coming s.g_shelf_bytes s.g_shelf_left s.g_sheet_dots s.g_lines_line s.g_lines_above s.g_lines_out s.g_job_file s.g_job_places s.g_job_lengths = some r ∧ s' = (((r.1, r.2.2.2.2.2.2.2.1, r.2.2.2.2.2.2.2.2.2.1, s.g_shownPages, s.g_tape, r.2.2.2.2.2.2.2.2.1, r.2.2.2.2.2.2.2.2.2.2.1, r.2.2.2.2.2.2.2.2.2.2.2.1, r.2.2.2.2.2.2.2.2.2.2.2.2.1, r.2.2.2.2.2.2.2.2.2.2.2.2.2.1, r.2.2.2.2.2.2.2.2.2.2.2.2.2.2.2.1, r.2.2.2.2.2.2.2.2.2.2.2.2.2.2.1), (r.2.2.2.2.2.2.1, r.2.2.2.2.2.2.2.2.2.2.2.2.2.2.2.2.2.2.2.2.2.2.2.2.2.2.2.2.2.2.2.2.2.2.2.2.2.2.2.2.2.2.2.2.1, r.2.2.2.2.2.2.2.2.2.2.2.2.2.2.2.2.2.2.2.2.2.2.2.2.2.2.2.2.2.2.2.2.2.2.2.2.2.2.2.2.2.2.2.2.2.1, r.2.2.2.2.2.2.2.2.2.2.2.2.2.2.2.2.2.2.2.2.2.2.2.2.2.2.2.2.2.2.2.2.2.2.2.2.2.2.2.2.2.2.2.2.2.2), (r.2.2.2.2.2.1, s.n_lines_out, r.2.2.2.2.2.2.2.2.2.2.2.2.2.2.2.2.2.2.2.2.2.2.2.2.2.2.2.2.2.2.2.2.2.2.2.2.2.2.2.2.2.2.2.1, r.2.2.2.2.2.2.2.2.2.2.2.2.2.2.2.2.2.2.2.2.2.2.2.2.2.2.2.2.2.2.2.2.2.2.2.2.2.2.2.2.2.1, r.2.2.2.2.2.2.2.2.2.2.2.2.2.2.2.2.2.2.2.2.2.2.2.2.2.2.2.2.2.2.2.2.2.2.2.2.2.2.2.2.2.2.1, s.g_lines_whiteRests, s.g_lines_blackRests, s.g_lines_whiteBlocks, s.g_lines_blackBlocks, s.g_lines_blocks, s.g_lines_modes, s.g_lines_readAbove, s.g_lines_readLine), (r.2.2.2.2.1, s.n_sheet_dots, r.2.2.2.2.2.2.2.2.2.2.2.2.2.2.2.2.2.2.2.2.2.2.2.2.2.2.2.2.2.2.2.2.2.2.2.2.2.2.2.2.1), (r.2.1, r.2.2.2.2.2.2.2.2.2.2.2.2.2.2.2.2.2.2.2.2.2.1, r.2.2.2.2.2.2.2.2.2.2.2.2.2.2.2.2.2.2.2.2.2.2.2.1, r.2.2.2.2.2.2.2.2.2.2.2.2.2.2.2.2.2.2.2.2.2.2.2.2.1, r.2.2.2.2.2.2.2.2.2.2.2.2.2.2.2.2.2.2.2.2.2.2.2.2.2.2.2.2.1, r.2.2.2.2.2.2.2.2.2.2.2.2.2.2.2.2.2.2.2.2.2.2.2.2.2.2.1, r.2.2.2.2.2.2.2.2.2.2.2.2.2.2.2.2.2.2.2.2.2.2.2.2.2.2.2.1, r.2.2.2.2.2.2.2.2.2.2.2.2.2.2.2.2.2.2.2.2.2.2.2.2.2.1, r.2.2.2.2.2.2.2.2.2.2.2.2.2.2.2.2.2.2.2.2.2.2.1), (r.2.2.1, r.2.2.2.2.2.2.2.2.2.2.2.2.2.2.2.2.2.2.2.2.2.2.2.2.2.2.2.2.2.1, r.2.2.2.2.2.2.2.2.2.2.2.2.2.2.2.2.2.2.2.2.2.2.2.2.2.2.2.2.2.2.1, r.2.2.2.2.2.2.2.2.2.2.2.2.2.2.2.2.2.2.2.2.2.2.2.2.2.2.2.2.2.2.2.1, r.2.2.2.2.2.2.2.2.2.2.2.2.2.2.2.2.2.2.2.2.2.2.2.2.2.2.2.2.2.2.2.2.1, r.2.2.2.2.2.2.2.2.2.2.2.2.2.2.2.2.2.2.2.2.2.2.2.2.2.2.2.2.2.2.2.2.2.1, r.2.2.2.2.2.2.2.2.2.2.2.2.2.2.2.2.2.2.2.2.2.2.2.2.2.2.2.2.2.2.2.2.2.2.1, r.2.2.2.2.2.2.2.2.2.2.2.2.2.2.2.2.2.2.2.2.2.2.2.2.2.2.2.2.2.2.2.2.2.2.2.1, r.2.2.2.2.2.2.2.2.2.2.2.2.2.2.2.2.2.2.2.2.2.2.2.2.2.2.2.2.2.2.2.2.2.2.2.2.1, r.2.2.2.2.2.2.2.2.2.2.2.2.2.2.2.2.2.2.2.2.2.2.2.2.2.2.2.2.2.2.2.2.2.2.2.2.2.1, r.2.2.2.2.2.2.2.2.2.2.2.2.2.2.2.2.2.2.2.2.2.2.2.2.2.2.2.2.2.2.2.2.2.2.2.2.2.2.1, r.2.2.2.2.2.2.2.2.2.2.2.2.2.2.2.2.2.2.2.2.2.2.2.2.2.2.2.2.2.2.2.2.2.2.2.2.2.2.2.1), (r.2.2.2.1, r.2.2.2.2.2.2.2.2.2.2.2.2.2.2.2.2.1, r.2.2.2.2.2.2.2.2.2.2.2.2.2.2.2.2.2.1, r.2.2.2.2.2.2.2.2.2.2.2.2.2.2.2.2.2.2.1, r.2.2.2.2.2.2.2.2.2.2.2.2.2.2.2.2.2.2.2.1, r.2.2.2.2.2.2.2.2.2.2.2.2.2.2.2.2.2.2.2.2.1), s.2.2.2.2.2.2.2.1, s.2.2.2.2.2.2.2.2.1, s.2.2.2.2.2.2.2.2.2) : RS) := by
  intro n
  induction n with
  | zero => intro k s s' hk h; exact absurd h (by intro q; cases q)
  | succ n ih =>
    intro k s s' hk h
    rw [mSb] at h
    rw [lp_Ref_submit_91, hl]
    by_cases q : L ≤ k
    · rw [if_pos q] at h
      rw [if_pos (nI_le q (by omega))]
      have h' := Option.some.inj h
      subst h'
      exact ⟨_, rfl, rfl⟩
    · rw [if_neg q] at h
      rw [if_neg (nI_ge (by omega) (by omega))]
      have e3 : dk_in (nI k) 65536 := dk_in_nI (by omega) (by omega)
      have e4 : (nI k).toNatClampNeg = k := nI_clamp (by omega)
      by_cases q5 : fd_Ref_fault s.o_this = 0
      · rw [if_pos q5] at h
        rw [if_pos q5, if_pos e3, e4, nI_1]
        obtain ⟨s1, e1, h⟩ := Option.bind_eq_some_iff.mp h
        unfold mComes0 at e1
        obtain ⟨r1, f1, e1⟩ := Option.map_eq_some_iff.mp e1
        subst e1
        obtain ⟨r, g1, g2⟩ := ih (k + 1) _ _ (by omega) h
        exact ⟨r, (bind_eq f1).trans g1, g2⟩
      · rw [if_neg q5] at h
        rw [if_neg q5]
        have h' := Option.some.inj h
        subst h'
        exact ⟨_, rfl, rfl⟩
def kBg (s : CS) (L : Nat) : CS := ((s.1, s.2.1, s.2.2.1, s.2.2.2.1, s.2.2.2.2.1, s.2.2.2.2.2.1, s.2.2.2.2.2.2.1, s.2.2.2.2.2.2.2.1, (s.o_interpreter, s.o_interpreter_parser, upd s.g_interpreter_at 0 0, upd s.g_interpreter_ends 0 (nI L), s.g_interpreter_actCount, s.g_interpreter_actNext, s.g_interpreter_copies, s.g_interpreter_called, s.g_interpreter_acts, s.g_interpreter_actIds, s.g_interpreter_parser_data), s.2.2.2.2.2.2.2.2.2.1, s.2.2.2.2.2.2.2.2.2.2.1, s.2.2.2.2.2.2.2.2.2.2.2) : CS)
def kMix (s s' : CS) : CS := (((s'.o_this, s.g_tape), s.2.1, s.2.2.1, s.2.2.2.1, (s'.o_coder, s'.g_coder_line, s'.g_coder_above), (s'.o_sheet, s'.g_sheet_marks, s'.g_sheet_dots, s.n_sheet_band, s'.g_sheet_band), (s'.o_page, s'.g_page_stack, s'.g_page_kept), (s'.o_file, s'.g_file_bytes, s'.g_file_table), (s'.o_interpreter, s'.o_interpreter_parser, s'.g_interpreter_at, s'.g_interpreter_ends, s'.g_interpreter_actCount, s'.g_interpreter_actNext, s'.g_interpreter_copies, s'.g_interpreter_called, s'.g_interpreter_acts, s'.g_interpreter_actIds, s'.g_interpreter_parser_data), (s'.o_macros, s'.g_macros_ids, s'.g_macros_places, s'.g_macros_lengths, s'.g_macros_permanent, s'.g_macros_bytes, s.n_macros_collected, s'.g_macros_collected, s'.g_macros_saidActs, s'.g_macros_saidIds), (s'.o_fonts, s'.g_fonts_ids, s'.g_fonts_attributes, s'.g_fonts_permanent, s'.g_fonts_glyphs, s'.g_fonts_dots, s'.g_fonts_wishes, s'.g_fonts_pins, s'.g_fonts_chosen, s'.g_fonts_left, s'.g_fonts_coming), (s'.o_raster, s'.g_raster_seed)) : CS)
theorem kMix_eq {s s' : CS} (hk : kfG s s') : kMix s s' = s' := by
  obtain ⟨⟨k1, k2, k3, k4⟩, k5, k6, k7, k8, k9, k10, k11, k12, k13, k14, k15, k16, k17, k18, k19, k20, k21⟩ := hk
  have g2 : s'.2.1 = s.2.1 := Prod.ext k8 (Prod.ext k9 k10)
  have g3 : s'.2.2.1 = s.2.2.1 := Prod.ext k11 (Prod.ext k12 (Prod.ext k13 (Prod.ext k14 (Prod.ext k15 (Prod.ext k16 k17)))))
  have g4 : s'.2.2.2.1 = s.2.2.2.1 := Prod.ext k18 (Prod.ext k19 (Prod.ext k20 k21))
  unfold kMix
  rw [← g2, ← g3, ← g4, ← k5, ← k6, ← k7]
theorem kStream_of {N L n : Nat} {s s' : CS} (hN : 2 ^ 24 < N) (hL : L ≤ 65536) (hn : n < 16777216) (hr : kRun N n (kBg s L) s') (he : ¬ fd_Main_fault s'.o_this = 0 ∨ kMore N s' = some 0) (hk : kfG s s') : kStream N s (nI L) = some s' := by
  have h1 : kLp N N 0 (kBg s L) = some (kTup s') := by
    obtain ⟨f, hf⟩ : ∃ f, N = f + 1 + n := ⟨N - 1 - n, by omega⟩
    have := hr (f + 1) 0 (by omega)
    have h2 : kLp N N 0 (kBg s L) = kLp N (f + 1) (nI (0 + n)) s' := by
      have e : kLp N N 0 (kBg s L) = kLp N (f + 1 + n) (nI 0) (kBg s L) := by
        conv => lhs; arg 2; rw [hf]
        rfl
      rw [e]; exact this
    rw [h2]
    rcases he with q | q
    · exact kLp_fault q
    · exact kLp_done q
  have hb : ex_Interpreter_begin N s.o_interpreter s.g_interpreter_at s.g_interpreter_ends 65536 s.g_tape (nI L) = some (upd s.g_interpreter_at 0 0, upd s.g_interpreter_ends 0 (nI L)) := by
    unfold ex_Interpreter_begin
    simp only [dk_let]
    rw [if_neg (nI_nlt (by omega) (by omega))]
  unfold kStream
  refine Option.map_eq_some_iff.mpr ⟨?w9, ?p9, ?q9⟩
  case p9 =>
    unfold ex_Main_printStream
    refine (bind_eq hb).trans ?_
    refine (bind_eq h1).trans ?_
    rfl
  case q9 =>
    exact kMix_eq hk
/-- **the bytes of a stream, on both sides** -/
theorem str_C {N d L : Nat} {tp : Nat → Int32} (hN : 2 ^ 22 < N) (hL : L ≤ 65536) : ∀ (r k T h fu : Nat) (s : CS) (m : RS), k + r = L → r < fu → T + 4 * (r + (65536 - h)) ≤ 134000000 → h ≤ 65536 → fd_Ref_had m.o_this = nI h → cI N d T s m → fd_Interpreter_level s.o_interpreter = nI 0 → s.g_interpreter_at 0 = nI k → s.g_interpreter_ends 0 = nI L → s.g_interpreter_actCount 0 ≤ s.g_interpreter_actNext 0 → (∀ i, i < L → s.g_tape i = tp i) → ∃ n s' m', kRun N n s s' ∧ mSb N L tp fu k m = some m' ∧ ((∃ h', h ≤ h' ∧ h' ≤ 65536 ∧ fd_Ref_had m'.o_this = nI h' ∧ n ≤ 80 * (r + (h' - h)) ∧ cI N d (T + 4 * (r + (h' - h))) s' m' ∧ kLv 0 s s' ∧ mLv 0 m m' ∧ s'.g_interpreter_at 0 = nI L ∧ s'.g_interpreter_actCount 0 ≤ s'.g_interpreter_actNext 0 ∧ (r = 0 → h' = h)) ∨ (∃ T', 0 < r ∧ T' ≤ T + 4 * (r + (65536 - h)) ∧ n ≤ 80 * (r + (65536 - h)) ∧ bF N d T' s m s' m')) := by
  intro r
  induction r with
  | zero =>
    intro k T h fu s m hk hfu hT hh had hI hl hat hen hac htp
    obtain ⟨fu, rfl⟩ : ∃ z, fu = z + 1 := ⟨fu - 1, by omega⟩
    refine ⟨0, s, m, kRun.refl N s, by rw [mSb, if_pos (by omega)], Or.inl ⟨h, Nat.le_refl _, hh, had, by omega, ?_, kLv_refl _ _, mLv_refl _ _, ?_, hac, fun _ => rfl⟩⟩
    · rw [Nat.sub_self]; exact hI
    · rw [hat, show k = L by omega]
  | succ r ih =>
    intro k T h fu s m hk hfu hT hh had hI hl hat hen hac htp
    obtain ⟨fu, rfl⟩ : ∃ z, fu = z + 2 := ⟨fu - 2, by omega⟩
    have hfa : fd_Ref_fault m.o_this = 0 := by
      obtain ⟨⟨k, r, cp, p, hC⟩, _⟩ := hI
      exact hC.2.2.2.2.2.2.2.1.2
    have hLB : lB0 k L (u8 (tp k)) s := ⟨hl, hac, hat, hen, by omega, hL, by rw [htp k (by omega), u8_and]⟩
    obtain ⟨n1, s1, m1, r1, r2, r3⟩ := by_0 (d := d) (T := T) (h := h) (b := u8 (tp k)) hN (Nat.mod_lt _ (by omega)) (by omega) hh had hI hLB
    rw [mSb, if_neg (by omega), if_pos hfa, u8_and, r2, Option.bind_some]
    rcases r3 with ⟨h2, a1, a2, a3, a4, a5, a6, a7, a8, a9⟩ | ⟨T', b1, b2, b3⟩
    · obtain ⟨n2, s', m', g1, g2, g3⟩ := ih (k + 1) (T + 4 * (1 + (h2 - h))) h2 (fu + 1) s1 m1 (by omega) (by omega) (by omega) a2 a3 a5 (a6.1.trans hl) a8 ((a6.2.1 _ (Nat.le_refl _)).1.trans hen) a9 (fun i hi => by rw [a6.2.2.2.2.2.2.2.1]; exact htp i hi)
      refine ⟨n1 + n2, s', m', kRun.trans r1 g1, g2, ?_⟩
      rcases g3 with ⟨h3, c1, c2, c3, c4, c5, c6, c7, c8, c9, _⟩ | ⟨T', _, b1, b2, b3⟩
      · refine Or.inl ⟨h3, by omega, c2, c3, by omega, ?_, kLv_trans a6 c6, mLv_trans a7 c7, c8, c9, fun q => absurd q (by omega)⟩
        have : T + 4 * (1 + (h2 - h)) + 4 * (r + (h3 - h2)) = T + 4 * (r + 1 + (h3 - h)) := by omega
        rw [← this]; exact c5
      · exact Or.inr ⟨T', by omega, by omega, by omega, bF_of a6.2.2.2.2.2.2 a7.2.2.2 b3⟩
    · refine ⟨n1, s1, m1, r1, ?_, Or.inr ⟨T', by omega, by omega, by omega, b3⟩⟩
      rw [mSb, if_neg (show ¬ fd_Ref_fault m1.o_this = 0 by rw [b3.2.1]; decide)]
      split <;> rfl
def kO (s : CS) (o : ob_Main) : CS := (((o, s.g_tape), s.2) : CS)
def mO (m : RS) (o : ob_Ref) : RS := (((o, m.g_pages, m.g_fresh, m.g_shownPages, m.g_tape, m.g_seed, m.g_xWhat, m.g_xId, m.g_toDo, m.g_toDoId, m.g_bytes2, m.g_bytes1), m.2) : RS)
theorem ksub_s {N n tp : Nat} {s s1 : CS} (hn : 1 ≤ n ∧ n ≤ 20) (htp : tp ≤ 65536) (hf : fd_Main_fault s.o_this = 0) (ht : fd_Main_taped s.o_this = nI tp) (hs : kStream N s (nI (tp - (20 - n))) = some s1) : kSubmit N s 0 (nI n) = some (kO s1 (fs_Main_taped s1.o_this 0), fd_OutFile_pages s1.o_file) := by
  have e1 : (20 : Int32) - nI n = nI (20 - n) := nI_sub (a := 20) hn.2
  have e2 : (if (0 : Int32) < fd_Main_taped s.o_this - (20 - nI n) then fd_Main_taped s.o_this - (20 - nI n) else 0) = nI (tp - (20 - n)) := by
    rw [e1, ht]
    by_cases q : 20 - n ≤ tp
    · rw [nI_sub q]
      by_cases q2 : 0 < tp - (20 - n)
      · rw [if_pos (show (0 : Int32) < nI (tp - (20 - n)) from nI_lt (a := 0) q2 (by omega))]
      · rw [if_neg (show ¬ (0 : Int32) < nI (tp - (20 - n)) from nI_nlt (a := 0) (by omega) (by omega)), show tp - (20 - n) = 0 by omega]; rfl
    · rw [if_neg, show tp - (20 - n) = 0 by omega]
      · rfl
      · rw [Int32.lt_iff_toInt_lt, nI_sub_toInt (by omega) (by omega)]
        have : (0 : Int32).toInt = 0 := rfl
        omega
  unfold kStream at hs
  obtain ⟨u, hu, hsu⟩ := Option.map_eq_some_iff.mp hs
  unfold kSubmit
  refine Option.map_eq_some_iff.mpr ⟨?w9, ?p9, ?q9⟩
  case p9 =>
    unfold ex_Main_submit
    rw [if_neg (show ¬ (0 : Int32) < 0 by decide), if_neg (show ¬ (1 : Int32) < 0 by decide), if_neg (show ¬ nI n < 1 from nI_nlt (b := 1) (by omega) (by omega)), if_pos (show nI n ≤ 20 from nI_le (b := 20) (by omega) (by omega)), if_pos hf]
    rw [e2]
    unfold dk_let
    refine (if_pos rfl).trans ?_
    refine (bind_eq hu).trans ?_
    rfl
  case q9 =>
    subst hsu
    rfl
theorem sub91 {N : Nat} (hN : 1 ≤ N) : lp_Ref_submit_91c2 N = some () := by
  obtain ⟨f, rfl⟩ : ∃ f, N = f + 1 := ⟨N - 1, by omega⟩
  rw [lp_Ref_submit_91c2]
theorem msub_s {N n tp L : Nat} {m m1 : RS} (hN : 1 ≤ N) (hn : 1 ≤ n ∧ n ≤ 20) (htp : tp ≤ 65536) (h20 : tp = 0 ∨ 20 ≤ tp) (hf : fd_Ref_fault m.o_this = 0) (ht : fd_Ref_onTape m.o_this = nI tp) (hL : L = tp - (20 - n)) (hs : mSb N L m.g_tape N 0 (mO m (fs_Ref_onTape (fs_Ref_thrown m.o_this 0) 0)) = some m1) : mSubmit N m 0 (nI n) = some (m1, fd_mPictures_made m1.o_job) := by
  have c1 : ¬ nI n < 1 := nI_nlt (b := 1) (by omega) (by omega)
  have c2 : nI n ≤ 20 := nI_le (b := 20) (by omega) (by omega)
  have c3 : fd_Ref_fault m.o_this ≤ 0 := by rw [hf]; decide
  rcases h20 with q | q
  · have hL0 : L = 0 := by omega
    have hm1 : mO m (fs_Ref_onTape (fs_Ref_thrown m.o_this 0) 0) = m1 := by
      obtain ⟨f, rfl⟩ : ∃ f, N = f + 1 := ⟨N - 1, by omega⟩
      rw [mSb, if_pos (by omega)] at hs
      exact Option.some.inj hs
    have c4 : fd_Ref_onTape m.o_this = 0 := by rw [ht, q]; rfl
    unfold mSubmit
    refine Option.map_eq_some_iff.mpr ⟨?w9, ?p9, ?q9⟩
    case p9 =>
      unfold ex_Ref_submit
      rw [if_pos (show (0 : Int32) = 0 from rfl), if_neg c1, if_pos c2, if_pos c3, if_pos c4, if_neg (show ¬ (0 : Int32) = 1 by decide)]
      refine (bind_eq (sub91 hN)).trans ?_
      rfl
    case q9 =>
      rw [← hm1]; rfl
  · have c4 : ¬ fd_Ref_onTape m.o_this = 0 := by rw [ht]; exact mt (nI_eq (b := 0) (by omega) (by omega)).mp (by omega)
    have hl : fd_Ref_onTape m.o_this - 20 + nI n = nI L := by
      rw [ht, show nI tp - 20 = nI (tp - 20) from nI_subL 20 q, nI_add]; congr 1; omega
    obtain ⟨r, g1, g2⟩ := subl (N := N) (f := m.g_tape) (o0 := m.o_this) (v1 := nI n) (by omega) hl N 0 _ _ (by omega) hs
    unfold mSubmit
    refine Option.map_eq_some_iff.mpr ⟨?w8, ?p8, ?q8⟩
    case p8 =>
      unfold ex_Ref_submit
      rw [if_pos (show (0 : Int32) = 0 from rfl), if_neg c1, if_pos c2, if_pos c3, if_neg c4, if_neg (show ¬ (0 : Int32) = 1 by decide)]
      refine (bind_eq g1).trans ?_
      rfl
    case q8 =>
      rw [g2]; rfl
/-- the tape, on both sides -/
def jT (tp : Nat) (s : CS) (m : RS) : Prop := tp ≤ 65536 ∧ (∃ q, tp = 20 * q) ∧ fd_Main_taped s.o_this = nI tp ∧ fd_Ref_onTape m.o_this = nI tp ∧ agree 65536 s.g_tape m.g_tape ∧ by8 65536 s.g_tape
/-- a job that goes on -/
def jR (N d T h : Nat) (s : CS) (m : RS) : Prop := cI N d T s m ∧ fd_Interpreter_level s.o_interpreter = nI 0 ∧ s.g_interpreter_actCount 0 ≤ s.g_interpreter_actNext 0 ∧ h ≤ 65536 ∧ fd_Ref_had m.o_this = nI h
/-- the sheets of a job that has failed -/
def shX (T d k r : Nat) (s : CS) (m : RS) : Prop := (∃ sd, shR k r d s.o_sheet m.o_sheet s.g_sheet_marks s.g_sheet_dots m.g_sheet_dots sd m.n_sheet_dots ∧ ∀ j, j < 5 → wdN j d ≤ 64 * sd ∧ sd * hgN j d ≤ m.n_sheet_dots) ∧ cRm d s m ∧ (∃ a b c, ruR s.o_sheet m.o_this a b c)
/-- a job that has failed -/
def jX (N d T : Nat) (s : CS) (m : RS) : Prop := (∃ f : Nat, 1 ≤ f ∧ f ≤ 1000 ∧ fd_Main_fault s.o_this = nI f ∧ fd_Ref_fault m.o_this = nI f) ∧ (∃ k r cp p, cPg d k r cp p s m) ∧ (∃ k r, shX T d k r s m) ∧ cFo N s m ∧ fd_FontShelf_chosenKnown s.o_fonts = 1 ∧ cRa d T s m ∧ cMa T s m ∧ cFl s m ∧ cIt s ∧ dkI T m.o_desk
theorem jX_bF {N d T : Nat} {s s' : CS} {m m' : RS} (h : bF N d T s m s' m') : jX N d T s' m' := by
  obtain ⟨h1, h2, h3, ⟨k, r, h4⟩, h5, h6, h7, h8, h9, h10, h11, h12, h13⟩ := h
  exact ⟨⟨20, by omega, by omega, h1, h2⟩, h3, ⟨k, r, h4.1, h4.2.2.2.1, h4.2.2.2.2⟩, h5, h6, h7, h8, h9, h10, h13⟩
theorem kO_jX {N d T : Nat} {s : CS} {m : RS} {x : Int32} (h : jX N d T s m) : jX N d T (kO s (fs_Main_taped s.o_this x)) m := h
theorem kO_jR {N d T h : Nat} {s : CS} {m : RS} {x : Int32} (hh : jR N d T h s m) : jR N d T h (kO s (fs_Main_taped s.o_this x)) m := hh
theorem mO_cI {N d T : Nat} {s : CS} {m : RS} {x y : Int32} {L : Nat} (h : cI N d T s m) : cI N d T (kBg s L) (mO m (fs_Ref_onTape (fs_Ref_thrown m.o_this x) y)) := h
/-- **submit with a stream, on both sides** -/
theorem sb_s {N d T h tp n : Nat} {s : CS} {m : RS} (hN : 2 ^ 24 < N) (hn : 1 ≤ n ∧ n ≤ 20) (hT : T + 4 * (tp + (65536 - h)) ≤ 134000000) (hR : jR N d T h s m) (hT2 : jT tp s m) : ∃ s1 m1 v T', T' ≤ T + 4 * tp + (if tp = 0 then 0 else 262144) ∧ kSubmit N s 0 (nI n) = some (kO s1 (fs_Main_taped s1.o_this 0), v) ∧ mSubmit N m 0 (nI n) = some (m1, v) ∧ kfG s s1 ∧ rfG (mO m (fs_Ref_onTape (fs_Ref_thrown m.o_this 0) 0)) m1 ∧ ((∃ h', h ≤ h' ∧ jR N d T' h' s1 m1) ∨ jX N d T' s1 m1) := by
  obtain ⟨hI, hl, hac, hh, had⟩ := hR
  obtain ⟨t1, ⟨q, t2⟩, t3, t4, t5, t6⟩ := hT2
  obtain ⟨L, hL⟩ : ∃ L, L = tp - (20 - n) := ⟨_, rfl⟩
  have hfa : fd_Main_fault s.o_this = 0 ∧ fd_Ref_fault m.o_this = 0 := by
    obtain ⟨⟨k, r, cp, p, hC⟩, _⟩ := hI
    exact hC.2.2.2.2.2.2.2.1
  obtain ⟨nn, s1, m1, r1, r2, r3⟩ := str_C (N := N) (d := d) (L := L) (tp := m.g_tape) (by omega) (by omega) L 0 T h N (kBg s L) (mO m (fs_Ref_onTape (fs_Ref_thrown m.o_this 0) 0)) (by omega) (by omega) (by omega) hh had (mO_cI hI) hl rfl rfl hac (fun i hi => t5 i (by omega))
  have hms := msub_s (N := N) (by omega) hn t1 (by omega) hfa.2 t4 hL r2
  have hsu : ∀ (hk : kfG s s1) (he : ¬ fd_Main_fault s1.o_this = 0 ∨ kMore N s1 = some 0) (hnn : nn < 16777216), kSubmit N s 0 (nI n) = some (kO s1 (fs_Main_taped s1.o_this 0), fd_OutFile_pages s1.o_file) := by
    intro hk he hnn
    have hks := kStream_of hN (by omega) hnn r1 he hk
    rw [hL] at hks
    exact ksub_s hn t1 hfa.1 t3 hks
  have hval : ∀ {P K S : Nat}, flR P K S s1.o_file s1.g_file_table s1.g_file_bytes m1.o_job m1.g_job_file m1.g_pages → fd_OutFile_pages s1.o_file = fd_mPictures_made m1.o_job := by
    intro P K S hf
    have e1 : fd_OutFile_pages s1.o_file = nI P := by rw [hf.1]
    obtain ⟨_, _, _, _, _, _, _, _, _, _, _, e2⟩ := hf.2.2.2.2.1
    rw [e1, e2]
  rcases r3 with ⟨h', a1, a2, a3, a4, a5, a6, a7, a8, a9, a10⟩ | ⟨T', b0, b1, b2, b3⟩
  · have hk : kfG s s1 := a6.2.2.2.2.2.2
    have hlev : fd_Interpreter_level s1.o_interpreter = nI 0 := a6.1.trans hl
    have hen : s1.g_interpreter_ends 0 = nI L := (a6.2.1 0 (Nat.le_refl _)).1
    have hmore : kMore N s1 = some 0 := by
      unfold kMore ex_Interpreter_hasMore
      rw [hlev, Option.map_id', if_neg (show ¬ (0 : Int32) < nI 0 by decide), a8, hen, if_neg (nI_nlt (Nat.le_refl _) (by omega)), if_pos a9]
    have hfl : ∃ P K S, flR P K S s1.o_file s1.g_file_table s1.g_file_bytes m1.o_job m1.g_job_file m1.g_pages := by
      obtain ⟨⟨k, r, cp, p, hC⟩, _⟩ := a5
      exact hC.2.2.2.2.2.2.1.1
    obtain ⟨P, K, S, hfl⟩ := hfl
    refine ⟨s1, m1, _, T + 4 * (L + (h' - h)), ?_, hsu hk (Or.inr hmore) (by omega), ?_, hk, a7.2.2.2, Or.inl ⟨h', a1, a5, hlev, a9, a2, a3⟩⟩
    · by_cases q : tp = 0
      · rw [if_pos q, a10 (by omega)]; omega
      · rw [if_neg q]; omega
    · rw [hval hfl]; exact hms
  · have hk : kfG s s1 := b3.2.2.2.2.2.2.2.2.2.2.1
    obtain ⟨⟨P, K, S, hfl⟩, _⟩ := b3.2.2.2.2.2.2.2.2.1
    refine ⟨s1, m1, _, T', ?_, hsu hk (Or.inl (by rw [b3.1]; decide)) (by omega), ?_, hk, b3.2.2.2.2.2.2.2.2.2.2.2.1, Or.inr (jX_bF b3)⟩
    · rw [if_neg (by omega)]; omega
    · rw [hval hfl]; exact hms
def by4 (v : Int32) (k : Nat) : Int32 := (v >>> nI (8 * k)).toInt8.toInt32
def tpP (g : Nat → Int32) (t : Nat) (v : Int32) : Nat → Int32 := upd (upd (upd (upd g t (by4 v 3)) (t + 1) (by4 v 2)) (t + 2) (by4 v 1)) (t + 3) (by4 v 0)
theorem tpn_1 {n t : Nat} {v : Int32} {o : ob_Main} {g : Nat → Int32} (k : Nat) (hk : k ≤ 3) (ht : t < 65536) (ho : fd_Main_taped o = nI t) : lp_Main_tapeNumber_3 v (n + 1) (nI (8 * k)) o g = lp_Main_tapeNumber_3 v n (nI (8 * k) + (-8)) (fs_Main_taped o (nI (t + 1))) (upd g t (by4 v k)) := by
  have e1 : nI (8 * k) &&& 31 = nI (8 * k) := by
    have : k = 0 ∨ k = 1 ∨ k = 2 ∨ k = 3 := by omega
    rcases this with e | e | e | e <;> subst e <;> decide
  rw [lp_Main_tapeNumber_3, if_neg (show ¬ nI (8 * k) < 0 from nI_pos (by omega)), ho, if_neg (show ¬ (65536 : Int32) ≤ nI t from nI_ge (b := 65536) ht (by omega)), if_pos (dk_in_nI ht (by omega)), nI_clamp (by omega), e1, nI_1]
  rfl
theorem tpn {N t : Nat} {v : Int32} {o : ob_Main} {g : Nat → Int32} (hN : 5 ≤ N) (ht : t + 4 ≤ 65536) (ho : fd_Main_taped o = nI t) : ex_Main_tapeNumber N o g v = some (fs_Main_taped o (nI (t + 4)), tpP g t v) := by
  obtain ⟨f, rfl⟩ : ∃ f, N = f + 5 := ⟨N - 5, by omega⟩
  have h1 := tpn_1 (n := f + 4) (v := v) (g := g) 3 (by omega) (by omega) ho
  have h2 := tpn_1 (n := f + 3) (v := v) (o := fs_Main_taped o (nI (t + 1))) (g := upd g t (by4 v 3)) 2 (by omega) (t := t + 1) (by omega) rfl
  have h3 := tpn_1 (n := f + 2) (v := v) (o := fs_Main_taped o (nI (t + 2))) (g := upd (upd g t (by4 v 3)) (t + 1) (by4 v 2)) 1 (by omega) (t := t + 2) (by omega) rfl
  have h4 := tpn_1 (n := f + 1) (v := v) (o := fs_Main_taped o (nI (t + 3))) (g := upd (upd (upd g t (by4 v 3)) (t + 1) (by4 v 2)) (t + 2) (by4 v 1)) 0 (by omega) (t := t + 3) (by omega) rfl
  have h5 : lp_Main_tapeNumber_3 v (f + 1) (nI (8 * 0) + (-8)) (fs_Main_taped o (nI (t + 4))) (tpP g t v) = some (fs_Main_taped o (nI (t + 4)), tpP g t v) := by
    rw [lp_Main_tapeNumber_3, if_pos (show nI (8 * 0) + (-8) < 0 by decide)]
  unfold ex_Main_tapeNumber
  have h : lp_Main_tapeNumber_3 v (f + 5) (24 : Int32) o g = some (fs_Main_taped o (nI (t + 4)), tpP g t v) := by
    refine h1.trans ?_
    refine Eq.trans ?_ (h2.trans ?_)
    · rfl
    refine Eq.trans ?_ (h3.trans ?_)
    · rfl
    refine Eq.trans ?_ (h4.trans ?_)
    · rfl
    exact h5
  rw [h]; rfl
theorem fou_1 {n t : Nat} {v : Int32} {o : ob_Ref} {g : Nat → Int32} (k : Nat) (hk : k ≤ 3) (ht : t < 65536) (ho : fd_Ref_onTape o = nI t) : lp_Ref_four_2 v (n + 1) (nI k) o g = lp_Ref_four_2 v n (nI k + (-1)) (fs_Ref_onTape o (nI (t + 1))) (upd g t (by4 v k)) := by
  have e1 : (8 * nI k) &&& 31 = nI (8 * k) := by
    have : k = 0 ∨ k = 1 ∨ k = 2 ∨ k = 3 := by omega
    rcases this with e | e | e | e <;> subst e <;> decide
  rw [lp_Ref_four_2, if_neg (show ¬ nI k < 0 from nI_pos (by omega)), ho, if_pos (dk_in_nI ht (by omega)), nI_clamp (by omega), e1, nI_1]
  rfl
theorem fou {N t : Nat} {v : Int32} {o : ob_Ref} {g : Nat → Int32} (hN : 5 ≤ N) (ht : t + 4 ≤ 65536) (ho : fd_Ref_onTape o = nI t) : ex_Ref_four N o g v = some (fs_Ref_onTape o (nI (t + 4)), tpP g t v) := by
  obtain ⟨f, rfl⟩ : ∃ f, N = f + 5 := ⟨N - 5, by omega⟩
  have h1 := fou_1 (n := f + 4) (v := v) (g := g) 3 (by omega) (by omega) ho
  have h2 := fou_1 (n := f + 3) (v := v) (o := fs_Ref_onTape o (nI (t + 1))) (g := upd g t (by4 v 3)) 2 (by omega) (t := t + 1) (by omega) rfl
  have h3 := fou_1 (n := f + 2) (v := v) (o := fs_Ref_onTape o (nI (t + 2))) (g := upd (upd g t (by4 v 3)) (t + 1) (by4 v 2)) 1 (by omega) (t := t + 2) (by omega) rfl
  have h4 := fou_1 (n := f + 1) (v := v) (o := fs_Ref_onTape o (nI (t + 3))) (g := upd (upd (upd g t (by4 v 3)) (t + 1) (by4 v 2)) (t + 2) (by4 v 1)) 0 (by omega) (t := t + 3) (by omega) rfl
  have h5 : lp_Ref_four_2 v (f + 1) (nI 0 + (-1)) (fs_Ref_onTape o (nI (t + 4))) (tpP g t v) = some (fs_Ref_onTape o (nI (t + 4)), tpP g t v) := by
    rw [lp_Ref_four_2, if_pos (show nI 0 + (-1) < 0 by decide)]
  unfold ex_Ref_four
  have h : lp_Ref_four_2 v (f + 5) (3 : Int32) o g = some (fs_Ref_onTape o (nI (t + 4)), tpP g t v) := by
    refine h1.trans ?_
    refine Eq.trans ?_ (h2.trans ?_)
    · rfl
    refine Eq.trans ?_ (h3.trans ?_)
    · rfl
    refine Eq.trans ?_ (h4.trans ?_)
    · rfl
    exact h5
  rw [h]; rfl
theorem by4_is8 (v : Int32) (k : Nat) : is8 (by4 v k) := by unfold by4; exact is8_to _
theorem ag_upd {n i : Nat} {f g : Nat → Int32} {x : Int32} (h : agree n f g) : agree n (upd f i x) (upd g i x) := by
  intro j hj
  unfold upd
  by_cases q : j = i
  · rw [if_pos q, if_pos q]
  · rw [if_neg q, if_neg q]; exact h j hj
theorem b8_upd {n i : Nat} {f : Nat → Int32} {x : Int32} (h : by8 n f) (hx : is8 x) : by8 n (upd f i x) := by
  intro j hj
  unfold upd
  by_cases q : j = i
  · rw [if_pos q]; exact hx
  · rw [if_neg q]; exact h j hj
theorem tpP_agree {n t : Nat} {f g : Nat → Int32} {v : Int32} (h : agree n f g) : agree n (tpP f t v) (tpP g t v) := ag_upd (ag_upd (ag_upd (ag_upd h)))
theorem tpP_by8 {n t : Nat} {f : Nat → Int32} {v : Int32} (h : by8 n f) : by8 n (tpP f t v) := b8_upd (b8_upd (b8_upd (b8_upd h (by4_is8 _ _)) (by4_is8 _ _)) (by4_is8 _ _)) (by4_is8 _ _)
def tp20 (g : Nat → Int32) (t : Nat) (a b c d e : Int32) : Nat → Int32 := tpP (tpP (tpP (tpP (tpP g t a) (t + 4) b) (t + 8) c) (t + 12) d) (t + 16) e
def kTpd (s : CS) (o : ob_Main) (g : Nat → Int32) : CS := (((o, g), s.2) : CS)
def mTpd (m : RS) (o : ob_Ref) (g : Nat → Int32) : RS := (((o, m.g_pages, m.g_fresh, m.g_shownPages, g, m.g_seed, m.g_xWhat, m.g_xId, m.g_toDo, m.g_toDoId, m.g_bytes2, m.g_bytes1), m.2) : RS)
theorem ktape {N t : Nat} {s : CS} {a b c d e : Int32} (hN : 5 ≤ N) (ht : t ≤ 65536) (ho : fd_Main_taped s.o_this = nI t) : kTape N s a b c d e = some (if t + 20 ≤ 65536 then (kTpd s (fs_Main_taped s.o_this (nI (t + 20))) (tp20 s.g_tape t a b c d e), 1) else (s, 0)) := by
  unfold kTape ex_Main_tape
  rw [ho, show nI t + 20 = nI (t + 20) from nI_addL t 20]
  by_cases q : t + 20 ≤ 65536
  · rw [if_pos q, if_pos (show nI (t + 20) ≤ 65536 from nI_le (b := 65536) q (by omega))]
    rw [tpn hN (by omega) ho, Option.bind_some, tpn (t := t + 4) hN (by omega) rfl, Option.bind_some, tpn (t := t + 8) hN (by omega) rfl, Option.bind_some, tpn (t := t + 12) hN (by omega) rfl, Option.bind_some, tpn (t := t + 16) hN (by omega) rfl, Option.bind_some]
    rfl
  · rw [if_neg q, if_neg (show ¬ nI (t + 20) ≤ 65536 from nI_ge (a := 65536) (by omega) (by omega))]
    rfl
theorem mtape {N t : Nat} {m : RS} {a b c d e : Int32} (hN : 5 ≤ N) (ht : t ≤ 65536) (ho : fd_Ref_onTape m.o_this = nI t) : mTape N m a b c d e = some (if t + 20 ≤ 65536 then (mTpd m (fs_Ref_onTape (fs_Ref_thrown m.o_this 0) (nI (t + 20))) (tp20 m.g_tape t a b c d e), 1) else (mO m (fs_Ref_thrown m.o_this 0), 0)) := by
  unfold mTape ex_Ref_tape
  rw [ho, show nI t + 20 = nI (t + 20) from nI_addL t 20]
  by_cases q : t + 20 ≤ 65536
  · rw [if_pos q, if_pos (show nI (t + 20) ≤ 65536 from nI_le (b := 65536) q (by omega))]
    rw [fou (o := fs_Ref_thrown m.o_this 0) hN (by omega) ho, Option.bind_some, fou (t := t + 4) hN (by omega) rfl, Option.bind_some, fou (t := t + 8) hN (by omega) rfl, Option.bind_some, fou (t := t + 12) hN (by omega) rfl, Option.bind_some, fou (t := t + 16) hN (by omega) rfl, Option.bind_some]
    rfl
  · rw [if_neg q, if_neg (show ¬ nI (t + 20) ≤ 65536 from nI_ge (a := 65536) (by omega) (by omega))]
    rfl
/-- **tape, on both sides** -/
theorem ca_tape {N t : Nat} {s : CS} {m : RS} {a b c d e : Int32} (hN : 5 ≤ N) (hT : jT t s m) : ∃ (t' : Nat) (o : ob_Main) (om : ob_Ref) (g g' : Nat → Int32) (v : Int32), kTape N s a b c d e = some (kTpd s o g, v) ∧ mTape N m a b c d e = some (mTpd m om g', v) ∧ (t' = t ∨ t' = t + 20) ∧ jT t' (kTpd s o g) (mTpd m om g') ∧ o = fs_Main_taped s.o_this (nI t') ∧ om = fs_Ref_onTape (fs_Ref_thrown m.o_this 0) (nI t') := by
  obtain ⟨t1, ⟨q, t2⟩, t3, t4, t5, t6⟩ := hT
  by_cases h : t + 20 ≤ 65536
  · refine ⟨t + 20, fs_Main_taped s.o_this (nI (t + 20)), fs_Ref_onTape (fs_Ref_thrown m.o_this 0) (nI (t + 20)), tp20 s.g_tape t a b c d e, tp20 m.g_tape t a b c d e, 1, ?_, ?_, Or.inr rfl, ⟨h, ⟨q + 1, by omega⟩, rfl, rfl, ?_, ?_⟩, rfl, rfl⟩
    · rw [ktape hN t1 t3, if_pos h]
    · rw [mtape hN t1 t4, if_pos h]
    · exact tpP_agree (tpP_agree (tpP_agree (tpP_agree (tpP_agree t5))))
    · exact tpP_by8 (tpP_by8 (tpP_by8 (tpP_by8 (tpP_by8 t6))))
  · refine ⟨t, fs_Main_taped s.o_this (nI t), fs_Ref_onTape (fs_Ref_thrown m.o_this 0) (nI t), s.g_tape, m.g_tape, 0, ?_, ?_, Or.inl rfl, ⟨t1, ⟨q, t2⟩, rfl, rfl, t5, t6⟩, rfl, rfl⟩
    · rw [ktape hN t1 t3, if_neg h]
      have : fs_Main_taped s.o_this (nI t) = s.o_this := by rw [← t3]
      rw [this]; rfl
    · rw [mtape hN t1 t4, if_neg h]
      have : fs_Ref_onTape (fs_Ref_thrown m.o_this 0) (nI t) = fs_Ref_thrown m.o_this 0 := by rw [← t4]
      rw [this]; rfl
/-- a byte of a file that is shown -/
def bvZ (S : Nat) (g : Nat → Int32) (z : Int) (i : Nat) : Int64 := if 0 ≤ z ∧ 8 * z + i < S then (g (8 * z + i).toNat &&& 255).toInt64 else 0
theorem of_byte {N S i : Nat} {o : ob_OutFile} {g : Nat → Int32} {v : Int32} (hS : S ≤ 60160) (ho : fd_OutFile_length o = nI S) (hi : i < 8) : ex_OutFile_byteAt N o g ((8 * v.toInt64) + (nI i).toInt64) = some (bvZ S g v.toInt i) := by
  have hv1 := Int32.le_toInt v
  have hv2 := Int32.toInt_lt v
  have e0 : (8 * v.toInt64) + (nI i).toInt64 = lI (8 * v.toInt + i) := by
    have e1 : v.toInt64 = lI v.toInt := by
      conv => lhs; rw [iI_of v]
      exact iI_l (by omega)
    rw [e1, nI_iI, iI_l (by omega), show (8 : Int64) = lI 8 from rfl, lI_mul, lI_add]
  rw [e0]
  unfold ex_OutFile_byteAt bvZ
  have h0 : lg_cmp (lI (8 * v.toInt + i)) 0 < 0 ↔ 8 * v.toInt + i < 0 := lcmp_lt (b := 0) (by omega) (by omega)
  have h1 : 0 ≤ lg_cmp (lI (8 * v.toInt + i)) ((fd_OutFile_length o).toInt64) ↔ (S : Int) ≤ 8 * v.toInt + i := by
    rw [ho, nI_iI, iI_l (by omega)]; exact lcmp_ge (by omega) (by omega)
  have h2 : 0 ≤ lg_cmp (lI (8 * v.toInt + i)) 60160 ↔ (60160 : Int) ≤ 8 * v.toInt + i := lcmp_ge (b := 60160) (by omega) (by omega)
  by_cases q0 : 8 * v.toInt + i < 0
  · rw [if_pos (h0.mpr q0), if_neg (by omega)]
  · rw [if_neg (mt h0.mp q0)]
    by_cases q1 : (S : Int) ≤ 8 * v.toInt + i
    · rw [if_pos (h1.mpr q1), if_neg (by omega)]
    · rw [if_neg (mt h1.mp q1), if_neg (mt h2.mp (by omega)), lI_i, if_pos (of_eq_true (iI_in (by omega) (by omega))), iI_clamp (by omega), if_pos (by omega)]
theorem mp_byte {S i n : Nat} {N : Nat} {o : ob_mPictures} {g : Nat → Int32} {v : Int32} {acc : Int64} (hS : S ≤ 60160) (ho : fd_mPictures_size o = nI S) (hi : i < 8) : lp_mPictures_bytes_10 N o g v (n + 1) (nI i) acc = lp_mPictures_bytes_10 N o g v n (nI (i + 1)) ((acc <<< ((8 : Int32).toInt64 &&& 63)) ||| bvZ S g v.toInt i) := by
  have hv1 := Int32.le_toInt v
  have hv2 := Int32.toInt_lt v
  rw [lp_mPictures_bytes_10, if_neg (show ¬ (8 : Int32) ≤ nI i from nI_ge (b := 8) hi (by omega)), nI_1]
  have h0 : v < 0 ↔ v.toInt < 0 := Int32.lt_iff_toInt_lt
  have h1 : (8192 : Int32) ≤ v ↔ (8192 : Int) ≤ v.toInt := Int32.le_iff_toInt_le
  by_cases q0 : v.toInt < 0
  · rw [if_pos (h0.mpr q0)]
    have : bvZ S g v.toInt i = 0 := by unfold bvZ; rw [if_neg (by omega)]
    rw [this]
  · rw [if_neg (mt h0.mp q0)]
    by_cases q1 : (8192 : Int) ≤ v.toInt
    · rw [if_pos (h1.mpr q1)]
      have : bvZ S g v.toInt i = 0 := by unfold bvZ; rw [if_neg (by omega)]
      rw [this]
    · rw [if_neg (mt h1.mp q1)]
      have e1 : (8 * v) + nI i = iI (8 * v.toInt + i) := by
        conv => lhs; rw [iI_of v]
        rw [nI_iI, show (8 : Int32) = iI 8 from rfl, iI_mul, iI_add]
      have h2 : fd_mPictures_size o ≤ (8 * v) + nI i ↔ (S : Int) ≤ 8 * v.toInt + i := by
        rw [e1, ho, nI_iI]; exact iI_le (by omega) (by omega)
      by_cases q2 : (S : Int) ≤ 8 * v.toInt + i
      · rw [if_pos (h2.mpr q2)]
        have : bvZ S g v.toInt i = 0 := by unfold bvZ; rw [if_neg (by omega)]
        rw [this]
      · rw [if_neg (mt h2.mp q2), e1]
        have e2 : ex_mPictures_at N (fs_mPictures_thrown o 0) g (iI (8 * v.toInt + i)) = some (g (8 * v.toInt + i).toNat &&& 255) := by
          unfold ex_mPictures_at
          rw [if_pos (of_eq_true (iI_in (by omega) (by omega))), iI_clamp (by omega)]
        rw [e2, Option.bind_some]
        have : bvZ S g v.toInt i = (g (8 * v.toInt + i).toNat &&& 255).toInt64 := by unfold bvZ; rw [if_pos (by omega)]
        rw [this]
theorem by_lp {N S : Nat} {o : ob_OutFile} {om : ob_mPictures} {g g' : Nat → Int32} {v : Int32} (hS : S ≤ 60160) (ho : fd_OutFile_length o = nI S) (hm : fd_mPictures_size om = nI S) (hg : agree S g g') : ∀ (r n i : Nat) (acc : Int64), i + r = 8 → r < n → ∃ x, lp_Main_bytesAt_13 N o g v n (nI i) acc = some x ∧ lp_mPictures_bytes_10 N om g' v n (nI i) acc = some x := by
  intro r
  induction r with
  | zero =>
    intro n i acc h hn
    obtain ⟨n, rfl⟩ : ∃ z, n = z + 1 := ⟨n - 1, by omega⟩
    refine ⟨acc, ?_, ?_⟩
    · rw [lp_Main_bytesAt_13, if_pos (show (8 : Int32) ≤ nI i from nI_le (a := 8) (by omega) (by omega))]
    · rw [lp_mPictures_bytes_10, if_pos (show (8 : Int32) ≤ nI i from nI_le (a := 8) (by omega) (by omega))]
  | succ r ih =>
    intro n i acc h hn
    obtain ⟨n, rfl⟩ : ∃ z, n = z + 1 := ⟨n - 1, by omega⟩
    have e : bvZ S g' v.toInt i = bvZ S g v.toInt i := by
      unfold bvZ
      by_cases q : 0 ≤ v.toInt ∧ 8 * v.toInt + i < S
      · rw [if_pos q, if_pos q, hg _ (by omega)]
      · rw [if_neg q, if_neg q]
    obtain ⟨x, x1, x2⟩ := ih n (i + 1) ((acc <<< ((8 : Int32).toInt64 &&& 63)) ||| bvZ S g v.toInt i) (by omega) (by omega)
    refine ⟨x, ?_, ?_⟩
    · rw [lp_Main_bytesAt_13, if_neg (show ¬ (8 : Int32) ≤ nI i from nI_ge (b := 8) (by omega) (by omega)), of_byte hS ho (by omega), Option.bind_some, nI_1]
      exact x1
    · rw [mp_byte hS hm (by omega), e]; exact x2
theorem by_lp0 {N : Nat} {o : ob_OutFile} {g : Nat → Int32} {v : Int32} (ho : fd_OutFile_length o = nI 0) : ∀ (r n i : Nat), i + r = 8 → r < n → lp_Main_bytesAt_13 N o g v n (nI i) 0 = some 0 := by
  intro r
  induction r with
  | zero =>
    intro n i h hn
    obtain ⟨n, rfl⟩ : ∃ z, n = z + 1 := ⟨n - 1, by omega⟩
    rw [lp_Main_bytesAt_13, if_pos (show (8 : Int32) ≤ nI i from nI_le (a := 8) (by omega) (by omega))]
  | succ r ih =>
    intro n i h hn
    obtain ⟨n, rfl⟩ : ∃ z, n = z + 1 := ⟨n - 1, by omega⟩
    have e : bvZ 0 g v.toInt i = 0 := by unfold bvZ; rw [if_neg (by omega)]
    rw [lp_Main_bytesAt_13, if_neg (show ¬ (8 : Int32) ≤ nI i from nI_ge (b := 8) (by omega) (by omega)), of_byte (S := 0) (by omega) ho (by omega), Option.bind_some, nI_1, e]
    exact ih n (i + 1) (by omega) (by omega)
/-- the file that is shown -/
def jZ (J : Nat) (s : CS) (m : RS) : Prop := ∃ j P S : Nat, j ≤ J ∧ fd_Main_ended s.o_this = nI j ∧ fd_Ref_jobs m.o_this = nI j ∧ P ≤ 40 ∧ S ≤ 60160 ∧ fd_OutFile_length s.o_shown = nI S ∧ fd_OutFile_pages s.o_shown = nI P ∧ agree S s.g_shown_bytes m.g_shown_file ∧ agree (4 * P) s.g_shown_table m.g_shownPages ∧ (j = 0 → P = 0 ∧ S = 0) ∧ (j ≠ 0 → fd_mPictures_size m.o_shown = nI S ∧ fd_mPictures_made m.o_shown = nI P) ∧ (∃ K, K ≤ S ∧ pgOK P K m.g_shownPages m.g_shown_file)
def mSw (m : RS) (o : ob_Ref) (os : ob_mPictures) : RS := (((o, m.g_pages, m.g_fresh, m.g_shownPages, m.g_tape, m.g_seed, m.g_xWhat, m.g_xId, m.g_toDo, m.g_toDoId, m.g_bytes2, m.g_bytes1), m.2.1, m.2.2.1, m.2.2.2.1, m.2.2.2.2.1, m.2.2.2.2.2.1, m.2.2.2.2.2.2.1, (os, m.g_shown_file), m.2.2.2.2.2.2.2.2.1, m.2.2.2.2.2.2.2.2.2) : RS)
/-- **bytesAt, on both sides** -/
theorem ca_bytes {N J : Nat} {s : CS} {m : RS} {v : Int32} (hN : 9 ≤ N) (hJ : J < 2 ^ 30) (hZ : jZ J s m) : ∃ x os, (os = m.o_shown ∨ os = fs_mPictures_thrown m.o_shown 0) ∧ kBytesAt N s v = some x ∧ mBytesAt N m v = some (mSw m (fs_Ref_thrown m.o_this 0) os, x) := by
  obtain ⟨j, P, S, z1, z2, z3, z4, z5, z6, z7, z8, z9, z10, z11, z12⟩ := hZ
  by_cases q : j = 0
  · have hS : S = 0 := (z10 q).2
    refine ⟨0, m.o_shown, Or.inl rfl, ?_, ?_⟩
    · unfold kBytesAt ex_Main_bytesAt
      rw [show lp_Main_bytesAt_13 N s.o_shown s.g_shown_bytes v N 0 0 = some 0 from by_lp0 (by rw [z6, hS]) 8 N 0 (by omega) (by omega)]; rfl
    · unfold mBytesAt ex_Ref_bytesAt
      rw [if_pos (show fd_Ref_jobs m.o_this = 0 by rw [z3, q]; rfl)]; rfl
  · obtain ⟨y1, y2⟩ := z11 q
    obtain ⟨x, x1, x2⟩ := by_lp (N := N) (v := v) z5 z6 y1 z8 8 N 0 0 (by omega) (by omega)
    refine ⟨x, fs_mPictures_thrown m.o_shown 0, Or.inr rfl, ?_, ?_⟩
    · unfold kBytesAt ex_Main_bytesAt
      rw [show lp_Main_bytesAt_13 N s.o_shown s.g_shown_bytes v N 0 0 = some x from x1]; rfl
    · unfold mBytesAt ex_Ref_bytesAt
      rw [if_neg (show ¬ fd_Ref_jobs m.o_this = 0 by rw [z3]; exact mt (nI_eq (b := 0) (by omega) (by omega)).mp q)]
      unfold ex_mPictures_bytes
      rw [show lp_mPictures_bytes_10 N m.o_shown m.g_shown_file v N 0 0 = some x from x2]; rfl
theorem kmany {N J : Nat} {s : CS} {m : RS} (hJ : J < 2 ^ 30) (hZ : jZ J s m) : ∃ P, P ≤ 40 ∧ fd_OutFile_pages s.o_shown = nI P ∧ (∀ o, fd_Ref_jobs o = fd_Ref_jobs m.o_this → ex_Ref_shownMany N o m.o_shown = some (nI P)) ∧ agree (4 * P) s.g_shown_table m.g_shownPages := by
  obtain ⟨j, P, S, z1, z2, z3, z4, z5, z6, z7, z8, z9, z10, z11, z12⟩ := hZ
  refine ⟨P, z4, z7, fun o ho => ?_, z9⟩
  unfold ex_Ref_shownMany
  by_cases q : j = 0
  · rw [if_pos (show fd_Ref_jobs o = 0 by rw [ho, z3, q]; rfl), (z10 q).1]; rfl
  · rw [if_neg (show ¬ fd_Ref_jobs o = 0 by rw [ho, z3]; exact mt (nI_eq (b := 0) (by omega) (by omega)).mp q), (z11 q).2]
theorem nn_of {v : Int32} (h : ¬ v < 0) : ∃ a : Nat, a < 2 ^ 31 ∧ v = nI a := by
  have h1 : 0 ≤ v.toInt := by
    rw [Int32.lt_iff_toInt_lt] at h
    have : (0 : Int32).toInt = 0 := rfl
    omega
  have h2 := Int32.toInt_lt v
  refine ⟨v.toInt.toNat, by omega, ?_⟩
  rw [nI_iI, show ((v.toInt.toNat : Nat) : Int) = v.toInt by omega]; exact iI_of v
/-- when sheetOf throws -/
def shT (P : Nat) (v w : Int32) : Prop := v < 0 ∨ nI P ≤ v ∨ w < 0 ∨ ¬ w ≤ 3
/-- **sheetOf, on both sides** -/
theorem ca_sheet {N J : Nat} {s : CS} {m : RS} {v w : Int32} (hJ : J < 2 ^ 30) (hZ : jZ J s m) : ∃ P, P ≤ 40 ∧ fd_OutFile_pages s.o_shown = nI P ∧ (shT P v w → mSheetOf N m v w = some (mO m (fs_Ref_thrown m.o_this 1), 0)) ∧ (¬ shT P v w → ∃ x, kSheetOf N s v w = some x ∧ mSheetOf N m v w = some (mO m (fs_Ref_thrown m.o_this 0), x)) := by
  obtain ⟨P, hP, hp1, hp2, hp3⟩ := kmany (N := N) hJ hZ
  refine ⟨P, hP, hp1, fun h => ?_, fun h => ?_⟩
  · unfold mSheetOf ex_Ref_sheetOf
    by_cases q0 : v < 0
    · rw [if_pos q0]; rfl
    · rw [if_neg q0, hp2 _ rfl, Option.bind_some]
      by_cases q1 : nI P ≤ v
      · rw [if_pos q1]; rfl
      · rw [if_neg q1]
        by_cases q2 : w < 0
        · rw [if_pos q2]; rfl
        · rw [if_neg q2, if_neg (show ¬ w ≤ 3 by
            rcases h with h | h | h | h
            · exact absurd h q0
            · exact absurd h q1
            · exact absurd h q2
            · exact h)]; rfl
  · have q0 : ¬ v < 0 := fun e => h (Or.inl e)
    have q1 : ¬ nI P ≤ v := fun e => h (Or.inr (Or.inl e))
    have q2 : ¬ w < 0 := fun e => h (Or.inr (Or.inr (Or.inl e)))
    have q3 : w ≤ 3 := Classical.byContradiction fun e => h (Or.inr (Or.inr (Or.inr e)))
    obtain ⟨a, ha1, ha⟩ := nn_of q0
    obtain ⟨b, hb1, hb⟩ := nn_of q2
    have ha2 : a < P := by
      rw [ha] at q1
      exact Classical.byContradiction fun e => q1 (nI_le (by omega) (by omega))
    have hb2 : b ≤ 3 := by
      rw [hb] at q3
      exact Classical.byContradiction fun e => nI_ge (a := 3) (b := b) (by omega) (by omega) q3
    have e1 : (v * 4) + w = nI (4 * a + b) := by
      rw [ha, hb, show nI a * 4 = nI (a * 4) from nI_mulL a 4, nI_add, Nat.mul_comm]
    have e2 : (4 * v) + w = nI (4 * a + b) := by
      rw [ha, hb, show (4 : Int32) * nI a = nI (4 * a) from nI_mul 4 a, nI_add]
    refine ⟨s.g_shown_table (4 * a + b), ?_, ?_⟩
    · unfold kSheetOf ex_Main_sheetOf
      rw [if_neg q0, hp1, if_neg q1, if_neg q2, if_pos q3]
      unfold ex_OutFile_told
      rw [e1, if_neg (show ¬ nI (4 * a + b) < 0 from nI_pos (by omega)), if_neg (show ¬ (160 : Int32) ≤ nI (4 * a + b) from nI_ge (b := 160) (by omega) (by omega)), if_pos (dk_in_nI (by omega) (by omega)), nI_clamp (by omega)]
      rfl
    · unfold mSheetOf ex_Ref_sheetOf
      rw [if_neg q0, hp2 _ rfl, Option.bind_some, if_neg q1, if_neg q2, if_pos q3, e2, if_pos (dk_in_nI (by omega) (by omega)), nI_clamp (by omega), ← hp3 _ (by omega)]
      rfl
def mStq (m : RS) (o : ob_Ref) (sh : ob_mShelf) (lf : Nat → Int32) : RS := (((o, m.g_pages, m.g_fresh, m.g_shownPages, m.g_tape, m.g_seed, m.g_xWhat, m.g_xId, m.g_toDo, m.g_toDoId, m.g_bytes2, m.g_bytes1), m.2.1, m.2.2.1, m.2.2.2.1, m.2.2.2.2.1, (sh, m.g_shelf_ids, m.g_shelf_attributes, m.g_shelf_permanent, m.g_shelf_glyph, m.g_shelf_store, m.g_shelf_draft, m.g_shelf_wishes, m.g_shelf_pins, m.g_shelf_coming, m.g_shelf_bytes, lf), m.2.2.2.2.2.2.1, m.2.2.2.2.2.2.2.1, m.2.2.2.2.2.2.2.2.1, m.2.2.2.2.2.2.2.2.2) : RS)

/-- what holds of a job, whether it goes on or has failed -/
def jB (N d T : Nat) (s : CS) (m : RS) : Prop := (∃ f : Nat, f ≤ 1000 ∧ fd_Main_fault s.o_this = nI f ∧ fd_Ref_fault m.o_this = nI f) ∧ (∃ k r cp p, cPg d k r cp p s m) ∧ (∃ k r, shX T d k r s m) ∧ cFo N s m ∧ fd_FontShelf_chosenKnown s.o_fonts = 1 ∧ cRa d T s m ∧ cMa T s m ∧ cFl s m ∧ cIt s ∧ dkI T m.o_desk
theorem jB_X {N d T : Nat} {s : CS} {m : RS} (h : jX N d T s m) : jB N d T s m := by
  obtain ⟨⟨f, f1, f2, f3, f4⟩, h⟩ := h
  exact ⟨⟨f, f2, f3, f4⟩, h⟩
theorem jB_R {N d T h : Nat} {s : CS} {m : RS} (hh : jR N d T h s m) : jB N d T s m := by
  obtain ⟨⟨⟨k, r, cp, p, hPg, hSh, hFo, hKn, hRa, hMa, hFl, hFa, hIt⟩, _⟩, _⟩ := hh
  exact ⟨⟨0, by omega, hFa.1, hFa.2⟩, ⟨k, r, cp, p, hPg⟩, ⟨k, r, hSh.2.2.1, hSh.2.2.2.2.1, hSh.2.2.2.2.2⟩, hFo, hKn, hRa, hMa, hFl, hIt, hSh.1⟩
theorem ch_id {N F w : Nat} {o : ob_FontShelf} {om : ob_mShelf} {pnm im wm am pm ch ic lm : Nat → Int32} (hw : w < 2) (hF : F ≤ 32) (ho : fd_mShelf_fonts om = nI F) (hi : agree F ic im) (h : chM N F pnm im wm am pm ch) : ∃ x lf, ex_FontShelf_chosenId N o ic ch (nI w) = some x ∧ ex_mShelf_chosen N om im am pm 14 wm 2 pnm lm (nI w) = some (fs_mShelf_thrown om 0, lf, x) := by
  obtain ⟨h1, h2⟩ := h w hw
  obtain ⟨lf, h3⟩ := h2 (fs_mShelf_thrown om 0) lm ho
  have e1 : ex_FontShelf_chosenSlot N o ic ch (nI w) = some (ch w) := by
    unfold ex_FontShelf_chosenSlot
    rw [if_neg (show ¬ nI w < 0 from nI_pos (by omega)), if_neg (show ¬ (2 : Int32) ≤ nI w from nI_ge (b := 2) hw (by omega)), if_pos (dk_in_nI hw (by omega)), nI_clamp (by omega)]
    refine if_neg ?_
    rcases h1 with q | ⟨t, q1, q2⟩
    · rw [q]; decide
    · rw [q2]; exact nI_ge (b := 32) (by omega) (by omega)
  have e2 : ex_mShelf_chosen N om im am pm 14 wm 2 pnm lm (nI w) = if (0 : Int32) ≤ ch w then (if dk_in (ch w) 33 then some (fs_mShelf_thrown om 0, lf, im (ch w).toNatClampNeg) else none) else some (fs_mShelf_thrown om 0, lf, -1) := by
    unfold ex_mShelf_chosen
    have : w = 0 ∨ w = 1 := by omega
    rcases this with q | q
    · subst q
      rw [if_pos (show nI 0 = 0 from rfl), h3]; rfl
    · subst q
      rw [if_neg (show ¬ nI 1 = 0 by decide), if_pos (show nI 1 = 1 from rfl), h3]; rfl
  unfold ex_FontShelf_chosenId
  rw [e1, e2, Option.bind_some]
  rcases h1 with q | ⟨t, q1, q2⟩
  · refine ⟨-1, lf, ?_, ?_⟩
    · rw [q, if_pos (by decide)]
    · rw [q, if_neg (by decide)]
  · refine ⟨ic t, lf, ?_, ?_⟩
    · rw [q2, if_neg (show ¬ nI t < 0 from nI_pos (by omega)), if_neg (show ¬ (32 : Int32) ≤ nI t from nI_ge (b := 32) (by omega) (by omega)), if_pos (dk_in_nI (by omega) (by omega)), nI_clamp (by omega)]
    · rw [q2, if_pos (show (0 : Int32) ≤ nI t from nI_le (a := 0) (by omega) (by omega)), if_pos (dk_in_nI (by omega) (by omega)), nI_clamp (by omega), hi t q1]
theorem sz_num {N d k r cp : Nat} {p : Nat → Nat} (hk : k < 5) : ex_Page_sizeNumber N (pgC d k r cp p) = some (nI (szN k)) := by
  have ho : fd_Page_size (pgC d k r cp p) = nI k := rfl
  unfold ex_Page_sizeNumber ex_Page_ofSize_SIZES
  rw [ho, if_neg (show ¬ nI k < 0 from nI_pos (by omega)), if_neg (show ¬ (5 : Int32) ≤ nI k from nI_ge (b := 5) hk (by omega)), if_pos (dk_in_nI hk (by omega)), nI_clamp (by omega)]
  have : k = 0 ∨ k = 1 ∨ k = 2 ∨ k = 3 ∨ k = 4 := by omega
  rcases this with e | e | e | e | e <;> subst e <;> rfl

/-- **status, on both sides** -/
theorem ca_status {N d T J tp : Nat} {s : CS} {m : RS} {v : Int32} (hN : 1000 < N) (hJ : J < 2 ^ 30) (hB : jB N d T s m) (hT : jT tp s m) (hZ : jZ J s m) : ∃ x sh lf, (sh = m.o_shelf ∨ sh = fs_mShelf_thrown m.o_shelf 0) ∧ kStatus N s v = some x ∧ mStatus N m v = some (mStq m (fs_Ref_thrown m.o_this 0) sh lf, x) := by
  obtain ⟨P, hP, hp1, hp2, hp3⟩ := kmany (N := N) hJ hZ
  obtain ⟨j, P', S, z1, z2, z3, z4, z5, z6, z7, z8, z9, z10, z11, z12⟩ := hZ
  obtain ⟨t1, _, t3, t4, t5, t6⟩ := hT
  obtain ⟨⟨f, f1, f2, f3⟩, ⟨k, r, cp, p, hPg⟩, ⟨k2, r2, hSh⟩, hFo, hKn, hRa, hMa, hFl, hIt⟩ := hB
  obtain ⟨pd, pk, pr, pcp, pp, pok, pst, pdk, pd1, pd2⟩ := hPg
  obtain ⟨dk1, dk2, dk3, dk4, dk5, dk6⟩ := pdk
  obtain ⟨⟨sd, ⟨n, u, kd, nu, io, so, mk, sh1, sh2, sh3, sh4, sh5, sh6, _⟩, _⟩, _⟩ := hSh
  obtain ⟨F, gn, gu, ⟨slk, sl1, sl2, sl3, sl4, sl5, sl6, sl7, sl8⟩, hW, hCh⟩ := hFo
  have hch : chM N F m.g_shelf_pins m.g_shelf_ids m.g_shelf_wishes m.g_shelf_attributes m.g_shelf_permanent s.g_fonts_chosen := by
    rcases hCh with q | ⟨_, q⟩
    · rw [hKn] at q; exact absurd q (by decide)
    · exact q
  obtain ⟨⟨mn, mu, ln, ma1, ma2, ma3, ma4, _, _, _, ma8, _⟩, _, _, ⟨h, ma9, ma10, ma11⟩⟩ := hMa
  obtain ⟨op, rsl, md, nw, nh, ra1, ra2, _, _, _, _, _, _, _, _, _, _, _, _, _, _, ra3⟩ := hRa
  obtain ⟨⟨fP, fK, fS, hfl⟩, _, _, _, _, hov⟩ := hFl
  obtain ⟨_, _, _, _, _, _, _, _, _, _, _, fl2⟩ := hfl.2.2.2.2.1
  by_cases q0 : v = 0
  · subst q0
    have e : fd_Main_dpi s.o_this = fd_Ref_dpi m.o_this := pd1.trans pd2.symm
    exact ⟨fd_Main_dpi s.o_this, m.o_shelf, m.g_shelf_left, Or.inl rfl, rfl, by rw [e]; rfl⟩
  by_cases q1 : v = 1
  · subst q1
    have e : fd_Main_taped s.o_this = fd_Ref_onTape m.o_this := t3.trans t4.symm
    exact ⟨fd_Main_taped s.o_this, m.o_shelf, m.g_shelf_left, Or.inl rfl, rfl, by rw [e]; rfl⟩
  by_cases q2 : v = 2
  · subst q2
    have e : fd_OutFile_pages s.o_file = fd_mPictures_made m.o_job := by rw [hfl.1, fl2]
    exact ⟨fd_OutFile_pages s.o_file, m.o_shelf, m.g_shelf_left, Or.inl rfl, rfl, by rw [e]; rfl⟩
  by_cases q3 : v = 3
  · subst q3
    have e : fd_Main_fault s.o_this = fd_Ref_fault m.o_this := f2.trans f3.symm
    exact ⟨fd_Main_fault s.o_this, m.o_shelf, m.g_shelf_left, Or.inl rfl, rfl, by rw [e]; rfl⟩
  by_cases q4 : v = 4
  · subst q4
    have e : fd_Sheet_count s.o_sheet = fd_mSheet_marks m.o_sheet := sh1.trans sh3.symm
    exact ⟨fd_Sheet_count s.o_sheet, m.o_shelf, m.g_shelf_left, Or.inl rfl, rfl, by rw [e]; rfl⟩
  by_cases q5 : v = 5
  · subst q5
    have e : fd_Sheet_used s.o_sheet = fd_mSheet_bytes m.o_sheet := sh2.trans sh4.symm
    exact ⟨fd_Sheet_used s.o_sheet, m.o_shelf, m.g_shelf_left, Or.inl rfl, rfl, by rw [e]; rfl⟩
  by_cases q6 : v = 6
  · subst q6
    have e : fd_Sheet_overrun s.o_sheet = fd_mSheet_overrun m.o_sheet := sh5
    have k1 : kStatus N s 6 = (if fd_Sheet_overrun s.o_sheet = 0 then some 0 else some 1) := by unfold kStatus; rw [Option.map_id']; rfl
    have k2 : mStatus N m 6 = (if fd_mSheet_overrun m.o_sheet = 0 then some (mStq m (fs_Ref_thrown m.o_this 0) m.o_shelf m.g_shelf_left, 0) else some (mStq m (fs_Ref_thrown m.o_this 0) m.o_shelf m.g_shelf_left, 1)) := by
      unfold mStatus
      have : ∀ (c : Prop) [Decidable c] (x y : rs_Ref_status) (g : rs_Ref_status → RS × Int32), Option.map g (if c then some x else some y) = if c then some (g x) else some (g y) := fun c _ x y g => by split <;> rfl
      exact this _ _ _ _
    rw [k1, k2, ← e]
    by_cases qq : fd_Sheet_overrun s.o_sheet = 0
    · exact ⟨0, m.o_shelf, m.g_shelf_left, Or.inl rfl, by rw [if_pos qq], by rw [if_pos qq]⟩
    · exact ⟨1, m.o_shelf, m.g_shelf_left, Or.inl rfl, by rw [if_neg qq], by rw [if_neg qq]⟩
  by_cases q7 : v = 7
  · subst q7
    have e : fd_Page_x s.o_page = m.g_desk_state 0 := by rw [pp, dk6 0 (by omega)]; rfl
    exact ⟨fd_Page_x s.o_page, m.o_shelf, m.g_shelf_left, Or.inl rfl, rfl, by rw [e]; rfl⟩
  by_cases q8 : v = 8
  · subst q8
    have e : fd_Page_y s.o_page = m.g_desk_state 1 := by rw [pp, dk6 1 (by omega)]; rfl
    exact ⟨fd_Page_y s.o_page, m.o_shelf, m.g_shelf_left, Or.inl rfl, rfl, by rw [e]; rfl⟩
  by_cases q9 : v = 9
  · subst q9
    refine ⟨nI (szN k), m.o_shelf, m.g_shelf_left, Or.inl rfl, ?_, by rw [← dk1]; rfl⟩
    unfold kStatus; rw [Option.map_id']
    show (ex_Page_sizeNumber N s.o_page).bind _ = _
    rw [pp, sz_num pk]; rfl
  by_cases q10 : v = 10
  · subst q10
    have e : fd_Page_orientation s.o_page = fd_mDesk_orientation m.o_desk := by rw [pp, dk2]; rfl
    exact ⟨fd_Page_orientation s.o_page, m.o_shelf, m.g_shelf_left, Or.inl rfl, rfl, by rw [e]; rfl⟩
  by_cases q11 : v = 11
  · subst q11
    have e : fd_Page_font s.o_page = m.g_desk_state 11 := by rw [pp, dk6 11 (by omega)]; rfl
    exact ⟨fd_Page_font s.o_page, m.o_shelf, m.g_shelf_left, Or.inl rfl, rfl, by rw [e]; rfl⟩
  by_cases q12 : v = 12
  · subst q12
    have e : fd_FontShelf_fonts s.o_fonts = fd_mShelf_fonts m.o_shelf := sl1.trans sl4.symm
    exact ⟨fd_FontShelf_fonts s.o_fonts, m.o_shelf, m.g_shelf_left, Or.inl rfl, rfl, by rw [e]; rfl⟩
  by_cases q13 : v = 13
  · subst q13
    have e : fd_FontShelf_glyphCount s.o_fonts = fd_mShelf_glyphs m.o_shelf := sl2.trans sl5.symm
    exact ⟨fd_FontShelf_glyphCount s.o_fonts, m.o_shelf, m.g_shelf_left, Or.inl rfl, rfl, by rw [e]; rfl⟩
  by_cases q14 : v = 14
  · subst q14
    obtain ⟨x, lf, x1, x2⟩ := ch_id (N := N) (w := 0) (o := s.o_fonts) (lm := m.g_shelf_left) (by omega) slk.1 sl4 slk.2.1 hch
    refine ⟨x, fs_mShelf_thrown m.o_shelf 0, lf, Or.inr rfl, ?_, ?_⟩
    · unfold kStatus; rw [Option.map_id']
      show ((ex_FontShelf_chosenId N s.o_fonts s.g_fonts_ids s.g_fonts_chosen 0).bind _).bind _ = _
      rw [show ex_FontShelf_chosenId N s.o_fonts s.g_fonts_ids s.g_fonts_chosen 0 = some x from x1]; rfl
    · unfold mStatus
      show Option.map _ ((ex_mShelf_chosen N m.o_shelf m.g_shelf_ids m.g_shelf_attributes m.g_shelf_permanent 14 m.g_shelf_wishes 2 m.g_shelf_pins m.g_shelf_left 0).bind _) = _
      rw [show ex_mShelf_chosen N m.o_shelf m.g_shelf_ids m.g_shelf_attributes m.g_shelf_permanent 14 m.g_shelf_wishes 2 m.g_shelf_pins m.g_shelf_left 0 = some (fs_mShelf_thrown m.o_shelf 0, lf, x) from x2]; rfl
  by_cases q15 : v = 15
  · subst q15
    obtain ⟨x, lf, x1, x2⟩ := ch_id (N := N) (w := 1) (o := s.o_fonts) (lm := m.g_shelf_left) (by omega) slk.1 sl4 slk.2.1 hch
    refine ⟨x, fs_mShelf_thrown m.o_shelf 0, lf, Or.inr rfl, ?_, ?_⟩
    · unfold kStatus; rw [Option.map_id']
      show ((ex_FontShelf_chosenId N s.o_fonts s.g_fonts_ids s.g_fonts_chosen 1).bind _).bind _ = _
      rw [show ex_FontShelf_chosenId N s.o_fonts s.g_fonts_ids s.g_fonts_chosen 1 = some x from x1]; rfl
    · unfold mStatus
      show Option.map _ ((ex_mShelf_chosen N m.o_shelf m.g_shelf_ids m.g_shelf_attributes m.g_shelf_permanent 14 m.g_shelf_wishes 2 m.g_shelf_pins m.g_shelf_left 1).bind _) = _
      rw [show ex_mShelf_chosen N m.o_shelf m.g_shelf_ids m.g_shelf_attributes m.g_shelf_permanent 14 m.g_shelf_wishes 2 m.g_shelf_pins m.g_shelf_left 1 = some (fs_mShelf_thrown m.o_shelf 0, lf, x) from x2]; rfl
  by_cases q16 : v = 16
  · subst q16
    have e : fd_Macros_count s.o_macros = fd_mMacros_count m.o_macros := ma1.trans ma3.symm
    exact ⟨fd_Macros_count s.o_macros, m.o_shelf, m.g_shelf_left, Or.inl rfl, rfl, by rw [e]; rfl⟩
  by_cases q17 : v = 17
  · subst q17
    have e : fd_Macros_used s.o_macros = fd_mMacros_used m.o_macros := ma2.trans ma4.symm
    exact ⟨fd_Macros_used s.o_macros, m.o_shelf, m.g_shelf_left, Or.inl rfl, rfl, by rw [e]; rfl⟩
  by_cases q18 : v = 18
  · subst q18
    have e : fd_Macros_reading s.o_macros = fd_mMacros_reading m.o_macros := ma8
    have k1 : kStatus N s 18 = (if fd_Macros_reading s.o_macros = 0 then some 0 else some 1) := by
      unfold kStatus; rw [Option.map_id']
      have : ∀ (c : Prop) [Decidable c] (x y : Int32), (if c then some x else some y).bind (fun u => some u) = if c then some x else some y := fun c _ x y => by split <;> rfl
      exact this _ _ _
    have k2 : mStatus N m 18 = (if fd_mMacros_reading m.o_macros = 0 then some (mStq m (fs_Ref_thrown m.o_this 0) m.o_shelf m.g_shelf_left, 0) else some (mStq m (fs_Ref_thrown m.o_this 0) m.o_shelf m.g_shelf_left, 1)) := by
      unfold mStatus
      have : ∀ (c : Prop) [Decidable c] (x y : rs_Ref_status) (g : rs_Ref_status → RS × Int32), Option.map g (if c then some x else some y) = if c then some (g x) else some (g y) := fun c _ x y g => by split <;> rfl
      exact this _ _ _ _
    rw [k1, k2, ← e]
    by_cases qq : fd_Macros_reading s.o_macros = 0
    · exact ⟨0, m.o_shelf, m.g_shelf_left, Or.inl rfl, by rw [if_pos qq], by rw [if_pos qq]⟩
    · exact ⟨1, m.o_shelf, m.g_shelf_left, Or.inl rfl, by rw [if_neg qq], by rw [if_neg qq]⟩
  by_cases q19 : v = 19
  · subst q19
    have e : fd_Macros_had s.o_macros = fd_Ref_had m.o_this := ma10.trans ma11.symm
    exact ⟨fd_Macros_had s.o_macros, m.o_shelf, m.g_shelf_left, Or.inl rfl, rfl, by rw [e]; rfl⟩
  by_cases q20 : v = 20
  · subst q20
    have e : fd_Raster_open s.o_raster = fd_Ref_open m.o_this := ra1.trans ra2.symm
    have k1 : kStatus N s 20 = (if fd_Raster_open s.o_raster = 0 then some 0 else some 1) := by
      unfold kStatus; rw [Option.map_id']
      have : ∀ (c : Prop) [Decidable c] (x y : Int32), (if c then some x else some y).bind (fun u => some u) = if c then some x else some y := fun c _ x y => by split <;> rfl
      exact this _ _ _
    have k2 : mStatus N m 20 = (if fd_Ref_open m.o_this = 0 then some (mStq m (fs_Ref_thrown m.o_this 0) m.o_shelf m.g_shelf_left, 0) else some (mStq m (fs_Ref_thrown m.o_this 0) m.o_shelf m.g_shelf_left, 1)) := by
      unfold mStatus
      have : ∀ (c : Prop) [Decidable c] (x y : rs_Ref_status) (g : rs_Ref_status → RS × Int32), Option.map g (if c then some x else some y) = if c then some (g x) else some (g y) := fun c _ x y g => by split <;> rfl
      exact this _ _ _ _
    rw [k1, k2, ← e]
    by_cases qq : fd_Raster_open s.o_raster = 0
    · exact ⟨0, m.o_shelf, m.g_shelf_left, Or.inl rfl, by rw [if_pos qq], by rw [if_pos qq]⟩
    · exact ⟨1, m.o_shelf, m.g_shelf_left, Or.inl rfl, by rw [if_neg qq], by rw [if_neg qq]⟩
  by_cases q21 : v = 21
  · subst q21
    have e : fd_Raster_open s.o_raster = fd_Ref_open m.o_this := ra1.trans ra2.symm
    have k1 : kStatus N s 21 = (if fd_Raster_open s.o_raster = 0 then some (-1) else some (fd_Raster_row s.o_raster)) := by
      unfold kStatus; rw [Option.map_id']
      have : ∀ (c : Prop) [Decidable c] (x y : Int32), (if c then some x else some y).bind (fun u => some u) = if c then some x else some y := fun c _ x y => by split <;> rfl
      exact this _ _ _
    have k2 : mStatus N m 21 = (if fd_Ref_open m.o_this = 0 then some (mStq m (fs_Ref_thrown m.o_this 0) m.o_shelf m.g_shelf_left, -1) else some (mStq m (fs_Ref_thrown m.o_this 0) m.o_shelf m.g_shelf_left, fd_Ref_row m.o_this)) := by
      unfold mStatus
      have : ∀ (c : Prop) [Decidable c] (x y : rs_Ref_status) (g : rs_Ref_status → RS × Int32), Option.map g (if c then some x else some y) = if c then some (g x) else some (g y) := fun c _ x y g => by split <;> rfl
      exact this _ _ _ _
    rw [k1, k2, ← e]
    by_cases qq : fd_Raster_open s.o_raster = 0
    · exact ⟨-1, m.o_shelf, m.g_shelf_left, Or.inl rfl, by rw [if_pos qq], by rw [if_pos qq]⟩
    · have hop : op = true := by
        cases op with
        | true => rfl
        | false => exact absurd ra1 (by intro w; exact qq w)
      obtain ⟨_, X, Y, sc, rw_, W, H, hrp⟩ := ra3 hop
      have er : fd_Raster_row s.o_raster = fd_Ref_row m.o_this := hrp.2.2.2.2.2.2.1.trans hrp.2.2.2.2.2.2.2.1.symm
      exact ⟨fd_Raster_row s.o_raster, m.o_shelf, m.g_shelf_left, Or.inl rfl, by rw [if_neg qq], by rw [if_neg qq, er]⟩
  by_cases q22 : v = 22
  · subst q22
    by_cases qj : j = 0
    · have e1 : fd_OutFile_length s.o_shown = 0 := by rw [z6, (z10 qj).2]; rfl
      have e2 : fd_Ref_jobs m.o_this = 0 := by rw [z3, qj]; rfl
      refine ⟨0, m.o_shelf, m.g_shelf_left, Or.inl rfl, by rw [← e1]; rfl, ?_⟩
      unfold mStatus
      show Option.map _ (if fd_Ref_jobs m.o_this = 0 then _ else _) = _
      rw [if_pos e2]; rfl
    · have e2 : ¬ fd_Ref_jobs m.o_this = 0 := by rw [z3]; exact mt (nI_eq (b := 0) (by omega) (by omega)).mp qj
      refine ⟨nI S, m.o_shelf, m.g_shelf_left, Or.inl rfl, by rw [← z6]; rfl, ?_⟩
      unfold mStatus
      show Option.map _ (if fd_Ref_jobs m.o_this = 0 then _ else _) = _
      rw [if_neg e2, (z11 qj).1]; rfl
  by_cases q23 : v = 23
  · subst q23
    refine ⟨nI P, m.o_shelf, m.g_shelf_left, Or.inl rfl, by rw [← hp1]; rfl, ?_⟩
    unfold mStatus
    show Option.map _ ((ex_Ref_shownMany N (fs_Ref_thrown m.o_this 0) m.o_shown).bind _) = _
    rw [hp2 (fs_Ref_thrown m.o_this 0) rfl]; rfl
  by_cases q24 : v = 24
  · subst q24
    have e : fd_Main_ended s.o_this = fd_Ref_jobs m.o_this := z2.trans z3.symm
    exact ⟨fd_Main_ended s.o_this, m.o_shelf, m.g_shelf_left, Or.inl rfl, rfl, by rw [e]; rfl⟩
  by_cases q25 : v = 25
  · subst q25
    have e : fd_Main_overruns s.o_this = fd_Ref_overruns m.o_this := hov
    exact ⟨fd_Main_overruns s.o_this, m.o_shelf, m.g_shelf_left, Or.inl rfl, rfl, by rw [e]; rfl⟩
  refine ⟨-1, m.o_shelf, m.g_shelf_left, Or.inl rfl, ?_, ?_⟩
  · unfold kStatus ex_Main_status
    rw [if_neg q0, if_neg q1, if_neg q2, if_neg q3, if_neg q4, if_neg q5, if_neg q6, if_neg q7, if_neg q8, if_neg q9, if_neg q10, if_neg q11, if_neg q12, if_neg q13, if_neg q14, if_neg q15, if_neg q16, if_neg q17, if_neg q18, if_neg q19, if_neg q20, if_neg q21, if_neg q22, if_neg q23, if_neg q24, if_neg q25]
    unfold ex_Main_storeStatus
    rw [if_neg q12, if_neg q13, if_neg q14, if_neg q15, if_neg q16, if_neg q17, if_neg q18, if_neg q19, if_neg q20, if_neg q21]; rfl
  · unfold mStatus ex_Ref_status
    rw [if_neg q0, if_neg q1, if_neg q2, if_neg q3, if_neg q4, if_neg q5, if_neg q6, if_neg q7, if_neg q8, if_neg q9, if_neg q10, if_neg q11, if_neg q12, if_neg q13, if_neg q14, if_neg q15, if_neg q16, if_neg q17, if_neg q18, if_neg q19, if_neg q20, if_neg q21, if_neg q22, if_neg q23, if_neg q24, if_neg q25]; rfl
theorem ac_bw {e : Nat} {F G : Nat → Int32} (xs : List Int32) (hx : e ≤ xs.length) : agree e (bw F 0 xs) (bw G 0 xs) := by
  intro i hi
  rw [bw_get, bw_get, if_pos (by omega), if_pos (by omega)]
/-- a desk begins again -/
theorem md_restart {N : Nat} {o : ob_mDesk} {st ik g : Nat → Int32} (hN : 1000 < N) : ∃ st' ik' g', ex_mDesk_restart N o st ik g = some (rsO (fs_mDesk_stored (fs_mDesk_others (fs_mDesk_touched (fs_mDesk_allGlyphs (fs_mDesk_glyphs (fs_mDesk_came (fs_mDesk_phase o 0) 0) 0) 0) 0) 0) 0), st', ik', g') ∧ dkM 1 0 1 zsN (rsO (fs_mDesk_stored (fs_mDesk_others (fs_mDesk_touched (fs_mDesk_allGlyphs (fs_mDesk_glyphs (fs_mDesk_came (fs_mDesk_phase o 0) 0) 0) 0) 0) 0) 0)) g' := by
  have h1 : ∀ (r n k : Nat) (g : Nat → Int32), k + r = 512 → r < n → ∃ g', lp_mDesk_restart_2 n (nI k) g = some g' := by
    intro r
    induction r with
    | zero =>
      intro n k g hk hn
      obtain ⟨n, rfl⟩ : ∃ z, n = z + 1 := ⟨n - 1, by omega⟩
      exact ⟨g, by rw [lp_mDesk_restart_2, if_pos (show (512 : Int32) ≤ nI k from nI_le (a := 512) (by omega) (by omega))]⟩
    | succ r ih =>
      intro n k g hk hn
      obtain ⟨n, rfl⟩ : ∃ z, n = z + 1 := ⟨n - 1, by omega⟩
      obtain ⟨g', hg'⟩ := ih n (k + 1) (upd g k (-1)) (by omega) (by omega)
      refine ⟨g', ?_⟩
      rw [lp_mDesk_restart_2, if_neg (show ¬ (512 : Int32) ≤ nI k from nI_ge (b := 512) (by omega) (by omega)), if_pos (dk_in_nI (by omega) (by omega)), nI_clamp (by omega), nI_1]
      exact hg'
  have h2 : ∀ (r n k : Nat) (g : Nat → Int32), k + r = 3 → r < n → ∃ g', lp_mDesk_restart_24c2 n (nI k) g = some g' := by
    intro r
    induction r with
    | zero =>
      intro n k g hk hn
      obtain ⟨n, rfl⟩ : ∃ z, n = z + 1 := ⟨n - 1, by omega⟩
      exact ⟨g, by rw [lp_mDesk_restart_24c2, if_pos (show (3 : Int32) ≤ nI k from nI_le (a := 3) (by omega) (by omega))]⟩
    | succ r ih =>
      intro n k g hk hn
      obtain ⟨n, rfl⟩ : ∃ z, n = z + 1 := ⟨n - 1, by omega⟩
      obtain ⟨g', hg'⟩ := ih n (k + 1) (upd g k 0) (by omega) (by omega)
      refine ⟨g', ?_⟩
      rw [lp_mDesk_restart_24c2, if_neg (show ¬ (3 : Int32) ≤ nI k from nI_ge (b := 3) (by omega) (by omega)), if_pos (dk_in_nI (by omega) (by omega)), nI_clamp (by omega), nI_1]
      exact hg'
  obtain ⟨st', e1⟩ := h1 512 N 0 st (by omega) (by omega)
  obtain ⟨ik', e2⟩ := h2 3 N 0 ik (by omega) (by omega)
  obtain ⟨g', e3, e4⟩ := md_reset (N := N) (o := fs_mDesk_stored (fs_mDesk_others (fs_mDesk_touched (fs_mDesk_allGlyphs (fs_mDesk_glyphs (fs_mDesk_came (fs_mDesk_phase o 0) 0) 0) 0) 0) 0) 0) (g := g) (by omega)
  refine ⟨st', ik', g', ?_, e4⟩
  unfold ex_mDesk_restart
  refine (bind_eq e1).trans ((bind_eq e2).trans ((bind_eq e3).trans ?_))
  rfl
/-- the reference's file begins -/
theorem mp_begin {N : Nat} {o : ob_mPictures} {f : Nat → Int32} : ∃ f', ex_mPictures_begin N o f 73 = some (fs_mPictures_link (fs_mPictures_made (fs_mPictures_open (fs_mPictures_making (fs_mPictures_size (fs_mPictures_order (fs_mPictures_thrown o 0) 73) (nI 8)) 1) 0) 0) 4, f') ∧ ∀ g, agree 8 (bw g 0 fileHead) f' := by
  have h1 : ∀ (L : Nat) (o : ob_mPictures) (f : Nat → Int32) (v : Int32), L < 65536 → ex_mPictures_one N (fs_mPictures_size o (nI L)) f v = some (fs_mPictures_size o (nI (L + 1)), upd f L v.toInt8.toInt32) := by
    intro L o f v hL
    unfold ex_mPictures_one
    show (if dk_in (nI L) 65536 then _ else _) = _
    rw [if_pos (dk_in_nI hL (by omega))]
    show some (fs_mPictures_size o (nI L + 1), upd f (nI L).toNatClampNeg _) = _
    rw [nI_1, nI_clamp (by omega)]
  have h2 : ∀ (L : Nat) (o : ob_mPictures) (f : Nat → Int32) (v : Int32), L + 1 < 65536 → fd_mPictures_order o = 73 → ex_mPictures_two N (fs_mPictures_size o (nI L)) f v = some (fs_mPictures_size o (nI (L + 2)), upd (upd f L v.toInt8.toInt32) (L + 1) (v >>> ((8 : Int32) &&& 31)).toInt8.toInt32) := by
    intro L o f v hL ho
    have n1 : ¬ fd_mPictures_order o = 77 := by rw [ho]; decide
    unfold ex_mPictures_two
    rw [if_neg (show ¬ fd_mPictures_order (fs_mPictures_size o (nI L)) = 77 from n1), h1 L o f v (by omega), Option.bind_some, if_neg (show ¬ fd_mPictures_order (fs_mPictures_size o (nI (L + 1))) = 77 from n1), h1 (L + 1) o _ _ (by omega), Option.bind_some]
  have h4 : ∀ (L : Nat) (o : ob_mPictures) (f : Nat → Int32) (v : Int32), L + 3 < 65536 → fd_mPictures_order o = 73 → ex_mPictures_four N (fs_mPictures_size o (nI L)) f v = some (fs_mPictures_size o (nI (L + 4)), upd (upd (upd (upd f L v.toInt8.toInt32) (L + 1) (v >>> ((8 : Int32) &&& 31)).toInt8.toInt32) (L + 2) (v >>> ((16 : Int32) &&& 31)).toInt8.toInt32) (L + 3) ((v >>> ((16 : Int32) &&& 31)) >>> ((8 : Int32) &&& 31)).toInt8.toInt32) := by
    intro L o f v hL ho
    have n1 : ¬ fd_mPictures_order o = 77 := by rw [ho]; decide
    unfold ex_mPictures_four
    rw [if_neg (show ¬ fd_mPictures_order (fs_mPictures_size o (nI L)) = 77 from n1), h2 L o f v (by omega) ho, Option.bind_some, if_neg (show ¬ fd_mPictures_order (fs_mPictures_size o (nI (L + 2))) = 77 from n1), h2 (L + 2) o _ _ (by omega) ho, Option.bind_some]
  obtain ⟨oo, hoo⟩ : ∃ oo, oo = fs_mPictures_order (fs_mPictures_thrown o 0) 73 := ⟨_, rfl⟩
  have hor : fd_mPictures_order oo = 73 := by rw [hoo]
  refine ⟨upd (upd (upd (upd (upd (upd (upd (upd f 0 73) 1 73) 2 42) 3 0) 4 0) 5 0) 6 0) 7 0, ?_, fun g i hi => ?_⟩
  · unfold ex_mPictures_begin
    rw [if_pos rfl]
    have e0 : fs_mPictures_order (fs_mPictures_size (fs_mPictures_thrown o 0) 0) 73 = fs_mPictures_size oo (nI 0) := by rw [hoo]; rfl
    rw [e0, h1 0 oo f 73 (by omega), Option.bind_some, h1 1 oo _ 73 (by omega), Option.bind_some, h2 2 oo _ 42 (by omega) hor, Option.bind_some, h4 4 oo _ 0 (by omega) hor, Option.bind_some, hoo]
    rfl
  · have : i = 0 ∨ i = 1 ∨ i = 2 ∨ i = 3 ∨ i = 4 ∨ i = 5 ∨ i = 6 ∨ i = 7 := by omega
    rw [bw_get, if_pos (by show 0 ≤ i ∧ i < 0 + 8; omega)]
    rcases this with e | e | e | e | e | e | e | e <;> subst e <;> rfl
def kCoF (s : CS) (o : ob_Main) (oS : ob_Sheet) (oP : ob_Page) (oF : ob_FontShelf) (ic ac pc gg gdt wc pnc ch lc : Nat → Int32) (oM : ob_Macros) (mi mp ml mt mb : Nat → Int32) (oR : ob_Raster) (of : ob_OutFile) (fb : Nat → Int32) : CS := (((o, s.g_tape), (s.o_file, s.g_file_bytes, s.g_file_table), s.2.2.1, s.2.2.2.1, s.2.2.2.2.1, (oS, s.g_sheet_marks, s.g_sheet_dots, s.n_sheet_band, s.g_sheet_band), (oP, s.g_page_stack, s.g_page_kept), (of, fb, s.g_shown_table), (fs_Interpreter_level s.o_interpreter 0, fs_Parser_mode s.o_interpreter_parser 0, upd s.g_interpreter_at 0 (s.g_interpreter_ends 0), s.g_interpreter_ends, upd s.g_interpreter_actCount 0 0, upd s.g_interpreter_actNext 0 0, s.g_interpreter_copies, s.g_interpreter_called, s.g_interpreter_acts, s.g_interpreter_actIds, s.g_interpreter_parser_data), (oM, mi, mp, ml, mt, mb, s.n_macros_collected, s.g_macros_collected, s.g_macros_saidActs, s.g_macros_saidIds), (oF, ic, ac, pc, gg, gdt, wc, pnc, ch, lc, s.g_fonts_coming), (oR, s.g_raster_seed)) : CS)

def mCoF (m : RS) (o : ob_Ref) (oD : ob_mDesk) (dg di ds : Nat → Int32) (oF : ob_mShelf) (im am pm gm gs dr wm pnm : Nat → Int32) (oM : ob_mMacros) (mi mt ml mb : Nat → Int32) (oS : ob_mSheet) (sd : Nat → Int64) (oJ oH : ob_mPictures) (jf q1 q2 : Nat → Int32) : RS := (((o, m.g_shownPages, m.g_fresh, m.g_pages, m.g_tape, m.g_seed, m.g_xWhat, m.g_xId, m.g_toDo, m.g_toDoId, m.g_bytes2, m.g_bytes1), (oJ, jf, q1, q2), m.2.2.1, (oS, m.n_sheet_dots, sd), (oD, dg, di, ds, m.g_desk_store, m.g_desk_page, m.g_desk_other, m.g_desk_glyph, m.g_desk_kept), (oF, im, am, pm, gm, gs, dr, wm, pnm, m.g_shelf_coming, m.g_shelf_bytes, m.g_shelf_left), (oM, mi, mt, ml, mb, m.g_macros_buffer), (oH, m.g_job_file), m.2.2.2.2.2.2.2.2.1, m.2.2.2.2.2.2.2.2.2) : RS)

theorem mc_endJob {N T : Nat} {o : ob_Macros} {om : ob_mMacros} {ic pc lc tc bc col im tm lm bm buf : Nat → Int32} (hN : 20000 < N) (h : mcS T o om ic pc lc tc bc col im tm lm bm buf) : ∃ (o' : ob_Macros) (om' : ob_mMacros) (ic' pc' lc' tc' bc' im' tm' lm' bm' : Nat → Int32), ex_Macros_endJob N (fs_Macros_said (fs_Macros_reading o 0) 0) ic pc lc tc bc = some (o', ic', pc', lc', tc', bc') ∧ ex_mMacros_removeAll N om im tm lm bm 0 = some (om', im', tm', lm', bm') ∧ mcS T o' (fs_mMacros_reading om' 0) ic' pc' lc' tc' bc' col im' tm' lm' bm' buf ∧ fd_Macros_had o' = 0 ∧ fd_Macros_id o' = 0 ∧ fd_Macros_said o' = 0 := by
  obtain ⟨n, u, ln, c1, c2, c3, c4, c5, c6, c7, c8, c9⟩ := h
  obtain ⟨n', u', ln', ic', pc', lc', tc', bc', im', tm', lm', bm', d1, d2, d3, d4⟩ := mc_drop (N := N) (fs_Macros_id (fs_Macros_had (fs_Macros_said (fs_Macros_reading (fs_Macros_said (fs_Macros_reading o 0) 0) 0) 0) 0) 0).2.2 om.2.2 hN c5
  have e1 : fs_Macros_id (fs_Macros_had (fs_Macros_said (fs_Macros_reading (fs_Macros_said (fs_Macros_reading o 0) 0) 0) 0) 0) 0 = (nI n, nI u, (fs_Macros_id (fs_Macros_had (fs_Macros_said (fs_Macros_reading (fs_Macros_said (fs_Macros_reading o 0) 0) 0) 0) 0) 0).2.2) := by
    rw [← c1, ← c2]
  have e2 : om = (nI n, nI u, om.2.2) := by rw [← c3, ← c4]
  refine ⟨(nI n', nI u', (fs_Macros_id (fs_Macros_had (fs_Macros_said (fs_Macros_reading (fs_Macros_said (fs_Macros_reading o 0) 0) 0) 0) 0) 0).2.2), (nI n', nI u', om.2.2), ic', pc', lc', tc', bc', im', tm', lm', bm', ?_, ?_, ⟨n', u', ln', rfl, rfl, rfl, rfl, d3, c6, c7, rfl, Or.inl rfl⟩, rfl, rfl, rfl⟩
  · unfold ex_Macros_endJob
    refine (bind_eq (rfl : ex_Macros_forget N (fs_Macros_said (fs_Macros_reading o 0) 0) = some _)).trans ?_
    refine (bind_eq ((congrArg (fun z => ex_Macros_dropPassing N z tc ic pc lc bc) e1).trans d1)).trans ?_
    rfl
  · rw [e2]; exact d2
/-- the sheets of a new job -/
theorem sh_new {N d T k r : Nat} {s : CS} {m : RS} {oR : ob_Ref} {oD : ob_mDesk} {dg : Nat → Int32} (hN : 2 ^ 22 < N) (hd : isDpi d) (hX : shX T d k r s m) (hdp : fd_Ref_dpi oR = nI d) (hD : dkM 1 0 1 zsN oD dg) :
    ∃ oS b os2, ex_Sheet_endJob N s.o_sheet = some oS ∧ ex_mSheet_blank N m.o_sheet m.n_sheet_dots m.g_sheet_dots = some (fs_mSheet_overrun (fs_mSheet_bytes (fs_mSheet_marks m.o_sheet 0) 0) 0, b) ∧ ex_Ref_measure N oR (fs_mSheet_inkOpaque (fs_mSheet_sourceOpaque (fs_mSheet_value (fs_mSheet_ink (fs_mSheet_overrun (fs_mSheet_bytes (fs_mSheet_marks m.o_sheet 0) 0) 0) 0) 0) 0) 0) oD = some os2 ∧ (∃ sd, shR 1 0 d oS os2 s.g_sheet_marks s.g_sheet_dots b sd m.n_sheet_dots ∧ ∀ j, j < 5 → wdN j d ≤ 64 * sd ∧ sd * hgN j d ≤ m.n_sheet_dots) ∧ fd_mSheet_marks os2 = 0 ∧ fd_Sheet_due oS = 0 ∧ fd_Sheet_bandLines oS = fd_Sheet_bandLines s.o_sheet ∧ fd_Sheet_ruleWidth oS = 0 ∧ fd_Sheet_ruleHeight oS = 0 ∧ fd_Sheet_pattern oS = 0 := by
  obtain ⟨⟨sd, h, hrm⟩, hcm, hru⟩ := hX
  have h0 := h
  obtain ⟨n, u, kd, nu, io, so, mk, c1, c2, c3, c4, c5, c6, c7, c8⟩ := h0
  have hnd : m.n_sheet_dots < 2 ^ 22 := hcm.2.2
  obtain ⟨b, q1, q2⟩ := sh_blank (N := N) c8 c3 (by omega)
  have hd3 : d ≤ 300 := by rcases hd with h | h | h <;> omega
  have a1 := (acr_tab 1 (by omega)).2
  have a2 := (dwn_tab 1 (by omega)).2
  have hwl := wd_le (k := 1) (d := d) (by omega) hd3
  have ev : ∀ a : Nat, a ≤ 122400 → nI a * (nI d / 75) / 96 = nI (a * d / 7200) := fun a ha => by
    have h1 : nI d / 75 = nI (d / 75) := nI_div (b := 75) (by omega) (by omega)
    have hb : d / 75 ≤ 4 := by omega
    have hm : a * (d / 75) ≤ 122400 * 4 := Nat.mul_le_mul ha hb
    have h2 : nI (a * (d / 75)) / 96 = nI (a * (d / 75) / 96) := nI_div (b := 96) (by omega) (by omega)
    rw [h1, nI_mul, h2, dp_mul hd]
  obtain ⟨j1, j2, j3, j4, j5, j6, j7⟩ := c8
  obtain ⟨x1, x2, x3, x4, x5, x6, x7, x8, x9, x10⟩ := j6
  obtain ⟨os1, hos1⟩ : ∃ x, x = fs_mSheet_inkOpaque (fs_mSheet_sourceOpaque (fs_mSheet_value (fs_mSheet_ink (fs_mSheet_overrun (fs_mSheet_bytes (fs_mSheet_marks m.o_sheet 0) 0) 0) 0) 0) 0) 0 := ⟨_, rfl⟩
  refine ⟨fs_Sheet_pattern (fs_Sheet_ruleHeight (fs_Sheet_ruleWidth (fs_Sheet_sourceOpaque (fs_Sheet_inkOpaque (fs_Sheet_inkNumber (fs_Sheet_ink (fs_Sheet_due (fs_Sheet_overrun (fs_Sheet_used (fs_Sheet_count s.o_sheet 0) 0) 0) 0) 0) 0) 0) 0) 0) 0) 0, b, fs_mSheet_orientation (fs_mSheet_high (fs_mSheet_wide os1 (nI (wdN 1 d))) (nI (hgN 1 d))) (nI 0), rfl, q1, ?_, ⟨sd, ?_, hrm⟩, ?_, rfl, rfl, rfl, rfl, rfl⟩
  · rw [← hos1]
    unfold ex_Ref_measure
    rw [hD.1, md_across 1 (by omega), md_down 1 (by omega)]
    simp only [Option.bind_some]
    rw [hdp, ev _ (by omega), ev _ (by omega), hD.2.1]; rfl
  · rw [hos1]
    refine ⟨0, 0, 0, 0, false, false, mk, rfl, rfl, rfl, rfl, rfl, Or.inl rfl, ⟨rfl, rfl, by omega, fun q => absurd q (by omega), rfl, fun q => absurd q (by omega), fun q => absurd q (by omega), by omega, rfl, rfl, rfl, rfl⟩, by omega, by omega, fun k hk => absurd hk (by omega), fun j hj => absurd hj (by omega), j5, ⟨x1, rfl, rfl, rfl, by omega, (hrm 1 (by omega)).1, (hrm 1 (by omega)).2, x8, by omega, by omega⟩, fun x y hx hy => ?_⟩
    rw [q2 x y hx hy]
    show false = if x < wdN 1 d ∧ y < hgN 1 d then false else false
    rw [ite_self]
  · rw [hos1]
def bgO (o : ob_Ref) : ob_Ref := fs_Ref_xMany (fs_Ref_had (fs_Ref_macroId (fs_Ref_open (fs_Ref_method (fs_Ref_nextHeight (fs_Ref_nextWidth (fs_Ref_resolution (fs_Ref_pattern (fs_Ref_ruleHigh (fs_Ref_ruleWide (fs_Ref_overruns (fs_Ref_fault (fs_Ref_onTape o 0) 0) 0) 0) 0) 0) 75) 0) 0) 0) 0) 0) 0) 0
/-- what a new job needs of the old one -/
def jN (N d T : Nat) (s : CS) (m : RS) : Prop := (isDpi d ∧ (∃ k r cp p, s.o_page = pgC d k r cp p) ∧ fd_Main_dpi s.o_this = nI d ∧ fd_Ref_dpi m.o_this = nI d) ∧ (∃ k r, shX T d k r s m) ∧ cFo N s m ∧ cRa d T s m ∧ cMa T s m ∧ cFl s m ∧ cIt s ∧ dkI T m.o_desk
theorem jN_B {N d T : Nat} {s : CS} {m : RS} (h : jB N d T s m) : jN N d T s m := by
  obtain ⟨_, ⟨k, r, cp, p, pd, pk, pr, pcp, pp, pok, pst, pdk, pd1, pd2⟩, h1, h2, _, h3, h4, h5, h6, h7⟩ := h
  exact ⟨⟨pd, ⟨k, r, cp, p, pp⟩, pd1, pd2⟩, h1, h2, h3, h4, h5, h6, h7⟩
/-- **a new job, on both sides** -/
theorem rs_new {N d T : Nat} {s : CS} {m : RS} (hN : 2 ^ 22 < N) (hB : jN N d T s m) : ∃ (oS : ob_Sheet) (oP : ob_Page) (oF : ob_FontShelf) (ic ac pc gg gdt wc pnc ch lc : Nat → Int32) (oM : ob_Macros) (mi mp ml mt mb : Nat → Int32) (oRa : ob_Raster) (of : ob_OutFile) (fb : Nat → Int32) (oD : ob_mDesk) (dg di ds : Nat → Int32) (oFm : ob_mShelf) (im am pm gm gs dr wm pnm : Nat → Int32) (oMm : ob_mMacros) (ni nt nl nb : Nat → Int32) (oSm : ob_mSheet) (sdt : Nat → Int64) (oJ : ob_mPictures) (jf : Nat → Int32),
    ex_Sheet_endJob N s.o_sheet = some oS ∧ ex_Page_reset N s.o_page = some oP ∧ ex_FontShelf_endJob N s.o_fonts s.g_fonts_ids s.g_fonts_attributes s.g_fonts_permanent s.g_fonts_glyphs s.g_fonts_dots s.g_fonts_wishes s.g_fonts_pins s.g_fonts_chosen s.g_fonts_left = some (oF, ic, ac, pc, gg, gdt, wc, pnc, ch, lc) ∧ ex_Macros_endJob N (fs_Macros_said (fs_Macros_reading s.o_macros 0) 0) s.g_macros_ids s.g_macros_places s.g_macros_lengths s.g_macros_permanent s.g_macros_bytes = some (oM, mi, mp, ml, mt, mb) ∧ ex_Raster_endJob N s.o_raster = some oRa ∧ ex_OutFile_begin N s.o_shown s.g_shown_bytes = some (of, fb) ∧
    (∀ oR0, fd_Ref_dpi oR0 = nI d → ex_Ref_begin N oR0 m.o_desk m.g_desk_state m.g_desk_isKept m.g_desk_steps m.o_shelf m.g_shelf_ids m.g_shelf_attributes m.g_shelf_permanent m.g_shelf_glyph m.g_shelf_store 7 m.g_shelf_draft 14 m.g_shelf_wishes 2 m.g_shelf_pins m.o_macros m.g_macros_ids m.g_macros_permanent m.g_macros_lengths m.g_macros_store m.o_sheet m.n_sheet_dots m.g_sheet_dots = some (bgO oR0, oD, dg, di, ds, oFm, im, am, pm, gm, gs, dr, wm, pnm, oMm, ni, nt, nl, nb, oSm, sdt)) ∧ ex_mPictures_begin N m.o_shown m.g_shown_file 73 = some (oJ, jf) ∧
    (∀ oT oR0 oH q1 q2, fd_Main_dpi oT = nI d → fd_Main_fault oT = 0 → fd_Main_overruns oT = 0 → fd_Ref_dpi oR0 = nI d → jR N d T 0 (kCoF s oT oS oP oF ic ac pc gg gdt wc pnc ch lc oM mi mp ml mt mb oRa of fb) (mCoF m (bgO oR0) oD dg di ds oFm im am pm gm gs dr wm pnm oMm ni nt nl nb oSm sdt oJ oH jf q1 q2)) := by
  obtain ⟨⟨pd, ⟨k, r, cp, p, pp⟩, pd1, pd2⟩, ⟨k2, r2, hX⟩, hFo, hRa, hMa, hFl, hIt, hdI⟩ := hB
  obtain ⟨ds, di, dg, D1, D2⟩ := md_restart (N := N) (o := m.o_desk) (st := m.g_desk_steps) (ik := m.g_desk_isKept) (g := m.g_desk_state) (by omega)
  obtain ⟨oD, hoD⟩ : ∃ x, x = rsO (fs_mDesk_stored (fs_mDesk_others (fs_mDesk_touched (fs_mDesk_allGlyphs (fs_mDesk_glyphs (fs_mDesk_came (fs_mDesk_phase m.o_desk 0) 0) 0) 0) 0) 0) 0) := ⟨_, rfl⟩
  rw [← hoD] at D1 D2
  obtain ⟨oS, sdt, oSm, S1, S2, S3, S4, S5, S6, S7, S8, S9, S10⟩ := sh_new (N := N) (oR := bgO m.o_this) hN pd hX pd2 D2
  obtain ⟨F, n, u, hS, hW, hCh⟩ := hFo
  obtain ⟨F', n', u', oF, om1, oFm, ic, pc, ac, gg, gdt, im, pm, am, gm, gs, wc, pnc, ch, lc, dr, wm, pnm, cnt, F1, F2, F3, F4, F5, F6, F7⟩ := sl_end (N := N) s.g_fonts_wishes s.g_fonts_pins s.g_fonts_chosen s.g_fonts_left m.g_shelf_draft m.g_shelf_wishes m.g_shelf_pins (by omega) hS
  obtain ⟨ma1, ma2, ma3, ma4⟩ := hMa
  obtain ⟨oM, oMm, mi, mp, ml, mt, mb, ni, nt, nl, nb, M1, M2, M3, M4, M5, M6⟩ := mc_endJob (N := N) (by omega) ma1
  obtain ⟨jf, J1, J2⟩ := mp_begin (N := N) (o := m.o_shown) (f := m.g_shown_file)
  have hfb := file_begin (N := N) (o := s.o_shown) (g := s.g_shown_bytes) (by omega)
  have hpr := pg_resetZ (N := N) (d := d) (k := k) (r := r) (cp := cp) (p := p)
  rw [← pp] at hpr
  obtain ⟨hfl0, fl2, fl3, fl4, fl5, fl6⟩ := hFl
  obtain ⟨hrm, hcm⟩ := hX.2.1
  refine ⟨oS, pgC d 1 0 1 zsN, oF, ic, ac, pc, gg, gdt, wc, pnc, ch, lc, oM, mi, mp, ml, mt, mb, fs_Raster_nextHeight (fs_Raster_nextWidth (fs_Raster_method (fs_Raster_resolution (fs_Raster_open s.o_raster 0) 75) 0) 0) 0, (nI 8, nI 0, nI 4), bw s.g_shown_bytes 0 fileHead, oD, dg, di, ds, oFm, im, am, pm, gm, gs, dr, wm, pnm, fs_mMacros_reading oMm 0, ni, nt, nl, nb, oSm, sdt, _, jf, S1, hpr, F1, M1, rfl, hfb, ?_, J1, ?_⟩
  · intro oR0 hdp
    unfold ex_Ref_begin
    refine (bind_eq D1).trans ((bind_eq F2).trans ((bind_eq F3).trans ((bind_eq M2).trans ((bind_eq S2).trans ?_))))
    have S3' : ex_Ref_measure N (bgO oR0) (fs_mSheet_inkOpaque (fs_mSheet_sourceOpaque (fs_mSheet_value (fs_mSheet_ink (fs_mSheet_overrun (fs_mSheet_bytes (fs_mSheet_marks m.o_sheet 0) 0) 0) 0) 0) 0) 0) oD = some oSm := by
      have e : fd_Ref_dpi (bgO oR0) = fd_Ref_dpi (bgO m.o_this) := hdp.trans pd2.symm
      unfold ex_Ref_measure at S3 ⊢
      rw [e]; exact S3
    exact (bind_eq S3').trans rfl
  · intro oT oR0 oH q1 q2 hd1 hf1 hv1 hd2
    refine ⟨⟨⟨1, 0, 1, zsN, ?_, ?_, ⟨F', n', u', F4, F5, Or.inr ⟨F7, F6⟩⟩, F7, ?_, ⟨M3, ma2, ⟨0, by omega, M5, rfl⟩, ⟨0, by omega, M4, rfl⟩⟩, ?_, ⟨hf1, rfl⟩, hIt⟩, ?_, ⟨0, by omega, M6, rfl, fun i hi => absurd hi (by omega), fun i hi => absurd hi (by omega), fun i hi => absurd hi (by omega)⟩⟩, rfl, ?_, by omega, rfl⟩
    · refine ⟨pd, by omega, by omega, by omega, rfl, ?_, ?_, D2, hd1, hd2⟩
      · exact zs_ok
      · exact zs_stk _
    · obtain ⟨A, G, P, x1, x2, x3, x4, x5, x6, x7⟩ := hdI
      refine ⟨⟨0, 0, P, ?_, ?_, ?_, by omega, by omega, x6, Or.inl ?_⟩, ?_, S4, fun _ => S5, ?_, ⟨0, 0, 0, S8, rfl, S9, rfl, S10, rfl, by omega, by omega, by omega⟩⟩
      · show fd_mDesk_allGlyphs oD = _; rw [hoD]; rfl
      · show fd_mDesk_glyphs oD = _; rw [hoD]; rfl
      · show fd_mDesk_pages oD = _; rw [hoD]; exact x3
      · show fd_mDesk_touched oD = _; rw [hoD]; rfl
      · show fd_Sheet_due oS = nI (dueB oD).toNat
        rw [S6, hoD]; rfl
      · obtain ⟨BL, b1, b2, b3, b4⟩ := hrm
        exact ⟨⟨BL, S7.trans b1, b2, b3, b4⟩, hcm⟩
    · obtain ⟨op, rsl, md, nw, nh, r1, r2, r3, r4, r5, r6, r7, r8, r9, r10, r11, r12, r13, r14, r15, r16, r17⟩ := hRa
      exact ⟨false, 75, 0, 0, 0, rfl, rfl, rfl, rfl, by omega, rfl, rfl, by omega, rfl, rfl, by omega, rfl, rfl, by omega, r15, hd2, fun q => absurd q (by decide)⟩
    · refine ⟨⟨0, 4, 8, rfl, by omega, by omega, by omega, ⟨_, _, _, _, _, _, _, _, _, _, _, rfl⟩, J2 _, fun i hi => absurd hi (by omega), fun p hp => absurd hp (by omega)⟩, fl2, fl3, fl4, fl5, ?_⟩
      show fd_Main_overruns oT = 0
      exact hv1
    · left
      refine ⟨⟨rfl, ?_⟩, ?_, ?_⟩
      · show fd_mDesk_phase oD = _; rw [hoD]; rfl
      · show fd_mDesk_others oD = _; rw [hoD]; rfl
      · show fd_mDesk_stored oD = _; rw [hoD]; rfl
    · exact Int32.le_of_eq rfl
def kCo (s : CS) (u : rs_Main_conclude) : CS := (((u.1, s.g_tape), (u.2.2.2.2.2.2.2.2.2.2.2.2.2.2.2.2.2.2.2.2.2.2.2.2.2.2.1, u.2.2.2.2.2.2.2.2.2.2.2.2.2.2.2.2.2.2.2.2.2.2.2.2.2.2.2.1, u.2.2.2.2.2.2.2.2.2.2.2.2.2.2.2.2.2.2.2.2.2.2.2.2.2.2.2.2.2.2.2.2.2.1), s.2.2.1, s.2.2.2.1, (u.2.2.2.2.2.2.2.2.2.2.2.2.2.2.2.2.2.2.2.2.2.2.2.2.2.2.2.2.1, u.2.2.2.2.2.2.2.2.2.2.2.2.2.2.2.2.2.2.2.2.2.2.2.2.2.2.2.2.2.2.2.1, u.2.2.2.2.2.2.2.2.2.2.2.2.2.2.2.2.2.2.2.2.2.2.2.2.2.2.2.2.2.2.1), (u.2.2.2.2.2.2.2.1, s.g_sheet_marks, s.g_sheet_dots, s.n_sheet_band, u.2.2.2.2.2.2.2.2.2.2.2.2.2.2.2.2.2.2.2.2.2.2.2.2.2.2.2.2.2.1), (u.2.2.2.2.2.2.2.2.1, s.g_page_stack, s.g_page_kept), (u.2.2.2.2.2.2.2.2.2.2.2.2.2.2.2.2.2.2.2.2.2.2.2.2.2.1, u.2.2.2.2.2.2.2.2.2.2.2.2.2.2.2.2.2.2.2.2.2.2.2.2.2.2.2.2.2.2.2.2.1, s.g_shown_table), (u.2.1, u.2.2.2.1, u.2.2.2.2.1, s.g_interpreter_ends, u.2.2.2.2.2.1, u.2.2.2.2.2.2.1, s.g_interpreter_copies, s.g_interpreter_called, s.g_interpreter_acts, s.g_interpreter_actIds, s.g_interpreter_parser_data), (u.2.2.1, u.2.2.2.2.2.2.2.2.2.2.2.2.2.2.2.2.2.2.2.1, u.2.2.2.2.2.2.2.2.2.2.2.2.2.2.2.2.2.2.2.2.1, u.2.2.2.2.2.2.2.2.2.2.2.2.2.2.2.2.2.2.2.2.2.1, u.2.2.2.2.2.2.2.2.2.2.2.2.2.2.2.2.2.2.2.2.2.2.1, u.2.2.2.2.2.2.2.2.2.2.2.2.2.2.2.2.2.2.2.2.2.2.2.1, s.n_macros_collected, s.g_macros_collected, s.g_macros_saidActs, s.g_macros_saidIds), (u.2.2.2.2.2.2.2.2.2.1, u.2.2.2.2.2.2.2.2.2.2.1, u.2.2.2.2.2.2.2.2.2.2.2.1, u.2.2.2.2.2.2.2.2.2.2.2.2.1, u.2.2.2.2.2.2.2.2.2.2.2.2.2.1, u.2.2.2.2.2.2.2.2.2.2.2.2.2.2.1, u.2.2.2.2.2.2.2.2.2.2.2.2.2.2.2.1, u.2.2.2.2.2.2.2.2.2.2.2.2.2.2.2.2.1, u.2.2.2.2.2.2.2.2.2.2.2.2.2.2.2.2.2.1, u.2.2.2.2.2.2.2.2.2.2.2.2.2.2.2.2.2.2.1, s.g_fonts_coming), (u.2.2.2.2.2.2.2.2.2.2.2.2.2.2.2.2.2.2.2.2.2.2.2.2.1, s.g_raster_seed)) : CS)

def mCo (m : RS) (u : rs_Ref_conclude) (q1 q2 : Nat → Int32) : RS := (((u.1, u.2.2.2.2.1, m.g_fresh, u.2.2.2.2.2.1, m.g_tape, m.g_seed, m.g_xWhat, m.g_xId, m.g_toDo, m.g_toDoId, m.g_bytes2, m.g_bytes1), (u.2.2.1, u.2.2.2.2.2.2.2.2.2.2.2.2.2.2.2.2.2.2.2.2.2.2.2.2.2.2.2.2.2.2.2.1, q1, q2), (u.2.2.2.2.2.2.2.2.2.2.2.2.2.2.2.2.2.2.2.2.2.2.2.2.2.2.1, m.n_lines_out, u.2.2.2.2.2.2.2.2.2.2.2.2.2.2.2.2.2.2.2.2.2.2.2.2.2.2.2.2.2.2.1, u.2.2.2.2.2.2.2.2.2.2.2.2.2.2.2.2.2.2.2.2.2.2.2.2.2.2.2.2.1, u.2.2.2.2.2.2.2.2.2.2.2.2.2.2.2.2.2.2.2.2.2.2.2.2.2.2.2.2.2.1, m.g_lines_whiteRests, m.g_lines_blackRests, m.g_lines_whiteBlocks, m.g_lines_blackBlocks, m.g_lines_blocks, m.g_lines_modes, m.g_lines_readAbove, m.g_lines_readLine), (u.2.2.2.2.2.2.2.2.1, m.n_sheet_dots, u.2.2.2.2.2.2.2.2.2.2.2.2.2.2.2.2.2.2.2.2.2.2.2.2.1), (u.2.1, u.2.2.2.2.2.2.2.2.2.1, u.2.2.2.2.2.2.2.2.2.2.1, u.2.2.2.2.2.2.2.2.2.2.2.1, m.g_desk_store, u.2.2.2.2.2.2.2.2.2.2.2.2.2.2.2.2.2.2.2.2.2.2.2.2.2.2.2.1, m.g_desk_other, m.g_desk_glyph, m.g_desk_kept), (u.2.2.2.2.2.2.1, u.2.2.2.2.2.2.2.2.2.2.2.2.1, u.2.2.2.2.2.2.2.2.2.2.2.2.2.1, u.2.2.2.2.2.2.2.2.2.2.2.2.2.2.1, u.2.2.2.2.2.2.2.2.2.2.2.2.2.2.2.1, u.2.2.2.2.2.2.2.2.2.2.2.2.2.2.2.2.1, u.2.2.2.2.2.2.2.2.2.2.2.2.2.2.2.2.2.1, u.2.2.2.2.2.2.2.2.2.2.2.2.2.2.2.2.2.2.1, u.2.2.2.2.2.2.2.2.2.2.2.2.2.2.2.2.2.2.2.1, m.g_shelf_coming, m.g_shelf_bytes, m.g_shelf_left), (u.2.2.2.2.2.2.2.1, u.2.2.2.2.2.2.2.2.2.2.2.2.2.2.2.2.2.2.2.2.1, u.2.2.2.2.2.2.2.2.2.2.2.2.2.2.2.2.2.2.2.2.2.1, u.2.2.2.2.2.2.2.2.2.2.2.2.2.2.2.2.2.2.2.2.2.2.1, u.2.2.2.2.2.2.2.2.2.2.2.2.2.2.2.2.2.2.2.2.2.2.2.1, m.g_macros_buffer), (u.2.2.2.1, u.2.2.2.2.2.2.2.2.2.2.2.2.2.2.2.2.2.2.2.2.2.2.2.2.2.1), m.2.2.2.2.2.2.2.2.1, m.2.2.2.2.2.2.2.2.2) : RS)

/-- what conclude leaves -/
def coO (N d T J : Nat) (s : CS) (m : RS) : Prop := ∃ (u : rs_Main_conclude) (w : rs_Ref_conclude), ex_Main_conclude N s.o_this s.o_interpreter s.o_macros s.o_interpreter_parser s.g_interpreter_at s.g_interpreter_ends s.g_interpreter_actCount s.g_interpreter_actNext s.o_sheet s.o_page s.o_fonts s.g_fonts_ids s.g_fonts_attributes s.g_fonts_permanent s.g_fonts_glyphs s.g_fonts_dots s.g_fonts_wishes s.g_fonts_pins s.g_fonts_chosen s.g_fonts_left s.g_macros_ids s.g_macros_places s.g_macros_lengths s.g_macros_permanent s.g_macros_bytes s.o_raster s.o_file s.o_shown s.g_shown_bytes s.o_coder s.g_sheet_marks s.g_sheet_dots s.n_sheet_band s.g_sheet_band s.g_coder_above s.g_coder_line s.g_file_bytes s.g_file_table = some u ∧ ex_Ref_conclude N m.o_this m.o_desk m.o_job m.o_shown m.g_pages m.g_shownPages m.o_shelf m.o_macros m.o_sheet m.g_desk_state m.g_desk_isKept m.g_desk_steps m.g_shelf_ids m.g_shelf_attributes m.g_shelf_permanent m.g_shelf_glyph m.g_shelf_store 7 m.g_shelf_draft 14 m.g_shelf_wishes 2 m.g_shelf_pins m.g_macros_ids m.g_macros_permanent m.g_macros_lengths m.g_macros_store m.n_sheet_dots m.g_sheet_dots m.g_shown_file m.o_lines m.g_desk_page m.g_lines_whiteRests m.g_lines_blackRests m.g_lines_whiteBlocks m.g_lines_blackBlocks m.g_lines_blocks m.g_lines_modes m.g_lines_line m.g_lines_above m.n_lines_out m.g_lines_out m.g_job_file m.g_job_places m.g_job_lengths = some w ∧ u.2.2.2.2.2.2.2.2.2.2.2.2.2.2.2.2.2.2.2.2.2.2.2.2.2.2.2.2.2.2.2.2.2.2 = w.2.2.2.2.2.2.2.2.2.2.2.2.2.2.2.2.2.2.2.2.2.2.2.2.2.2.2.2.2.2.2.2.2.2 ∧ ∀ q1 q2, jR N d T 0 (kCo s u) (mCo m w q1 q2) ∧ jT 0 (kCo s u) (mCo m w q1 q2) ∧ jZ J (kCo s u) (mCo m w q1 q2) ∧ fd_Ref_thrown w.1 = 0 ∧ fd_Ref_viewPage w.1 = -1 ∧ fd_Ref_comeTo w.1 = fd_Ref_comeTo m.o_this ∧ fd_Main_pictures u.1 = fd_Main_pictures s.o_this

theorem pic_end {N P K S : Nat} {oP : ob_mPictures} (h : flO P K S oP) : ∃ oH, ex_mPictures_end N oP = some (oH, nI P) ∧ fd_mPictures_size oH = nI S ∧ fd_mPictures_made oH = nI P := by
  obtain ⟨th, a1, a2, a3, a4, a5, a6, a7, a8, a9, r, rfl⟩ := h
  exact ⟨fs_mPictures_making (fs_mPictures_thrown (th, nI S, 1, 0, 73, nI P, nI K, a1, a2, a3, a4, a5, a6, a7, a8, a9, r) 0) 0, rfl, rfl, rfl⟩

theorem co_n {N d T J tp : Nat} {s : CS} {m : RS} (hN : 2 ^ 22 < N) (hJ : J < 2 ^ 30) (hB : jB N d T s m) (hTp : jT tp s m) (hZ : jZ J s m) (hk : fd_Main_fault s.o_this = 0 → fd_Sheet_due s.o_sheet = 0) (hm : fd_Ref_fault m.o_this = 0 → ex_mDesk_ejectIfDue N m.o_desk m.g_desk_state m.g_desk_page = some (m.o_desk, m.g_desk_state, m.g_desk_page)) (hff : fd_Main_fault s.o_this = fd_Ref_fault m.o_this) : coO N d T (J + 1) s m := by
  obtain ⟨oS, oP, oF, ic, ac, pc, gg, gdt, wc, pnc, ch, lc, oM, mi, mp, ml, mt, mb, oRa, of, fb, oD, dg, di, ds, oFm, im, am, pm, gm, gs, dr, wm, pnm, oMm, ni, nt, nl, nb, oSm, sdt, oJ, jf, B1, B2, B3, B4, B5, B6, B7, B8, B9⟩ := rs_new (N := N) hN (jN_B hB)
  have hBn := hB
  obtain ⟨_, ⟨k, r, cp, p, hPg⟩, _, _, _, _, _, hFl, _, _⟩ := hBn
  obtain ⟨⟨P, K, S, hfl⟩, _⟩ := hFl
  obtain ⟨oH, H1, H2, H3⟩ := pic_end (N := N) hfl.2.2.2.2.1
  have pd1 := hPg.2.2.2.2.2.2.2.2.1
  have pd2 := hPg.2.2.2.2.2.2.2.2.2
  obtain ⟨j, P0, S0, z1, z2, z3, _⟩ := hZ
  obtain ⟨t1, t2, t3, t4, t5, t6⟩ := hTp
  refine ⟨(fs_Main_overruns (fs_Main_ended (fs_Main_fault (fs_Main_taped s.o_this 0) 0) ((fd_Main_ended s.o_this) + 1)) 0, fs_Interpreter_level s.o_interpreter 0, oM, fs_Parser_mode s.o_interpreter_parser 0, upd s.g_interpreter_at 0 (s.g_interpreter_ends 0), upd s.g_interpreter_actCount 0 0, upd s.g_interpreter_actNext 0 0, oS, oP, oF, ic, ac, pc, gg, gdt, wc, pnc, ch, lc, mi, mp, ml, mt, mb, oRa, of, s.o_file, s.g_file_bytes, s.o_coder, s.g_sheet_band, s.g_coder_above, s.g_coder_line, fb, s.g_file_table, fd_Main_fault s.o_this), (bgO (fs_Ref_viewPage (fs_Ref_jobs (fs_Ref_thrown m.o_this 0) ((fd_Ref_jobs m.o_this) + 1)) (-1)), oD, oJ, oH, m.g_shownPages, m.g_pages, oFm, oMm, oSm, dg, di, ds, im, am, pm, gm, gs, dr, wm, pnm, ni, nt, nl, nb, sdt, m.g_job_file, m.o_lines, m.g_desk_page, m.g_lines_line, m.g_lines_above, m.g_lines_out, jf, m.g_job_places, m.g_job_lengths, fd_Ref_fault m.o_this), ?_, ?_, hff, fun q1 q2 => ⟨B9 _ (fs_Ref_viewPage (fs_Ref_jobs (fs_Ref_thrown m.o_this 0) ((fd_Ref_jobs m.o_this) + 1)) (-1)) oH q1 q2 pd1 rfl rfl pd2, ⟨by omega, ⟨0, rfl⟩, rfl, rfl, t5, t6⟩, ⟨j + 1, P, S, by omega, ?_, ?_, hfl.2.1, hfl.2.2.2.1, ?_, ?_, hfl.2.2.2.2.2.1, hfl.2.2.2.2.2.2.1, fun q => absurd q (by omega), fun _ => ⟨H2, H3⟩, ⟨K, by have := hfl.2.2.1; omega, hfl.2.2.2.2.2.2.2⟩⟩, rfl, rfl, rfl, rfl⟩⟩
  · unfold ex_Main_conclude
    refine (bind_eq (rfl : ex_Interpreter_forget N s.o_interpreter s.o_interpreter_parser s.o_macros s.g_interpreter_at s.g_interpreter_ends s.g_interpreter_actCount s.g_interpreter_actNext = some _)).trans ?_
    by_cases q : fd_Main_fault s.o_this = 0
    · rw [if_pos q, if_pos (hk q)]
      refine (bind_eq B1).trans ((bind_eq B2).trans ((bind_eq B3).trans ((bind_eq B4).trans ((bind_eq B5).trans ((bind_eq B6).trans ?_)))))
      rfl
    · rw [if_neg q]
      refine (bind_eq B1).trans ((bind_eq B2).trans ((bind_eq B3).trans ((bind_eq B4).trans ((bind_eq B5).trans ((bind_eq B6).trans ?_)))))
      rfl
  · unfold ex_Ref_conclude
    by_cases q : fd_Ref_fault m.o_this = 0
    · rw [if_pos q]
      refine (bind_eq (hm q)).trans ?_
      refine (if_pos (Int32.le_of_eq rfl)).trans ?_
      refine (bind_eq H1).trans ((bind_eq (B7 (fs_Ref_viewPage (fs_Ref_jobs (fs_Ref_thrown m.o_this 0) ((fd_Ref_jobs m.o_this) + 1)) (-1)) pd2)).trans ((bind_eq B8).trans ?_))
      rfl
    · rw [if_neg q]
      refine (if_pos (Int32.le_of_eq rfl)).trans ?_
      refine (bind_eq H1).trans ((bind_eq (B7 (fs_Ref_viewPage (fs_Ref_jobs (fs_Ref_thrown m.o_this 0) ((fd_Ref_jobs m.o_this) + 1)) (-1)) pd2)).trans ((bind_eq B8).trans ?_))
      rfl
  · show fd_Main_ended s.o_this + 1 = nI (j + 1)
    rw [z2, nI_1]
  · show fd_Ref_jobs m.o_this + 1 = nI (j + 1)
    rw [z3, nI_1]
  · show fd_OutFile_length s.o_file = nI S
    rw [hfl.1]
  · show fd_OutFile_pages s.o_file = nI P
    rw [hfl.1]


def mEj (m : RS) (g2 gp2 : Nat → Int32) : RS := (((fs_Ref_thrown m.o_this 0, m.g_pages, m.g_fresh, m.g_shownPages, m.g_tape, m.g_seed, m.g_xWhat, m.g_xId, m.g_toDo, m.g_toDoId, m.g_bytes2, m.g_bytes1), m.2.1, m.2.2.1, m.2.2.2.1, (ejO m.o_desk, g2, m.g_desk_isKept, m.g_desk_steps, m.g_desk_store, gp2, m.g_desk_other, m.g_desk_glyph, m.g_desk_kept), m.2.2.2.2.2.1, m.2.2.2.2.2.2.1, m.2.2.2.2.2.2.2.1, m.2.2.2.2.2.2.2.2.1, m.2.2.2.2.2.2.2.2.2) : RS)
theorem kp_raw {N : Nat} {s : CS} {u : rs_Main_printSheet} {c : Int32} (h : kPrint N s = some (kPr s u, c)) : ex_Main_printSheet N s.o_this s.o_sheet s.o_page s.o_coder s.o_file s.g_file_bytes s.g_sheet_marks s.g_sheet_dots s.n_sheet_band s.g_sheet_band s.g_coder_above s.g_coder_line s.g_file_table = some (u.1, u.2.1, u.2.2.1, u.2.2.2.1, u.2.2.2.2.1, u.2.2.2.2.2.1, u.2.2.2.2.2.2.1, u.2.2.2.2.2.2.2.1, u.2.2.2.2.2.2.2.2.1, c) := by
  unfold kPrint at h
  obtain ⟨x, h1, h2⟩ := Option.map_eq_some_iff.mp h
  have e1 := congrArg Prod.fst h2
  have e2 := congrArg Prod.snd h2
  rw [h1]
  refine congrArg some ?_
  exact Prod.ext (congrArg CS.o_this e1) (Prod.ext (congrArg CS.o_sheet e1) (Prod.ext (congrArg CS.o_coder e1) (Prod.ext (congrArg CS.o_file e1) (Prod.ext (congrArg CS.g_file_bytes e1) (Prod.ext (congrArg CS.g_sheet_band e1) (Prod.ext (congrArg CS.g_coder_above e1) (Prod.ext (congrArg CS.g_coder_line e1) (Prod.ext (congrArg CS.g_file_table e1) e2))))))))
theorem mp_raw {N : Nat} {m : RS} {w : rs_Ref_print} (h : mPrint N m = some (mPr m w)) : ex_Ref_print N m.o_this m.o_desk m.g_desk_page m.o_lines m.o_sheet m.g_lines_line m.g_lines_above m.n_sheet_dots m.g_sheet_dots m.g_lines_whiteRests m.g_lines_blackRests m.g_lines_whiteBlocks m.g_lines_blackBlocks m.g_lines_blocks m.g_lines_modes m.n_lines_out m.g_lines_out m.o_job m.g_pages m.g_job_file m.g_job_places m.g_job_lengths = some w := by
  unfold mPrint at h
  obtain ⟨x, h1, e1⟩ := Option.map_eq_some_iff.mp h
  rw [h1]
  refine congrArg some ?_
  exact Prod.ext (congrArg RS.o_this e1) (Prod.ext (congrArg RS.o_lines e1) (Prod.ext (congrArg RS.o_sheet e1) (Prod.ext (congrArg RS.g_lines_line e1) (Prod.ext (congrArg RS.g_lines_above e1) (Prod.ext (congrArg RS.g_sheet_dots e1) (Prod.ext (congrArg RS.g_lines_out e1) (Prod.ext (congrArg RS.o_job e1) (Prod.ext (congrArg RS.g_pages e1) (Prod.ext (congrArg RS.g_job_file e1) (Prod.ext (congrArg RS.g_job_places e1) (congrArg RS.g_job_lengths e1)))))))))))
theorem co_p {N d T J tp h : Nat} {s : CS} {m : RS} (hN : 2 ^ 22 < N) (hT : T ≤ 134000000) (hJ : J < 2 ^ 30) (hR : jR N d T h s m) (hTp : jT tp s m) (hZ : jZ J s m) (hdu : dueB m.o_desk = true) : coO N d (T + 4) (J + 1) s m := by
  obtain ⟨⟨⟨k, r, cp, p, hPg, hSh, hFo, hKn, hRa, hMa, hFl, hFa, hIt⟩, hPs, hSd⟩, _⟩ := hR
  have hPg0 := hPg
  obtain ⟨pd, pk, pr, pcp, pp, pok, pst, pdk, pd1, pd2⟩ := hPg0
  obtain ⟨⟨A, G, P1, x1, x2, x3, x4, x5, x6, x7⟩, sdue, ssh, _, srm, sru⟩ := hSh
  obtain ⟨g2, gp2, E1, E2, _⟩ := md_ejd (N := N) (gp := m.g_desk_page) pk pok.2.2.2.2.1 pok.2.2.2.2.2.2.2.1 (P := P1) (by omega) x3 pdk
  rw [hdu, if_pos rfl] at E1
  obtain ⟨E3, E4⟩ := E2 hdu
  have hpg2 : fd_mDesk_pages (ejO m.o_desk) = nI (P1 + 1) := by
    show fd_mDesk_pages m.o_desk + 1 = _
    rw [x3, nI_1]
  obtain ⟨ok, u, w, y1, y2, y3, y4, y5, y6⟩ := pr_both (N := N) (d := d) (k := k) (r := r) (cp := cp) (T := T + 4) (P := P1) (p := p) (s := s) (m := mEj m g2 gp2) hN pd pk pr pcp pp pd1 pd2 ssh srm sru hFl hFa (by omega) hpg2 E4
  have raw1 := kp_raw y1
  have raw2 := mp_raw y2
  have hNN : jN N d (T + 4) (kPr s u) (mPr (mEj m g2 gp2) w) := by
    refine ⟨⟨pd, ⟨k, r, cp, p, pp⟩, ?_, ?_⟩, ⟨k, r, y3.1, y3.2.2.2.1, y3.2.2.2.2⟩, hFo, ?_, ?_, y4, hIt, ⟨0, 0, P1 + 1, rfl, rfl, hpg2, by omega, by omega, by omega, Or.inl rfl⟩⟩
    · show fd_Main_dpi u.1 = nI d
      rw [y5]; exact pd1
    · show fd_Ref_dpi w.1 = nI d
      rw [y6]; cases ok <;> exact pd2
    · have hRm := rsR_mono (T' := T + 4) (by omega) hRa
      show rsR d (T + 4) s.o_raster w.1 s.g_raster_seed m.g_seed
      rw [y6]; cases ok <;> exact hRm
    · obtain ⟨b1, b2, b3, b4⟩ := hMa
      have b1' := mcS_mono (T' := T + 4) (by omega) b1
      refine ⟨b1', b2, ?_, ?_⟩
      · obtain ⟨i, i1, i2, i3⟩ := b3
        refine ⟨i, i1, i2, ?_⟩
        show fd_Ref_macroId w.1 = nI i
        rw [y6]; cases ok <;> exact i3
      · obtain ⟨i, i1, i2, i3⟩ := b4
        refine ⟨i, i1, i2, ?_⟩
        show fd_Ref_had w.1 = nI i
        rw [y6]; cases ok <;> exact i3
  obtain ⟨oS, oP, oF, ic, ac, pc, gg, gdt, wc, pnc, ch, lc, oM, mi, mp, ml, mt, mb, oRa, of, fb, oD, dg, di, ds, oFm, im, am, pm, gm, gs, dr, wm, pnm, oMm, ni, nt, nl, nb, oSm, sdt, oJ, jf, B1, B2, B3, B4, B5, B6, B7, B8, B9⟩ := rs_new (N := N) hN hNN
  obtain ⟨⟨P, K, S, hfl⟩, _⟩ := y4
  obtain ⟨oH, H1, H2, H3⟩ := pic_end (N := N) hfl.2.2.2.2.1
  obtain ⟨j, P0, S0, z1, z2, z3, _⟩ := hZ
  obtain ⟨t1, t2, t3, t4, t5, t6⟩ := hTp
  have hdp1 : fd_Main_dpi u.1 = nI d := by rw [y5]; exact pd1
  have hdp2 : fd_Ref_dpi w.1 = nI d := by rw [y6]; cases ok <;> exact pd2
  refine ⟨(fs_Main_overruns (fs_Main_ended (fs_Main_fault (fs_Main_taped u.1 0) 0) ((fd_Main_ended u.1) + 1)) 0, fs_Interpreter_level s.o_interpreter 0, oM, fs_Parser_mode s.o_interpreter_parser 0, upd s.g_interpreter_at 0 (s.g_interpreter_ends 0), upd s.g_interpreter_actCount 0 0, upd s.g_interpreter_actNext 0 0, oS, oP, oF, ic, ac, pc, gg, gdt, wc, pnc, ch, lc, mi, mp, ml, mt, mb, oRa, of, u.2.2.2.1, u.2.2.2.2.1, u.2.2.1, u.2.2.2.2.2.1, u.2.2.2.2.2.2.1, u.2.2.2.2.2.2.2.1, fb, u.2.2.2.2.2.2.2.2.1, (if ok then 0 else 20)), (bgO (fs_Ref_viewPage (fs_Ref_jobs w.1 ((fd_Ref_jobs w.1) + 1)) (-1)), oD, oJ, oH, m.g_shownPages, w.2.2.2.2.2.2.2.2.1, oFm, oMm, oSm, dg, di, ds, im, am, pm, gm, gs, dr, wm, pnm, ni, nt, nl, nb, sdt, w.2.2.2.2.2.2.2.2.2.1, w.2.1, gp2, w.2.2.2.1, w.2.2.2.2.1, w.2.2.2.2.2.2.1, jf, w.2.2.2.2.2.2.2.2.2.2.1, w.2.2.2.2.2.2.2.2.2.2.2, fd_Ref_fault w.1), ?_, ?_, ?_, fun q1 q2 => ⟨B9 _ (fs_Ref_viewPage (fs_Ref_jobs w.1 ((fd_Ref_jobs w.1) + 1)) (-1)) oH q1 q2 hdp1 rfl rfl hdp2, ⟨by omega, ⟨0, rfl⟩, rfl, rfl, t5, t6⟩, ⟨j + 1, P, S, by omega, ?_, ?_, hfl.2.1, hfl.2.2.2.1, ?_, ?_, hfl.2.2.2.2.2.1, hfl.2.2.2.2.2.2.1, fun q => absurd q (by omega), fun _ => ⟨H2, H3⟩, ⟨K, by have := hfl.2.2.1; omega, hfl.2.2.2.2.2.2.2⟩⟩, ?_, rfl, ?_, ?_⟩⟩
  · unfold ex_Main_conclude
    refine (bind_eq (rfl : ex_Interpreter_forget N s.o_interpreter s.o_interpreter_parser s.o_macros s.g_interpreter_at s.g_interpreter_ends s.g_interpreter_actCount s.g_interpreter_actNext = some _)).trans ?_
    rw [if_pos hFa.1, if_neg (show ¬ fd_Sheet_due s.o_sheet = 0 by rw [sdue, hdu]; decide)]
    refine (bind_eq raw1).trans ?_
    refine (bind_eq B1).trans ((bind_eq B2).trans ((bind_eq B3).trans ((bind_eq B4).trans ((bind_eq B5).trans ((bind_eq B6).trans ?_)))))
    rfl
  · unfold ex_Ref_conclude
    rw [if_pos hFa.2]
    refine (bind_eq E1).trans ?_
    refine (if_neg (show ¬ fd_mDesk_pages (ejO m.o_desk) ≤ fd_mDesk_pages m.o_desk by rw [hpg2, x3]; exact nI_ge (by omega) (by omega))).trans ?_
    refine (bind_eq raw2).trans ?_
    refine (bind_eq H1).trans ((bind_eq (B7 (fs_Ref_viewPage (fs_Ref_jobs w.1 ((fd_Ref_jobs w.1) + 1)) (-1)) hdp2)).trans ((bind_eq B8).trans ?_))
    rfl
  · show (if ok then (0 : Int32) else 20) = fd_Ref_fault w.1
    rw [y6]; cases ok
    · rfl
    · exact hFa.2.symm
  · show fd_Main_ended u.1 + 1 = nI (j + 1)
    rw [y5]
    show fd_Main_ended s.o_this + 1 = nI (j + 1)
    rw [z2, nI_1]
  · show fd_Ref_jobs w.1 + 1 = nI (j + 1)
    have : fd_Ref_jobs w.1 = fd_Ref_jobs m.o_this := by rw [y6]; cases ok <;> rfl
    rw [this, z3, nI_1]
  · show fd_OutFile_length u.2.2.2.1 = nI S
    rw [show u.2.2.2.1 = (nI S, nI P, nI K) from hfl.1]
  · show fd_OutFile_pages u.2.2.2.1 = nI P
    rw [show u.2.2.2.1 = (nI S, nI P, nI K) from hfl.1]
  · show fd_Ref_thrown w.1 = 0
    rw [y6]; cases ok <;> rfl
  · show fd_Ref_comeTo w.1 = _
    rw [y6]; cases ok <;> rfl
  · show fd_Main_pictures u.1 = _
    rw [y5]
/-- **conclude, on both sides** -/
theorem ca_conclude {N d T J tp : Nat} {s : CS} {m : RS} (hN : 2 ^ 22 < N) (hT : T ≤ 134000000) (hJ : J < 2 ^ 30) (hV : (∃ h, jR N d T h s m) ∨ jX N d T s m) (hTp : jT tp s m) (hZ : jZ J s m) : ∃ T', T' ≤ T + 4 ∧ coO N d T' (J + 1) s m := by
  rcases hV with ⟨h, hR⟩ | hX
  · have hR0 := hR
    obtain ⟨⟨⟨k, r, cp, p, hPg, hSh, hFo, hKn, hRa, hMa, hFl, hFa, hIt⟩, hPs, hSd⟩, _⟩ := hR0
    cases hdu : dueB m.o_desk with
    | true => exact ⟨T + 4, Nat.le_refl _, co_p hN hT hJ hR hTp hZ hdu⟩
    | false =>
      refine ⟨T, by omega, co_n hN hJ (jB_R hR) hTp hZ (fun _ => by rw [hSh.2.1, hdu]; rfl) (fun _ => ?_) (hFa.1.trans hFa.2.symm)⟩
      obtain ⟨pd, pk, pr, pcp, pp, pok, pst, pdk, pd1, pd2⟩ := hPg
      obtain ⟨A, G, P1, x1, x2, x3, x4, x5, x6, x7⟩ := hSh.1
      obtain ⟨g2, gp2, E1, _, E2⟩ := md_ejd (N := N) (gp := m.g_desk_page) pk pok.2.2.2.2.1 pok.2.2.2.2.2.2.2.1 (P := P1) (by omega) x3 pdk
      rw [hdu] at E1
      obtain ⟨e1, e2⟩ := E2 hdu
      rw [E1, e1, e2]; rfl
  · have hX0 := hX
    obtain ⟨⟨f, f1, f2, f3, f4⟩, _⟩ := hX0
    have nf : ¬ nI f = 0 := mt (nI_eq (b := 0) (by omega) (by omega)).mp (by omega)
    exact ⟨T, by omega, co_n hN hJ (jB_X hX) hTp hZ (fun q => absurd (f3.symm.trans q) nf) (fun q => absurd (f4.symm.trans q) nf) (f3.trans f4.symm)⟩
/-- a bit of a strip -/
def sbit (t : Bool) (g : Nat → Int32) (pl i : Nat) : Bool := (u8 (g (pl + i / 8))).testBit (if t then i % 8 else 7 - i % 8)
/-- the reference's reader -/
def rL (w : Nat) (b : Int64) (pl nb : Nat) (t : Bool) (i f : Nat) (en tu : Int32) : ob_mLines := (nI w, b, nI pl, nI nb, nI t.toNat, nI i, nI f, en, tu)
theorem ml_next {N w pl nb i f : Nat} {b : Int64} {t : Bool} {en tu : Int32} {g : Nat → Int32} (h : pl + i / 8 < 65536) (hi : i < 2 ^ 20) : ex_mLines_next N (rL w b pl nb t i f en tu) 65536 g = some (rL w b pl nb t (i + 1) f en tu, nI (sbit t g pl i).toNat) := by
  unfold ex_mLines_next
  have e1 : nI pl + nI i / 8 = nI (pl + i / 8) := by rw [show nI i / 8 = nI (i / 8) from nI_div (b := 8) (by omega) (by omega), nI_add]
  have e2 : nI i - nI i / 8 * 8 = nI (i % 8) := nI_mod (b := 8) (by omega) (by omega)
  have e3 : (7 : Int32) - nI (i % 8) = nI (7 - i % 8) := nI_sub (a := 7) (by omega)
  show (if dk_in (nI pl + nI i / 8) 65536 then _ else _) = _
  rw [e1, if_pos (dk_in_nI h (by omega))]
  unfold dk_let
  show (if nI t.toNat = 0 then some (fs_mLines_at (rL w b pl nb t i f en tu) (nI i + 1), ((g (nI pl + nI i / 8).toNatClampNeg &&& 255) >>> ((7 - (nI i - nI i / 8 * 8)) &&& 31)) &&& 1) else some (fs_mLines_at (rL w b pl nb t i f en tu) (nI i + 1), ((g (nI pl + nI i / 8).toNatClampNeg &&& 255) >>> ((nI i - nI i / 8 * 8) &&& 31)) &&& 1)) = _
  rw [e1, e2, e3, nI_clamp (by omega), u8_and, nI_1]
  have hu := u8_lt (g (pl + i / 8))
  cases t with
  | false =>
    rw [if_pos (show nI false.toNat = 0 from rfl), nI_tbit (by omega) (by omega)]; rfl
  | true =>
    rw [if_neg (show ¬ nI true.toNat = 0 by decide), nI_tbit (by omega) (by omega)]; rfl
/-- the last place of v among the first m words -/
def plc (l : Nat → Nat) (v : Nat) : Nat → Int
  | 0 => -1
  | m + 1 => if l m = v then (m : Int) else plc l v m
theorem plc_b (l : Nat → Nat) (v : Nat) : ∀ m, -1 ≤ plc l v m ∧ plc l v m < m := by
  intro m
  induction m with
  | zero => exact ⟨by unfold plc; omega, by unfold plc; omega⟩
  | succ m ih => unfold plc; split <;> omega
/-- words as an array holds them -/
def wdA (n : Nat) (g : Nat → Int32) (l : Nat → Nat) : Prop := ∀ i, i < n → g i = nI (l i) ∧ l i < 16384
theorem ml_place {N n m v : Nat} {o : ob_mLines} {g : Nat → Int32} {l : Nat → Nat} (hN : n < N) (hn : n < 2 ^ 20) (hm : m ≤ n) (hv : v < 2 ^ 20) (hg : wdA n g l) : ex_mLines_placeOf N o n g (nI m) (nI v) = some (iI (plc l v m)) := by
  have h : ∀ (r k f : Nat), k + r = m → r < f → lp_mLines_placeOf_6 n g (nI m) (nI v) f (nI k) (iI (plc l v k)) = some (iI (plc l v m)) := by
    intro r
    induction r with
    | zero =>
      intro k f hk hf
      obtain ⟨f, rfl⟩ : ∃ z, f = z + 1 := ⟨f - 1, by omega⟩
      rw [lp_mLines_placeOf_6, if_pos (nI_le (by omega) (by omega)), show k = m by omega]
    | succ r ih =>
      intro k f hk hf
      obtain ⟨f, rfl⟩ : ∃ z, f = z + 1 := ⟨f - 1, by omega⟩
      rw [lp_mLines_placeOf_6, if_neg (nI_ge (by omega) (by omega)), if_pos (dk_in_nI (by omega) (by omega)), nI_clamp (by omega), (hg k (by omega)).1, nI_1]
      have hl := (hg k (by omega)).2
      by_cases q : l k = v
      · rw [if_pos (by rw [q])]
        have : iI (plc l v (k + 1)) = nI k := by unfold plc; rw [if_pos q]; rfl
        rw [← this]
        exact ih (k + 1) f (by omega) (by omega)
      · rw [if_neg (mt (nI_eq (by omega) (by omega)).mp q)]
        have : plc l v (k + 1) = plc l v k := by rw [plc, if_neg q]
        rw [← this]
        exact ih (k + 1) f (by omega) (by omega)
  unfold ex_mLines_placeOf
  have := h m 0 N (by omega) (by omega)
  rw [show lp_mLines_placeOf_6 n g (nI m) (nI v) N 0 (-1) = some (iI (plc l v m)) from this]; rfl
/-- a word, cut to what begins it -/
def shw (v : Nat) : Nat → Nat → Nat
  | 0, w => w
  | f + 1, w => if w ≤ v then w else shw v f (w / 2)
theorem shw_le (v : Nat) : ∀ f w, shw v f w ≤ w := by
  intro f
  induction f with
  | zero => intro w; exact Nat.le_refl _
  | succ f ih => intro w; unfold shw; split; omega; have := ih (w / 2); omega
theorem ml_cut {v : Nat} (hv : v < 2 ^ 20) (h1 : 1 ≤ v) : ∀ (f n w : Nat), w < 2 ^ f → f < n → f ≤ 20 → lp_mLines_begins_18e4 (nI v) n (nI w) = some (nI (shw v f w)) := by
  intro f
  induction f with
  | zero =>
    intro n w hw hn hf
    obtain ⟨n, rfl⟩ : ∃ z, n = z + 1 := ⟨n - 1, by omega⟩
    rw [lp_mLines_begins_18e4, if_pos (nI_le (by omega) (by omega))]; rfl
  | succ f ih =>
    intro n w hw hn hf
    obtain ⟨n, rfl⟩ : ∃ z, n = z + 1 := ⟨n - 1, by omega⟩
    have hp : 2 ^ (f + 1) ≤ 2 ^ 20 := Nat.pow_le_pow_right (by omega) hf
    rw [lp_mLines_begins_18e4, shw]
    by_cases q : w ≤ v
    · rw [if_pos (nI_le q (by omega)), if_pos q]
    · rw [if_neg (nI_ge (by omega) (by omega)), if_neg q, nI_half (by omega)]
      exact ih n (w / 2) (by rw [Nat.pow_succ] at hw; omega) (by omega) (by omega)
def bgn (l : Nat → Nat) (v : Nat) : Nat → Bool
  | 0 => false
  | m + 1 => bgn l v m || decide (shw v 14 (l m) = v)
theorem ml_begins {N n m v : Nat} {o : ob_mLines} {g : Nat → Int32} {l : Nat → Nat} (hN : n + 20 < N) (hn : n < 2 ^ 20) (hm : m ≤ n) (hv : v < 2 ^ 20) (h1 : 1 ≤ v) (hg : wdA n g l) : ex_mLines_begins N o n g (nI m) (nI v) = some (nI (bgn l v m).toNat) := by
  have h : ∀ (r k f : Nat), k + r = m → r < f → lp_mLines_begins_6d3 N n g (nI m) (nI v) f (nI k) (nI (bgn l v k).toNat) = some (nI (bgn l v m).toNat) := by
    intro r
    induction r with
    | zero =>
      intro k f hk hf
      obtain ⟨f, rfl⟩ : ∃ z, f = z + 1 := ⟨f - 1, by omega⟩
      rw [lp_mLines_begins_6d3, if_pos (nI_le (by omega) (by omega)), show k = m by omega]
    | succ r ih =>
      intro k f hk hf
      obtain ⟨f, rfl⟩ : ∃ z, f = z + 1 := ⟨f - 1, by omega⟩
      have hl := (hg k (by omega)).2
      have hs := shw_le v 14 (l k)
      rw [lp_mLines_begins_6d3, if_neg (nI_ge (by omega) (by omega)), if_pos (dk_in_nI (by omega) (by omega)), nI_clamp (by omega), (hg k (by omega)).1, nI_1, ml_cut hv h1 14 N (l k) (by omega) (by omega) (by omega), Option.bind_some]
      have ht := ih (k + 1) f (by omega) (by omega)
      have hb : bgn l v (k + 1) = (bgn l v k || decide (shw v 14 (l k) = v)) := rfl
      cases hq : bgn l v k with
      | true =>
        rw [hq] at hb
        rw [if_neg (show ¬ nI true.toNat = 0 by decide)]
        rw [hb] at ht; exact ht
      | false =>
        rw [hq, Bool.false_or] at hb
        rw [if_pos (show nI false.toNat = 0 from rfl)]
        by_cases q : shw v 14 (l k) = v
        · rw [if_pos (by rw [q])]
          rw [hb, decide_eq_true q] at ht; exact ht
        · rw [if_neg (mt (nI_eq (by omega) (by omega)).mp q)]
          rw [hb, decide_eq_false q] at ht; exact ht
  unfold ex_mLines_begins
  have := h m 0 N (by omega) (by omega)
  rw [show lp_mLines_begins_6d3 N n g (nI m) (nI v) N 0 0 = some (nI (bgn l v m).toNat) from this, Option.bind_some]
  cases bgn l v m <;> rfl
/-- a word is read: where it ends, and which it was (-1: no more bits, -2: none) -/
def mdA (bit : Nat → Bool) (nb : Nat) (l : Nat → Nat) (m : Nat) : Nat → Nat → Nat → Nat × Int
  | 0, _, i => (i, -2)
  | f + 1, v, i => if i = nb then (i, -1) else if 0 ≤ plc l (2 * v + (bit i).toNat) m then (i + 1, plc l (2 * v + (bit i).toNat) m) else if bgn l (2 * v + (bit i).toNat) m then mdA bit nb l m f (2 * v + (bit i).toNat) (i + 1) else (i + 1, -2)
theorem mdA_b (bit : Nat → Bool) (nb : Nat) (l : Nat → Nat) (m : Nat) : ∀ f v i, i ≤ nb → i ≤ (mdA bit nb l m f v i).1 ∧ (mdA bit nb l m f v i).1 ≤ nb ∧ -2 ≤ (mdA bit nb l m f v i).2 ∧ (mdA bit nb l m f v i).2 < m := by
  intro f
  induction f with
  | zero => intro v i hi; unfold mdA; exact ⟨Nat.le_refl _, hi, by omega, by omega⟩
  | succ f ih =>
    intro v i hi
    unfold mdA
    have hp := plc_b l (2 * v + (bit i).toNat) m
    split
    · exact ⟨Nat.le_refl _, hi, by omega, by omega⟩
    · split
      · exact ⟨by omega, by omega, by omega, by omega⟩
      · split
        · have := ih (2 * v + (bit i).toNat) (i + 1) (by omega)
          exact ⟨by omega, this.2.1, this.2.2⟩
        · exact ⟨by omega, by omega, by omega, by omega⟩
def fC (r : Int) : Nat := if r = -1 then 1 else if r = -2 then 2 else 0
theorem bgn_lt {l : Nat → Nat} {n v : Nat} (hl : ∀ i, i < n → l i < 16384) : ∀ m, m ≤ n → bgn l v m = true → v < 16384 := by
  intro m
  induction m with
  | zero => intro _ h; exact absurd h (by unfold bgn; decide)
  | succ m ih =>
    intro hm h
    rw [bgn, Bool.or_eq_true] at h
    rcases h with h | h
    · exact ih (by omega) h
    · have := of_decide_eq_true h
      have h2 := shw_le v 14 (l m)
      have := hl m (by omega)
      omega
theorem ml_cut2 {v x : Nat} {w3 : Int32} {u : rs_mLines_next} (he : (2 * w3) + u.2 = nI v) (hv : v < 2 ^ 20) (h1 : 1 ≤ v) : ∀ (f n w : Nat), w < 2 ^ f → f < n → f ≤ 20 → lp_mLines_mode_85g6 w3 u n (nI w) = some (nI (shw v f w)) := by
  intro f
  induction f with
  | zero =>
    intro n w hw hn hf
    obtain ⟨n, rfl⟩ : ∃ z, n = z + 1 := ⟨n - 1, by omega⟩
    rw [lp_mLines_mode_85g6, he, if_pos (nI_le (by omega) (by omega))]; rfl
  | succ f ih =>
    intro n w hw hn hf
    obtain ⟨n, rfl⟩ : ∃ z, n = z + 1 := ⟨n - 1, by omega⟩
    have hp : 2 ^ (f + 1) ≤ 2 ^ 20 := Nat.pow_le_pow_right (by omega) hf
    rw [lp_mLines_mode_85g6, he, shw]
    by_cases q : w ≤ v
    · rw [if_pos (nI_le q (by omega)), if_pos q]
    · rw [if_neg (nI_ge (by omega) (by omega)), if_neg q, nI_half (by omega)]
      exact ih n (w / 2) (by rw [Nat.pow_succ] at hw; omega) (by omega) (by omega)
theorem mode_f {N n w pl nb : Nat} {b : Int64} {t : Bool} {i f : Nat} {en tu v0 v1 v : Int32} {g gm : Nat → Int32} (hf : ¬ nI f = 0) : lp_mLines_mode_2f5 N 65536 g gm v0 v1 (n + 1) v (rL w b pl nb t i f en tu) = some (Sum.inl (rL w b pl nb t i f en tu)) := by
  rw [lp_mLines_mode_2f5]
  exact if_neg hf
theorem ml_mode0 {N w pl nB m : Nat} {b : Int64} {t : Bool} {en tu : Int32} {g gm : Nat → Int32} {l : Nat → Nat} (hN : 100 < N) (hm : m ≤ 10) (hpl : pl + nB ≤ 65536) (hg : wdA 10 gm l) : ∀ (f v i n : Nat), 1 ≤ v → v < 16384 → 16384 ≤ v * 2 ^ f → f + 2 < n → i ≤ 8 * nB → lp_mLines_mode_2f5 N 65536 g gm (nI m) 0 n (nI v) (rL w b pl nB t i 0 en tu) = some (if 0 ≤ (mdA (sbit t g pl) (8 * nB) l m f v i).2 then Sum.inr (rL w b pl nB t (mdA (sbit t g pl) (8 * nB) l m f v i).1 0 en tu, iI (mdA (sbit t g pl) (8 * nB) l m f v i).2) else Sum.inl (rL w b pl nB t (mdA (sbit t g pl) (8 * nB) l m f v i).1 (fC (mdA (sbit t g pl) (8 * nB) l m f v i).2) en tu)) := by
  intro f
  induction f with
  | zero => intro v i n h1 h2 h3; exact absurd h3 (by omega)
  | succ f ih =>
    intro v i n h1 h2 h3 hn hi
    obtain ⟨n, rfl⟩ : ∃ z, n = z + 2 := ⟨n - 2, by omega⟩
    rw [lp_mLines_mode_2f5, mdA]
    refine (if_pos (show nI 0 = 0 from rfl)).trans ?_
    have hat : (fd_mLines_at (rL w b pl nB t i 0 en tu) = 8 * fd_mLines_bytes (rL w b pl nB t i 0 en tu)) ↔ i = 8 * nB := by
      show nI i = 8 * nI nB ↔ _
      rw [show (8 : Int32) * nI nB = nI (8 * nB) from nI_mul 8 nB]
      exact nI_eq (by omega) (by omega)
    by_cases q1 : i = 8 * nB
    · rw [if_pos (hat.mpr q1), if_pos q1]
      exact (mode_f (f := 1) (by decide)).trans (by rfl)
    · rw [if_neg (mt hat.mp q1), if_neg q1, ml_next (by omega) (by omega), Option.bind_some]
      obtain ⟨v', hv'⟩ : ∃ v', v' = 2 * v + (sbit t g pl i).toNat := ⟨_, rfl⟩
      have hb1 : (sbit t g pl i).toNat ≤ 1 := by cases sbit t g pl i <;> decide
      have e : (2 * nI v) + nI (sbit t g pl i).toNat = nI v' := by
        rw [show (2 : Int32) * nI v = nI (2 * v) from nI_mul 2 v, nI_add, hv']
      rw [← hv']
      refine (if_pos rfl).trans ?_
      show (ex_mLines_placeOf N _ 10 gm (nI m) ((2 * nI v) + nI (sbit t g pl i).toNat)).bind _ = _
      rw [e, ml_place (by omega) (by omega) hm (by omega) hg, Option.bind_some]
      have hp := plc_b l v' m
      have hneg : iI (plc l v' m) < 0 ↔ plc l v' m < 0 := iI_lt (b := 0) (by omega) (by omega)
      by_cases q2 : 0 ≤ plc l v' m
      · rw [if_neg (mt hneg.mp (by omega)), if_pos q2, if_pos q2]
      · rw [if_pos (hneg.mpr (by omega)), if_neg q2]
        refine (bind_eq (ml_cut2 (v := v') (x := 0) e (by omega) (by omega) 14 N 4097 (by omega) (by omega) (by omega))).trans ?_
        refine (if_pos rfl).trans ?_
        rw [ml_begins (by omega) (by omega) hm (by omega) (by omega) hg, Option.bind_some]
        cases hq : bgn l v' m with
        | true =>
          have hlt := bgn_lt (fun i hi => (hg i hi).2) m hm hq
          rw [if_pos rfl]
          refine (if_neg (show ¬ nI true.toNat = 0 by decide)).trans ?_
          exact ih v' (i + 1) (n + 1) (by omega) hlt (by rw [Nat.pow_succ, ← Nat.mul_assoc, Nat.mul_right_comm] at h3; exact Nat.le_trans h3 (Nat.mul_le_mul_right _ (by omega))) (by omega) (by omega)
        | false =>
          rw [if_neg (show ¬ (false = true) by decide)]
          refine (if_pos (show nI false.toNat = 0 from rfl)).trans ?_
          exact (mode_f (f := 2) (by decide)).trans (by rfl)
def l1N : Nat → Nat := fun _ => 4097
theorem ml_mode1 {N w pl nB : Nat} {b : Int64} {t : Bool} {en tu v0 : Int32} {g gm : Nat → Int32} (hN : 100 < N) (hpl : pl + nB ≤ 65536) : ∀ (f v i n : Nat), 1 ≤ v → v < 16384 → 16384 ≤ v * 2 ^ f → f + 2 < n → i ≤ 8 * nB → lp_mLines_mode_2f5 N 65536 g gm v0 1 n (nI v) (rL w b pl nB t i 0 en tu) = some (if 0 ≤ (mdA (sbit t g pl) (8 * nB) l1N 1 f v i).2 then Sum.inr (rL w b pl nB t (mdA (sbit t g pl) (8 * nB) l1N 1 f v i).1 0 en tu, 9) else Sum.inl (rL w b pl nB t (mdA (sbit t g pl) (8 * nB) l1N 1 f v i).1 (fC (mdA (sbit t g pl) (8 * nB) l1N 1 f v i).2) en tu)) := by
  intro f
  induction f with
  | zero => intro v i n h1 h2 h3; exact absurd h3 (by omega)
  | succ f ih =>
    intro v i n h1 h2 h3 hn hi
    obtain ⟨n, rfl⟩ : ∃ z, n = z + 2 := ⟨n - 2, by omega⟩
    rw [lp_mLines_mode_2f5, mdA]
    refine (if_pos (show nI 0 = 0 from rfl)).trans ?_
    have hat : (fd_mLines_at (rL w b pl nB t i 0 en tu) = 8 * fd_mLines_bytes (rL w b pl nB t i 0 en tu)) ↔ i = 8 * nB := by
      show nI i = 8 * nI nB ↔ _
      rw [show (8 : Int32) * nI nB = nI (8 * nB) from nI_mul 8 nB]
      exact nI_eq (by omega) (by omega)
    by_cases q1 : i = 8 * nB
    · rw [if_pos (hat.mpr q1), if_pos q1]
      exact (mode_f (f := 1) (by decide)).trans (by rfl)
    · rw [if_neg (mt hat.mp q1), if_neg q1, ml_next (by omega) (by omega), Option.bind_some]
      obtain ⟨v', hv'⟩ : ∃ v', v' = 2 * v + (sbit t g pl i).toNat := ⟨_, rfl⟩
      have hb1 : (sbit t g pl i).toNat ≤ 1 := by cases sbit t g pl i <;> decide
      have e : (2 * nI v) + nI (sbit t g pl i).toNat = nI v' := by
        rw [show (2 : Int32) * nI v = nI (2 * v) from nI_mul 2 v, nI_add, hv']
      rw [← hv']
      refine (if_neg (show ¬ (1 : Int32) = 0 by decide)).trans ?_
      have hp : plc l1N v' 1 = if 4097 = v' then 0 else -1 := rfl
      have hbg : bgn l1N v' 1 = decide (shw v' 14 4097 = v') := rfl
      have hs := shw_le v' 14 4097
      show (if (2 * nI v) + nI (sbit t g pl i).toNat = 4097 then _ else _) = _
      rw [e]
      by_cases q2 : v' = 4097
      · rw [if_pos (show nI v' = 4097 by rw [q2]; rfl), hp, if_pos q2.symm]
        rfl
      · rw [if_neg (show ¬ nI v' = 4097 from mt (nI_eq (b := 4097) (by omega) (by omega)).mp q2), show plc l1N v' 1 = -1 from by rw [hp]; exact if_neg (fun h => q2 h.symm), if_neg (show ¬ (0 : Int) ≤ -1 by decide), hbg]
        refine (bind_eq (ml_cut2 (v := v') (x := 0) e (by omega) (by omega) 14 N 4097 (by omega) (by omega) (by omega))).trans ?_
        refine (if_neg (show ¬ (1 : Int32) = 0 by decide)).trans ?_
        by_cases q3 : shw v' 14 4097 = v'
        · rw [decide_eq_true q3, if_pos rfl]
          refine (if_pos (show nI (shw v' 14 4097) = nI v' by rw [q3])).trans ?_
          exact ih v' (i + 1) (n + 1) (by omega) (by omega) (by rw [Nat.pow_succ, ← Nat.mul_assoc, Nat.mul_right_comm] at h3; exact Nat.le_trans h3 (Nat.mul_le_mul_right _ (by omega))) (by omega) (by omega)
        · rw [decide_eq_false q3, if_neg (show ¬ (false = true) by decide)]
          refine (if_neg (show ¬ nI (shw v' 14 4097) = nI v' from mt (nI_eq (by omega) (by omega)).mp q3)).trans ?_
          exact (mode_f (f := 2) (by decide)).trans (by rfl)
/-- a mode is read by the reference -/
theorem ml_mode {N w pl nB m i : Nat} {b : Int64} {t : Bool} {en tu : Int32} {g gm : Nat → Int32} {l : Nat → Nat} (hN : 100 < N) (hm : m ≤ 10) (hpl : pl + nB ≤ 65536) (hg : wdA 10 gm l) (hi : i ≤ 8 * nB) : ex_mLines_mode N (rL w b pl nB t i 0 en tu) 65536 g gm (nI m) 0 = some (rL w b pl nB t (mdA (sbit t g pl) (8 * nB) l m 14 1 i).1 (fC (mdA (sbit t g pl) (8 * nB) l m 14 1 i).2) en tu, if 0 ≤ (mdA (sbit t g pl) (8 * nB) l m 14 1 i).2 then iI (mdA (sbit t g pl) (8 * nB) l m 14 1 i).2 else -1) := by
  have h := ml_mode0 (w := w) (b := b) (t := t) (en := en) (tu := tu) (g := g) (m := m) hN hm hpl hg 14 1 i N (by omega) (by omega) (by omega) (by omega) hi
  unfold ex_mLines_mode dk_elim
  rw [show lp_mLines_mode_2f5 N 65536 g gm (nI m) 0 N 1 (rL w b pl nB t i 0 en tu) = _ from h]
  by_cases q : 0 ≤ (mdA (sbit t g pl) (8 * nB) l m 14 1 i).2
  · rw [if_pos q, if_pos q]
    have : fC (mdA (sbit t g pl) (8 * nB) l m 14 1 i).2 = 0 := by unfold fC; rw [if_neg (by omega), if_neg (by omega)]
    rw [this]; rfl
  · rw [if_neg q, if_neg q]; rfl
theorem ml_modeE {N w pl nB i : Nat} {b : Int64} {t : Bool} {en tu v0 : Int32} {g gm : Nat → Int32} (hN : 100 < N) (hpl : pl + nB ≤ 65536) (hi : i ≤ 8 * nB) : ex_mLines_mode N (rL w b pl nB t i 0 en tu) 65536 g gm v0 1 = some (rL w b pl nB t (mdA (sbit t g pl) (8 * nB) l1N 1 14 1 i).1 (fC (mdA (sbit t g pl) (8 * nB) l1N 1 14 1 i).2) en tu, if 0 ≤ (mdA (sbit t g pl) (8 * nB) l1N 1 14 1 i).2 then 9 else -1) := by
  have h := ml_mode1 (w := w) (b := b) (t := t) (en := en) (tu := tu) (v0 := v0) (g := g) (gm := gm) hN hpl 14 1 i N (by omega) (by omega) (by omega) (by omega) hi
  unfold ex_mLines_mode dk_elim
  rw [show lp_mLines_mode_2f5 N 65536 g gm v0 1 N 1 (rL w b pl nB t i 0 en tu) = _ from h]
  by_cases q : 0 ≤ (mdA (sbit t g pl) (8 * nB) l1N 1 14 1 i).2
  · rw [if_pos q, if_pos q]
    have : fC (mdA (sbit t g pl) (8 * nB) l1N 1 14 1 i).2 = 0 := by unfold fC; rw [if_neg (by omega), if_neg (by omega)]
    rw [this]; rfl
  · rw [if_neg q, if_neg q]; rfl
/-- what a word of a run says, by the words of rests, blocks and long blocks -/
def rnV (lr lo lb : Nat → Nat) (v : Nat) : Int := if 0 ≤ plc lr v 64 then plc lr v 64 else if 0 ≤ plc lo v 27 then 64 * (plc lo v 27 + 1) else if 0 ≤ plc lb v 13 then 1792 + 64 * plc lb v 13 else -1
def rnB (lr lo lb : Nat → Nat) (v : Nat) : Bool := bgn lr v 64 || (bgn lo v 27 || bgn lb v 13)
theorem rnV_b (lr lo lb : Nat → Nat) (v : Nat) : -1 ≤ rnV lr lo lb v ∧ rnV lr lo lb v ≤ 2624 ∧ (0 ≤ plc lr v 64 ↔ (0 ≤ rnV lr lo lb v ∧ rnV lr lo lb v < 64)) := by
  have h1 := plc_b lr v 64
  have h2 := plc_b lo v 27
  have h3 := plc_b lb v 13
  unfold rnV
  split
  · omega
  · split
    · omega
    · split <;> omega
def rnA (bit : Nat → Bool) (nb : Nat) (lr lo lb : Nat → Nat) : Nat → Nat → Nat → Nat × Int
  | 0, _, i => (i, -2)
  | f + 1, v, i => if i = nb then (i, -1) else if 0 ≤ rnV lr lo lb (2 * v + (bit i).toNat) then (i + 1, rnV lr lo lb (2 * v + (bit i).toNat)) else if rnB lr lo lb (2 * v + (bit i).toNat) then rnA bit nb lr lo lb f (2 * v + (bit i).toNat) (i + 1) else (i + 1, -2)
theorem rnA_b (bit : Nat → Bool) (nb : Nat) (lr lo lb : Nat → Nat) : ∀ f v i, i ≤ nb → i ≤ (rnA bit nb lr lo lb f v i).1 ∧ (rnA bit nb lr lo lb f v i).1 ≤ nb ∧ -2 ≤ (rnA bit nb lr lo lb f v i).2 ∧ (rnA bit nb lr lo lb f v i).2 ≤ 2624 := by
  intro f
  induction f with
  | zero => intro v i hi; unfold rnA; exact ⟨Nat.le_refl _, hi, by omega, by omega⟩
  | succ f ih =>
    intro v i hi
    unfold rnA
    have hp := rnV_b lr lo lb (2 * v + (bit i).toNat)
    split
    · exact ⟨Nat.le_refl _, hi, by omega, by omega⟩
    · split
      · exact ⟨by omega, by omega, by omega, by omega⟩
      · split
        · have := ih (2 * v + (bit i).toNat) (i + 1) (by omega)
          exact ⟨by omega, this.2.1, this.2.2⟩
        · exact ⟨by omega, by omega, by omega, by omega⟩
theorem rnB_lt {lr lo lb : Nat → Nat} {v : Nat} (h1 : ∀ i, i < 64 → lr i < 16384) (h2 : ∀ i, i < 27 → lo i < 16384) (h3 : ∀ i, i < 13 → lb i < 16384) (h : rnB lr lo lb v = true) : v < 16384 := by
  unfold rnB at h
  rw [Bool.or_eq_true, Bool.or_eq_true] at h
  rcases h with h | h | h
  · exact bgn_lt h1 64 (Nat.le_refl _) h
  · exact bgn_lt h2 27 (Nat.le_refl _) h
  · exact bgn_lt h3 13 (Nat.le_refl _) h
/-- a run is read: where it ends, its dots, its fault -/
def rrA (bit : Nat → Bool) (nb : Nat) (lr lo lb : Nat → Nat) (w x0 : Nat) : Nat → Nat → Nat → Nat × Nat × Nat
  | 0, s, i => (i, s, 0)
  | k + 1, s, i => if (rnA bit nb lr lo lb 14 1 i).2 < 0 then ((rnA bit nb lr lo lb 14 1 i).1, s, fC (rnA bit nb lr lo lb 14 1 i).2) else if w < x0 + (s + (rnA bit nb lr lo lb 14 1 i).2.toNat) then ((rnA bit nb lr lo lb 14 1 i).1, s + (rnA bit nb lr lo lb 14 1 i).2.toNat, 5) else if (rnA bit nb lr lo lb 14 1 i).2 < 64 then ((rnA bit nb lr lo lb 14 1 i).1, s + (rnA bit nb lr lo lb 14 1 i).2.toNat, 0) else rrA bit nb lr lo lb w x0 k (s + (rnA bit nb lr lo lb 14 1 i).2.toNat) (rnA bit nb lr lo lb 14 1 i).1
theorem rec_g {rec_ : Int32 → Int32 → Int32 → ob_mLines → Option (Int32 × Int32 × ob_mLines)} {k w7 c : Int32} {u : rs_mLines_next} : jn_mLines_readRun_243j9 rec_ k w7 u c = rec_ k ((2 * w7) + u.2) c (fs_mLines_fault u.1 0) := rfl
theorem rec_h {rec_ : Int32 → Int32 → Int32 → ob_mLines → Option (Int32 × Int32 × ob_mLines)} {k w7 c : Int32} {u : rs_mLines_next} : jn_mLines_readRun_248h7 rec_ k w7 u c 0 = rec_ k ((2 * w7) + u.2) c (fs_mLines_fault u.1 2) := rfl
theorem rrW_e {N n w pl nb i f : Nat} {b : Int64} {t : Bool} {en tu k v c : Int32} {g gr go gb : Nat → Int32} (h : 0 ≤ k ∨ ¬ nI f = 0) : lp_mLines_readRun_57e4 N gr go 65536 g gb (n + 1) k v c (rL w b pl nb t i f en tu) = some (k, c, rL w b pl nb t i f en tu) := by
  rw [lp_mLines_readRun_57e4]
  by_cases q : 0 ≤ k
  · rw [if_pos q]
  · rw [if_neg q]
    exact if_neg (h.resolve_left q)
theorem rrW_w {N w pl nB : Nat} {b : Int64} {t : Bool} {en tu : Int32} {g gr go gb : Nat → Int32} {lr lo lb : Nat → Nat} (hN : 200 < N) (hpl : pl + nB ≤ 65536) (h1 : wdA 64 gr lr) (h2 : wdA 27 go lo) (h3 : wdA 13 gb lb) : ∀ (f v i n : Nat) (c : Int32), 1 ≤ v → v < 16384 → 16384 ≤ v * 2 ^ f → f + 2 < n → i ≤ 8 * nB → c = 1 → lp_mLines_readRun_57e4 N gr go 65536 g gb n (-1) (nI v) c (rL w b pl nB t i 0 en tu) = some (if 0 ≤ (rnA (sbit t g pl) (8 * nB) lr lo lb f v i).2 then (iI (rnA (sbit t g pl) (8 * nB) lr lo lb f v i).2, (if (rnA (sbit t g pl) (8 * nB) lr lo lb f v i).2 < 64 then 0 else 1), rL w b pl nB t (rnA (sbit t g pl) (8 * nB) lr lo lb f v i).1 0 en tu) else (-1, 1, rL w b pl nB t (rnA (sbit t g pl) (8 * nB) lr lo lb f v i).1 (fC (rnA (sbit t g pl) (8 * nB) lr lo lb f v i).2) en tu)) := by
  intro f
  induction f with
  | zero => intro v i n c h1 h2 h3; exact absurd h3 (by omega)
  | succ f ih =>
    intro v i n c hv1 hv2 hv3 hn hi hc
    obtain ⟨n, rfl⟩ : ∃ z, n = z + 2 := ⟨n - 2, by omega⟩
    subst hc
    rw [lp_mLines_readRun_57e4, rnA, if_neg (show ¬ (0 : Int32) ≤ -1 by decide)]
    refine (if_pos (show nI 0 = 0 from rfl)).trans ?_
    have hat : (fd_mLines_at (rL w b pl nB t i 0 en tu) = 8 * fd_mLines_bytes (rL w b pl nB t i 0 en tu)) ↔ i = 8 * nB := by
      show nI i = 8 * nI nB ↔ _
      rw [show (8 : Int32) * nI nB = nI (8 * nB) from nI_mul 8 nB]
      exact nI_eq (by omega) (by omega)
    by_cases q1 : i = 8 * nB
    · rw [if_pos (hat.mpr q1), if_pos q1]
      exact (rrW_e (f := 1) (Or.inr (by decide))).trans (by rfl)
    · rw [if_neg (mt hat.mp q1), if_neg q1, ml_next (by omega) (by omega), Option.bind_some]
      obtain ⟨v', hv'⟩ : ∃ v', v' = 2 * v + (sbit t g pl i).toNat := ⟨_, rfl⟩
      have hb1 : (sbit t g pl i).toNat ≤ 1 := by cases sbit t g pl i <;> decide
      have e : (2 * nI v) + nI (sbit t g pl i).toNat = nI v' := by
        rw [show (2 : Int32) * nI v = nI (2 * v) from nI_mul 2 v, nI_add, hv']
      rw [← hv']
      show (ex_mLines_placeOf N _ 64 gr (nI 64) ((2 * nI v) + nI (sbit t g pl i).toNat)).bind _ = _
      rw [e, ml_place (by omega) (by omega) (by omega) (by omega) h1, Option.bind_some]
      refine (bind_eq (ml_place (m := 27) (by omega) (by omega) (by omega) (by omega) h2)).trans ?_
      refine (bind_eq (ml_place (m := 13) (by omega) (by omega) (by omega) (by omega) h3)).trans ?_
      have hp1 := plc_b lr v' 64
      have hp2 := plc_b lo v' 27
      have hp3 := plc_b lb v' 13
      have hr := rnV_b lr lo lb v'
      have n1 : iI (plc lr v' 64) < 0 ↔ plc lr v' 64 < 0 := iI_lt (b := 0) (by omega) (by omega)
      have n1' : (0 : Int32) ≤ iI (plc lr v' 64) ↔ 0 ≤ plc lr v' 64 := iI_le (a := 0) (by omega) (by omega)
      have n2 : iI (plc lo v' 27) < 0 ↔ plc lo v' 27 < 0 := iI_lt (b := 0) (by omega) (by omega)
      have n3 : iI (plc lb v' 13) < 0 ↔ plc lb v' 13 < 0 := iI_lt (b := 0) (by omega) (by omega)
      -- the joined text: k is the value
      have hjoin : ∀ (c : Int32), c = (if 0 ≤ plc lr v' 64 then 0 else 1) → jn_mLines_readRun_150f5 N gr go gb (iI (plc lr v' 64)) (iI (plc lo v' 27)) (iI (plc lb v' 13)) (lp_mLines_readRun_57e4 N gr go 65536 g gb (n + 1)) (nI v) (rL w b pl nB t (i + 1) 0 en tu, nI (sbit t g pl i).toNat) c = (if 0 ≤ rnV lr lo lb v' then some (iI (rnV lr lo lb v'), (if rnV lr lo lb v' < 64 then 0 else 1), rL w b pl nB t (i + 1) 0 en tu) else if rnB lr lo lb v' then lp_mLines_readRun_57e4 N gr go 65536 g gb (n + 1) (-1) (nI v') 1 (rL w b pl nB t (i + 1) 0 en tu) else some (-1, 1, rL w b pl nB t (i + 1) 2 en tu)) := by
        intro c hc
        have big : ∀ k : Int, 0 ≤ k → k ≤ 2624 → jn_mLines_readRun_195g6 N gr go gb (lp_mLines_readRun_57e4 N gr go 65536 g gb (n + 1)) (nI v) (rL w b pl nB t (i + 1) 0 en tu, nI (sbit t g pl i).toNat) c (iI k) = some (iI k, c, rL w b pl nB t (i + 1) 0 en tu) := by
          intro k k1 k2
          unfold jn_mLines_readRun_195g6
          have hk0 : (0 : Int32) ≤ iI k := (iI_le (a := 0) (by omega) (by omega)).mpr k1
          rw [if_pos hk0, rec_g]
          exact rrW_e (Or.inl hk0)
        unfold jn_mLines_readRun_150f5
        by_cases q2 : 0 ≤ plc lr v' 64
        · rw [if_neg (mt n1.mp (by omega)), big _ (by omega) (by omega)]
          have e1 : rnV lr lo lb v' = plc lr v' 64 := by unfold rnV; rw [if_pos q2]
          rw [e1, if_pos q2, if_pos (show plc lr v' 64 < 64 by omega), hc, if_pos q2]
        · rw [if_pos (n1.mpr (by omega))]
          rw [if_neg q2] at hc
          by_cases q3 : 0 ≤ plc lo v' 27
          · have e1 : rnV lr lo lb v' = 64 * (plc lo v' 27 + 1) := by unfold rnV; rw [if_neg q2, if_pos q3]
            have e2 : (64 : Int32) * (iI (plc lo v' 27) + 1) = iI (64 * (plc lo v' 27 + 1)) := by
              rw [show (1 : Int32) = iI 1 from rfl, iI_add, show (64 : Int32) = iI 64 from rfl, iI_mul]
            rw [if_neg (mt n2.mp (by omega)), e2, big _ (by omega) (by omega), e1, if_pos (by omega), if_neg (show ¬ 64 * (plc lo v' 27 + 1) < 64 by omega), hc]
          · rw [if_pos (n2.mpr (by omega))]
            by_cases q4 : 0 ≤ plc lb v' 13
            · have e1 : rnV lr lo lb v' = 1792 + 64 * plc lb v' 13 := by unfold rnV; rw [if_neg q2, if_neg q3, if_pos q4]
              have e2 : (1792 : Int32) + 64 * iI (plc lb v' 13) = iI (1792 + 64 * plc lb v' 13) := by
                rw [show (64 : Int32) = iI 64 from rfl, iI_mul, show (1792 : Int32) = iI 1792 from rfl, iI_add]
              rw [if_neg (mt n3.mp (by omega)), e2, big _ (by omega) (by omega), e1, if_pos (by omega), if_neg (show ¬ 1792 + 64 * plc lb v' 13 < 64 by omega), hc]
            · have e1 : rnV lr lo lb v' = -1 := by unfold rnV; rw [if_neg q2, if_neg q3, if_neg q4]
              rw [if_pos (n3.mpr (by omega)), e1, if_neg (show ¬ (0 : Int) ≤ -1 by decide)]
              unfold jn_mLines_readRun_195g6
              rw [if_neg (show ¬ (0 : Int32) ≤ -1 by decide)]
              show (ex_mLines_begins N _ 64 gr (nI 64) ((2 * nI v) + nI (sbit t g pl i).toNat)).bind _ = _
              rw [e, ml_begins (by omega) (by omega) (by omega) (by omega) (by omega) h1, Option.bind_some]
              have hcont : jn_mLines_readRun_243j9 (lp_mLines_readRun_57e4 N gr go 65536 g gb (n + 1)) (-1) (nI v) (rL w b pl nB t (i + 1) 0 en tu, nI (sbit t g pl i).toNat) c = lp_mLines_readRun_57e4 N gr go 65536 g gb (n + 1) (-1) (nI v') 1 (rL w b pl nB t (i + 1) 0 en tu) := by
                rw [rec_g, hc]
                show lp_mLines_readRun_57e4 N gr go 65536 g gb (n + 1) (-1) ((2 * nI v) + nI (sbit t g pl i).toNat) 1 _ = _
                rw [e]; rfl
              unfold rnB
              cases bgn lr v' 64 with
              | true =>
                rw [if_neg (show ¬ nI true.toNat = 0 by decide), hcont]; rfl
              | false =>
                rw [if_pos (show nI false.toNat = 0 from rfl)]
                refine (bind_eq (ml_begins (m := 27) (by omega) (by omega) (by omega) (by omega) (by omega) h2)).trans ?_
                cases bgn lo v' 27 with
                | true =>
                  refine (if_neg (show ¬ nI true.toNat = 0 by decide)).trans ?_
                  rw [hcont]; rfl
                | false =>
                  refine (if_pos (show nI false.toNat = 0 from rfl)).trans ?_
                  refine (bind_eq (ml_begins (m := 13) (by omega) (by omega) (by omega) (by omega) (by omega) h3)).trans ?_
                  cases bgn lb v' 13 with
                  | true =>
                    refine (if_neg (show ¬ nI true.toNat = 0 by decide)).trans ?_
                    rw [hcont]; rfl
                  | false =>
                    refine (if_pos (show nI false.toNat = 0 from rfl)).trans ?_
                    rw [rec_h, hc]
                    exact (rrW_e (f := 2) (Or.inr (by decide))).trans (by rfl)
      have hgoal : (if 0 ≤ rnV lr lo lb v' then some (iI (rnV lr lo lb v'), (if rnV lr lo lb v' < 64 then (0 : Int32) else 1), rL w b pl nB t (i + 1) 0 en tu) else if rnB lr lo lb v' then lp_mLines_readRun_57e4 N gr go 65536 g gb (n + 1) (-1) (nI v') 1 (rL w b pl nB t (i + 1) 0 en tu) else some (-1, 1, rL w b pl nB t (i + 1) 2 en tu)) = some (if 0 ≤ (if 0 ≤ rnV lr lo lb v' then (i + 1, rnV lr lo lb v') else if rnB lr lo lb v' then rnA (sbit t g pl) (8 * nB) lr lo lb f v' (i + 1) else (i + 1, -2)).2 then (iI (if 0 ≤ rnV lr lo lb v' then (i + 1, rnV lr lo lb v') else if rnB lr lo lb v' then rnA (sbit t g pl) (8 * nB) lr lo lb f v' (i + 1) else (i + 1, -2)).2, (if (if 0 ≤ rnV lr lo lb v' then (i + 1, rnV lr lo lb v') else if rnB lr lo lb v' then rnA (sbit t g pl) (8 * nB) lr lo lb f v' (i + 1) else (i + 1, -2)).2 < 64 then 0 else 1), rL w b pl nB t (if 0 ≤ rnV lr lo lb v' then (i + 1, rnV lr lo lb v') else if rnB lr lo lb v' then rnA (sbit t g pl) (8 * nB) lr lo lb f v' (i + 1) else (i + 1, -2)).1 0 en tu) else (-1, 1, rL w b pl nB t (if 0 ≤ rnV lr lo lb v' then (i + 1, rnV lr lo lb v') else if rnB lr lo lb v' then rnA (sbit t g pl) (8 * nB) lr lo lb f v' (i + 1) else (i + 1, -2)).1 (fC (if 0 ≤ rnV lr lo lb v' then (i + 1, rnV lr lo lb v') else if rnB lr lo lb v' then rnA (sbit t g pl) (8 * nB) lr lo lb f v' (i + 1) else (i + 1, -2)).2) en tu)) := by
        by_cases q2 : 0 ≤ rnV lr lo lb v'
        · rw [if_pos q2, if_pos q2, if_pos q2]
        · rw [if_neg q2, if_neg q2]
          cases hq : rnB lr lo lb v' with
          | true =>
            have hlt := rnB_lt (fun i hi => (h1 i hi).2) (fun i hi => (h2 i hi).2) (fun i hi => (h3 i hi).2) hq
            rw [if_pos rfl, if_pos rfl]
            exact ih v' (i + 1) (n + 1) 1 (by omega) hlt (by rw [Nat.pow_succ, ← Nat.mul_assoc, Nat.mul_right_comm] at hv3; exact Nat.le_trans hv3 (Nat.mul_le_mul_right _ (by omega))) (by omega) (by omega) rfl
          | false =>
            rw [if_neg (show ¬ (false = true) by decide), if_neg (show ¬ (false = true) by decide)]
            rfl
      rw [← hgoal]
      by_cases q2 : 0 ≤ plc lr v' 64
      · rw [if_pos (n1'.mpr q2)]
        exact hjoin 0 (by rw [if_pos q2])
      · rw [if_neg (mt n1'.mp q2)]
        exact hjoin 1 (by rw [if_neg q2])
theorem rrW_r {N w pl nB x0 : Nat} {b : Int64} {t : Bool} {en tu : Int32} {g gr go gb : Nat → Int32} {lr lo lb : Nat → Nat} (hN : 200 < N) (hw : w ≤ 10000) (hx : x0 ≤ w) (hpl : pl + nB ≤ 65536) (h1 : wdA 64 gr lr) (h2 : wdA 27 go lo) (h3 : wdA 13 gb lb) : ∀ (k s i n : Nat), x0 + s ≤ w → w < x0 + s + 64 * k → k + 1 < n → i ≤ 8 * nB → lp_mLines_readRun_39d3 N gr go 65536 g gb (nI x0) n 1 (nI s) (rL w b pl nB t i 0 en tu) = some (nI (rrA (sbit t g pl) (8 * nB) lr lo lb w x0 k s i).2.1, rL w b pl nB t (rrA (sbit t g pl) (8 * nB) lr lo lb w x0 k s i).1 (rrA (sbit t g pl) (8 * nB) lr lo lb w x0 k s i).2.2 en tu) := by
  intro k
  induction k with
  | zero => intro s i n hs hk; exact absurd hk (by omega)
  | succ k ih =>
    intro s i n hs hk hn hi
    obtain ⟨n, rfl⟩ : ∃ z, n = z + 2 := ⟨n - 2, by omega⟩
    have hA := rnA_b (sbit t g pl) (8 * nB) lr lo lb 14 1 i hi
    rw [lp_mLines_readRun_39d3, rrA, if_neg (show ¬ (1 : Int32) = 0 by decide)]
    refine (if_pos (show nI 0 = 0 from rfl)).trans ?_
    have hword := rrW_w (w := w) (b := b) (t := t) (en := en) (tu := tu) (g := g) hN hpl h1 h2 h3 14 1 i N 1 (by omega) (by omega) (by omega) (by omega) hi rfl
    refine (bind_eq hword).trans ?_
    obtain ⟨A, hAe⟩ : ∃ A, A = rnA (sbit t g pl) (8 * nB) lr lo lb 14 1 i := ⟨_, rfl⟩
    rw [← hAe] at hA ⊢
    by_cases q1 : A.2 < 0
    · rw [if_neg (show ¬ 0 ≤ A.2 by omega), if_pos q1]
      refine (if_neg (show ¬ (0 : Int32) ≤ -1 by decide)).trans ?_
      unfold jn_mLines_readRun_279k10
      have hfc : ¬ nI (fC A.2) = 0 := by
        unfold fC
        by_cases q : A.2 = -1
        · rw [if_pos q]; decide
        · rw [if_neg q, if_pos (by omega)]; decide
      refine (if_neg hfc).trans ?_
      unfold jn_mLines_readRun_303l11
      show lp_mLines_readRun_39d3 N gr go 65536 g gb (nI x0) (n + 1) 1 (nI s + 0) (rL w b pl nB t A.1 (fC A.2) en tu) = _
      rw [lp_mLines_readRun_39d3, if_neg (show ¬ (1 : Int32) = 0 by decide)]
      refine (if_neg hfc).trans ?_
      rw [Int32.add_zero]
    · obtain ⟨a, ha⟩ : ∃ a : Nat, A.2 = a := ⟨A.2.toNat, by omega⟩
      have ha2 : a ≤ 2624 := by omega
      have e1 : iI A.2 = nI a := by rw [ha]; rfl
      have e2 : A.2.toNat = a := by omega
      rw [if_pos (show 0 ≤ A.2 by omega), if_neg q1, e1, e2]
      refine (if_pos (show (0 : Int32) ≤ nI a from nI_le (a := 0) (by omega) (by omega))).trans ?_
      unfold jn_mLines_readRun_279k10
      refine (if_pos (show nI 0 = 0 from rfl)).trans ?_
      have hsum : nI x0 + (nI s + nI a) = nI (x0 + (s + a)) := by rw [nI_add, nI_add]
      show (if nI x0 + (nI s + nI a) ≤ nI w then _ else _) = _
      rw [hsum]
      by_cases q2 : w < x0 + (s + a)
      · rw [if_neg (nI_ge q2 (by omega)), if_pos q2]
        unfold jn_mLines_readRun_303l11
        show lp_mLines_readRun_39d3 N gr go 65536 g gb (nI x0) (n + 1) (if A.2 < 64 then 0 else 1) (nI s + nI a) (rL w b pl nB t A.1 5 en tu) = _
        rw [nI_add, lp_mLines_readRun_39d3]
        by_cases q3 : (if A.2 < 64 then (0 : Int32) else 1) = 0
        · rw [if_pos q3]
        · rw [if_neg q3]
          exact if_neg (show ¬ nI 5 = 0 by decide)
      · rw [if_pos (nI_le (by omega) (by omega)), if_neg q2]
        unfold jn_mLines_readRun_303l11
        show lp_mLines_readRun_39d3 N gr go 65536 g gb (nI x0) (n + 1) (if A.2 < 64 then 0 else 1) (nI s + nI a) (rL w b pl nB t A.1 0 en tu) = _
        rw [nI_add]
        by_cases q3 : A.2 < 64
        · rw [if_pos q3, if_pos q3, lp_mLines_readRun_39d3, if_pos rfl]
        · rw [if_neg q3, if_neg q3]
          exact ih (s + a) A.1 (n + 1) (by omega) (by omega) (by omega) (by omega)
theorem rrB_e {N n w pl nb i f : Nat} {b : Int64} {t : Bool} {en tu k v c : Int32} {g gr go gb : Nat → Int32} (h : 0 ≤ k ∨ ¬ nI f = 0) : lp_mLines_readRun_57l37 N 65536 g gb go gr (n + 1) k v c (rL w b pl nb t i f en tu) = some (k, c, rL w b pl nb t i f en tu) := by
  rw [lp_mLines_readRun_57l37]
  by_cases q : 0 ≤ k
  · rw [if_pos q]
  · rw [if_neg q]
    exact if_neg (h.resolve_left q)
theorem rrB_w {N w pl nB : Nat} {b : Int64} {t : Bool} {en tu : Int32} {g gr go gb : Nat → Int32} {lr lo lb : Nat → Nat} (hN : 200 < N) (hpl : pl + nB ≤ 65536) (h1 : wdA 64 gr lr) (h2 : wdA 27 go lo) (h3 : wdA 13 gb lb) : ∀ (f v i n : Nat) (c : Int32), 1 ≤ v → v < 16384 → 16384 ≤ v * 2 ^ f → f + 2 < n → i ≤ 8 * nB → c = 1 → lp_mLines_readRun_57l37 N 65536 g gb go gr n (-1) (nI v) c (rL w b pl nB t i 0 en tu) = some (if 0 ≤ (rnA (sbit t g pl) (8 * nB) lr lo lb f v i).2 then (iI (rnA (sbit t g pl) (8 * nB) lr lo lb f v i).2, (if (rnA (sbit t g pl) (8 * nB) lr lo lb f v i).2 < 64 then 0 else 1), rL w b pl nB t (rnA (sbit t g pl) (8 * nB) lr lo lb f v i).1 0 en tu) else (-1, 1, rL w b pl nB t (rnA (sbit t g pl) (8 * nB) lr lo lb f v i).1 (fC (rnA (sbit t g pl) (8 * nB) lr lo lb f v i).2) en tu)) := by
  intro f
  induction f with
  | zero => intro v i n c h1 h2 h3; exact absurd h3 (by omega)
  | succ f ih =>
    intro v i n c hv1 hv2 hv3 hn hi hc
    obtain ⟨n, rfl⟩ : ∃ z, n = z + 2 := ⟨n - 2, by omega⟩
    subst hc
    rw [lp_mLines_readRun_57l37, rnA, if_neg (show ¬ (0 : Int32) ≤ -1 by decide)]
    refine (if_pos (show nI 0 = 0 from rfl)).trans ?_
    have hat : (fd_mLines_at (rL w b pl nB t i 0 en tu) = 8 * fd_mLines_bytes (rL w b pl nB t i 0 en tu)) ↔ i = 8 * nB := by
      show nI i = 8 * nI nB ↔ _
      rw [show (8 : Int32) * nI nB = nI (8 * nB) from nI_mul 8 nB]
      exact nI_eq (by omega) (by omega)
    by_cases q1 : i = 8 * nB
    · rw [if_pos (hat.mpr q1), if_pos q1]
      exact (rrB_e (f := 1) (Or.inr (by decide))).trans (by rfl)
    · rw [if_neg (mt hat.mp q1), if_neg q1, ml_next (by omega) (by omega), Option.bind_some]
      obtain ⟨v', hv'⟩ : ∃ v', v' = 2 * v + (sbit t g pl i).toNat := ⟨_, rfl⟩
      have hb1 : (sbit t g pl i).toNat ≤ 1 := by cases sbit t g pl i <;> decide
      have e : (2 * nI v) + nI (sbit t g pl i).toNat = nI v' := by
        rw [show (2 : Int32) * nI v = nI (2 * v) from nI_mul 2 v, nI_add, hv']
      rw [← hv']
      show (ex_mLines_placeOf N _ 64 gr (nI 64) ((2 * nI v) + nI (sbit t g pl i).toNat)).bind _ = _
      rw [e, ml_place (by omega) (by omega) (by omega) (by omega) h1, Option.bind_some]
      refine (bind_eq (ml_place (m := 27) (by omega) (by omega) (by omega) (by omega) h2)).trans ?_
      refine (bind_eq (ml_place (m := 13) (by omega) (by omega) (by omega) (by omega) h3)).trans ?_
      have hp1 := plc_b lr v' 64
      have hp2 := plc_b lo v' 27
      have hp3 := plc_b lb v' 13
      have hr := rnV_b lr lo lb v'
      have n1 : iI (plc lr v' 64) < 0 ↔ plc lr v' 64 < 0 := iI_lt (b := 0) (by omega) (by omega)
      have n1' : (0 : Int32) ≤ iI (plc lr v' 64) ↔ 0 ≤ plc lr v' 64 := iI_le (a := 0) (by omega) (by omega)
      have n2 : iI (plc lo v' 27) < 0 ↔ plc lo v' 27 < 0 := iI_lt (b := 0) (by omega) (by omega)
      have n3 : iI (plc lb v' 13) < 0 ↔ plc lb v' 13 < 0 := iI_lt (b := 0) (by omega) (by omega)
      -- the joined text: k is the value
      have hjoin : ∀ (c : Int32), c = (if 0 ≤ plc lr v' 64 then 0 else 1) → jn_mLines_readRun_150m38 N gb go gr (iI (plc lr v' 64)) (iI (plc lo v' 27)) (iI (plc lb v' 13)) (lp_mLines_readRun_57l37 N 65536 g gb go gr (n + 1)) (nI v) (rL w b pl nB t (i + 1) 0 en tu, nI (sbit t g pl i).toNat) c = (if 0 ≤ rnV lr lo lb v' then some (iI (rnV lr lo lb v'), (if rnV lr lo lb v' < 64 then 0 else 1), rL w b pl nB t (i + 1) 0 en tu) else if rnB lr lo lb v' then lp_mLines_readRun_57l37 N 65536 g gb go gr (n + 1) (-1) (nI v') 1 (rL w b pl nB t (i + 1) 0 en tu) else some (-1, 1, rL w b pl nB t (i + 1) 2 en tu)) := by
        intro c hc
        have big : ∀ k : Int, 0 ≤ k → k ≤ 2624 → jn_mLines_readRun_195n39 N gb go gr (lp_mLines_readRun_57l37 N 65536 g gb go gr (n + 1)) (nI v) (rL w b pl nB t (i + 1) 0 en tu, nI (sbit t g pl i).toNat) c (iI k) = some (iI k, c, rL w b pl nB t (i + 1) 0 en tu) := by
          intro k k1 k2
          unfold jn_mLines_readRun_195n39
          have hk0 : (0 : Int32) ≤ iI k := (iI_le (a := 0) (by omega) (by omega)).mpr k1
          rw [if_pos hk0, rec_g]
          exact rrB_e (Or.inl hk0)
        unfold jn_mLines_readRun_150m38
        by_cases q2 : 0 ≤ plc lr v' 64
        · rw [if_neg (mt n1.mp (by omega)), big _ (by omega) (by omega)]
          have e1 : rnV lr lo lb v' = plc lr v' 64 := by unfold rnV; rw [if_pos q2]
          rw [e1, if_pos q2, if_pos (show plc lr v' 64 < 64 by omega), hc, if_pos q2]
        · rw [if_pos (n1.mpr (by omega))]
          rw [if_neg q2] at hc
          by_cases q3 : 0 ≤ plc lo v' 27
          · have e1 : rnV lr lo lb v' = 64 * (plc lo v' 27 + 1) := by unfold rnV; rw [if_neg q2, if_pos q3]
            have e2 : (64 : Int32) * (iI (plc lo v' 27) + 1) = iI (64 * (plc lo v' 27 + 1)) := by
              rw [show (1 : Int32) = iI 1 from rfl, iI_add, show (64 : Int32) = iI 64 from rfl, iI_mul]
            rw [if_neg (mt n2.mp (by omega)), e2, big _ (by omega) (by omega), e1, if_pos (by omega), if_neg (show ¬ 64 * (plc lo v' 27 + 1) < 64 by omega), hc]
          · rw [if_pos (n2.mpr (by omega))]
            by_cases q4 : 0 ≤ plc lb v' 13
            · have e1 : rnV lr lo lb v' = 1792 + 64 * plc lb v' 13 := by unfold rnV; rw [if_neg q2, if_neg q3, if_pos q4]
              have e2 : (1792 : Int32) + 64 * iI (plc lb v' 13) = iI (1792 + 64 * plc lb v' 13) := by
                rw [show (64 : Int32) = iI 64 from rfl, iI_mul, show (1792 : Int32) = iI 1792 from rfl, iI_add]
              rw [if_neg (mt n3.mp (by omega)), e2, big _ (by omega) (by omega), e1, if_pos (by omega), if_neg (show ¬ 1792 + 64 * plc lb v' 13 < 64 by omega), hc]
            · have e1 : rnV lr lo lb v' = -1 := by unfold rnV; rw [if_neg q2, if_neg q3, if_neg q4]
              rw [if_pos (n3.mpr (by omega)), e1, if_neg (show ¬ (0 : Int) ≤ -1 by decide)]
              unfold jn_mLines_readRun_195n39
              rw [if_neg (show ¬ (0 : Int32) ≤ -1 by decide)]
              show (ex_mLines_begins N _ 64 gr (nI 64) ((2 * nI v) + nI (sbit t g pl i).toNat)).bind _ = _
              rw [e, ml_begins (by omega) (by omega) (by omega) (by omega) (by omega) h1, Option.bind_some]
              have hcont : jn_mLines_readRun_243j9 (lp_mLines_readRun_57l37 N 65536 g gb go gr (n + 1)) (-1) (nI v) (rL w b pl nB t (i + 1) 0 en tu, nI (sbit t g pl i).toNat) c = lp_mLines_readRun_57l37 N 65536 g gb go gr (n + 1) (-1) (nI v') 1 (rL w b pl nB t (i + 1) 0 en tu) := by
                rw [rec_g, hc]
                show lp_mLines_readRun_57l37 N 65536 g gb go gr (n + 1) (-1) ((2 * nI v) + nI (sbit t g pl i).toNat) 1 _ = _
                rw [e]; rfl
              unfold rnB
              cases bgn lr v' 64 with
              | true =>
                rw [if_neg (show ¬ nI true.toNat = 0 by decide), hcont]; rfl
              | false =>
                rw [if_pos (show nI false.toNat = 0 from rfl)]
                refine (bind_eq (ml_begins (m := 27) (by omega) (by omega) (by omega) (by omega) (by omega) h2)).trans ?_
                cases bgn lo v' 27 with
                | true =>
                  refine (if_neg (show ¬ nI true.toNat = 0 by decide)).trans ?_
                  rw [hcont]; rfl
                | false =>
                  refine (if_pos (show nI false.toNat = 0 from rfl)).trans ?_
                  refine (bind_eq (ml_begins (m := 13) (by omega) (by omega) (by omega) (by omega) (by omega) h3)).trans ?_
                  cases bgn lb v' 13 with
                  | true =>
                    refine (if_neg (show ¬ nI true.toNat = 0 by decide)).trans ?_
                    rw [hcont]; rfl
                  | false =>
                    refine (if_pos (show nI false.toNat = 0 from rfl)).trans ?_
                    rw [rec_h, hc]
                    exact (rrB_e (f := 2) (Or.inr (by decide))).trans (by rfl)
      have hgoal : (if 0 ≤ rnV lr lo lb v' then some (iI (rnV lr lo lb v'), (if rnV lr lo lb v' < 64 then (0 : Int32) else 1), rL w b pl nB t (i + 1) 0 en tu) else if rnB lr lo lb v' then lp_mLines_readRun_57l37 N 65536 g gb go gr (n + 1) (-1) (nI v') 1 (rL w b pl nB t (i + 1) 0 en tu) else some (-1, 1, rL w b pl nB t (i + 1) 2 en tu)) = some (if 0 ≤ (if 0 ≤ rnV lr lo lb v' then (i + 1, rnV lr lo lb v') else if rnB lr lo lb v' then rnA (sbit t g pl) (8 * nB) lr lo lb f v' (i + 1) else (i + 1, -2)).2 then (iI (if 0 ≤ rnV lr lo lb v' then (i + 1, rnV lr lo lb v') else if rnB lr lo lb v' then rnA (sbit t g pl) (8 * nB) lr lo lb f v' (i + 1) else (i + 1, -2)).2, (if (if 0 ≤ rnV lr lo lb v' then (i + 1, rnV lr lo lb v') else if rnB lr lo lb v' then rnA (sbit t g pl) (8 * nB) lr lo lb f v' (i + 1) else (i + 1, -2)).2 < 64 then 0 else 1), rL w b pl nB t (if 0 ≤ rnV lr lo lb v' then (i + 1, rnV lr lo lb v') else if rnB lr lo lb v' then rnA (sbit t g pl) (8 * nB) lr lo lb f v' (i + 1) else (i + 1, -2)).1 0 en tu) else (-1, 1, rL w b pl nB t (if 0 ≤ rnV lr lo lb v' then (i + 1, rnV lr lo lb v') else if rnB lr lo lb v' then rnA (sbit t g pl) (8 * nB) lr lo lb f v' (i + 1) else (i + 1, -2)).1 (fC (if 0 ≤ rnV lr lo lb v' then (i + 1, rnV lr lo lb v') else if rnB lr lo lb v' then rnA (sbit t g pl) (8 * nB) lr lo lb f v' (i + 1) else (i + 1, -2)).2) en tu)) := by
        by_cases q2 : 0 ≤ rnV lr lo lb v'
        · rw [if_pos q2, if_pos q2, if_pos q2]
        · rw [if_neg q2, if_neg q2]
          cases hq : rnB lr lo lb v' with
          | true =>
            have hlt := rnB_lt (fun i hi => (h1 i hi).2) (fun i hi => (h2 i hi).2) (fun i hi => (h3 i hi).2) hq
            rw [if_pos rfl, if_pos rfl]
            exact ih v' (i + 1) (n + 1) 1 (by omega) hlt (by rw [Nat.pow_succ, ← Nat.mul_assoc, Nat.mul_right_comm] at hv3; exact Nat.le_trans hv3 (Nat.mul_le_mul_right _ (by omega))) (by omega) (by omega) rfl
          | false =>
            rw [if_neg (show ¬ (false = true) by decide), if_neg (show ¬ (false = true) by decide)]
            rfl
      rw [← hgoal]
      by_cases q2 : 0 ≤ plc lr v' 64
      · rw [if_pos (n1'.mpr q2)]
        exact hjoin 0 (by rw [if_pos q2])
      · rw [if_neg (mt n1'.mp q2)]
        exact hjoin 1 (by rw [if_neg q2])
theorem rrB_r {N w pl nB x0 : Nat} {b : Int64} {t : Bool} {en tu : Int32} {g gr go gb : Nat → Int32} {lr lo lb : Nat → Nat} (hN : 200 < N) (hw : w ≤ 10000) (hx : x0 ≤ w) (hpl : pl + nB ≤ 65536) (h1 : wdA 64 gr lr) (h2 : wdA 27 go lo) (h3 : wdA 13 gb lb) : ∀ (k s i n : Nat), x0 + s ≤ w → w < x0 + s + 64 * k → k + 1 < n → i ≤ 8 * nB → lp_mLines_readRun_39k36 N 65536 g gb go gr (nI x0) n 1 (nI s) (rL w b pl nB t i 0 en tu) = some (nI (rrA (sbit t g pl) (8 * nB) lr lo lb w x0 k s i).2.1, rL w b pl nB t (rrA (sbit t g pl) (8 * nB) lr lo lb w x0 k s i).1 (rrA (sbit t g pl) (8 * nB) lr lo lb w x0 k s i).2.2 en tu) := by
  intro k
  induction k with
  | zero => intro s i n hs hk; exact absurd hk (by omega)
  | succ k ih =>
    intro s i n hs hk hn hi
    obtain ⟨n, rfl⟩ : ∃ z, n = z + 2 := ⟨n - 2, by omega⟩
    have hA := rnA_b (sbit t g pl) (8 * nB) lr lo lb 14 1 i hi
    rw [lp_mLines_readRun_39k36, rrA, if_neg (show ¬ (1 : Int32) = 0 by decide)]
    refine (if_pos (show nI 0 = 0 from rfl)).trans ?_
    have hword := rrB_w (w := w) (b := b) (t := t) (en := en) (tu := tu) (g := g) hN hpl h1 h2 h3 14 1 i N 1 (by omega) (by omega) (by omega) (by omega) hi rfl
    refine (bind_eq hword).trans ?_
    obtain ⟨A, hAe⟩ : ∃ A, A = rnA (sbit t g pl) (8 * nB) lr lo lb 14 1 i := ⟨_, rfl⟩
    rw [← hAe] at hA ⊢
    by_cases q1 : A.2 < 0
    · rw [if_neg (show ¬ 0 ≤ A.2 by omega), if_pos q1]
      refine (if_neg (show ¬ (0 : Int32) ≤ -1 by decide)).trans ?_
      unfold jn_mLines_readRun_279k10
      have hfc : ¬ nI (fC A.2) = 0 := by
        unfold fC
        by_cases q : A.2 = -1
        · rw [if_pos q]; decide
        · rw [if_neg q, if_pos (by omega)]; decide
      refine (if_neg hfc).trans ?_
      unfold jn_mLines_readRun_303l11
      show lp_mLines_readRun_39k36 N 65536 g gb go gr (nI x0) (n + 1) 1 (nI s + 0) (rL w b pl nB t A.1 (fC A.2) en tu) = _
      rw [lp_mLines_readRun_39k36, if_neg (show ¬ (1 : Int32) = 0 by decide)]
      refine (if_neg hfc).trans ?_
      rw [Int32.add_zero]
    · obtain ⟨a, ha⟩ : ∃ a : Nat, A.2 = a := ⟨A.2.toNat, by omega⟩
      have ha2 : a ≤ 2624 := by omega
      have e1 : iI A.2 = nI a := by rw [ha]; rfl
      have e2 : A.2.toNat = a := by omega
      rw [if_pos (show 0 ≤ A.2 by omega), if_neg q1, e1, e2]
      refine (if_pos (show (0 : Int32) ≤ nI a from nI_le (a := 0) (by omega) (by omega))).trans ?_
      unfold jn_mLines_readRun_279k10
      refine (if_pos (show nI 0 = 0 from rfl)).trans ?_
      have hsum : nI x0 + (nI s + nI a) = nI (x0 + (s + a)) := by rw [nI_add, nI_add]
      show (if nI x0 + (nI s + nI a) ≤ nI w then _ else _) = _
      rw [hsum]
      by_cases q2 : w < x0 + (s + a)
      · rw [if_neg (nI_ge q2 (by omega)), if_pos q2]
        unfold jn_mLines_readRun_303l11
        show lp_mLines_readRun_39k36 N 65536 g gb go gr (nI x0) (n + 1) (if A.2 < 64 then 0 else 1) (nI s + nI a) (rL w b pl nB t A.1 5 en tu) = _
        rw [nI_add, lp_mLines_readRun_39k36]
        by_cases q3 : (if A.2 < 64 then (0 : Int32) else 1) = 0
        · rw [if_pos q3]
        · rw [if_neg q3]
          exact if_neg (show ¬ nI 5 = 0 by decide)
      · rw [if_pos (nI_le (by omega) (by omega)), if_neg q2]
        unfold jn_mLines_readRun_303l11
        show lp_mLines_readRun_39k36 N 65536 g gb go gr (nI x0) (n + 1) (if A.2 < 64 then 0 else 1) (nI s + nI a) (rL w b pl nB t A.1 0 en tu) = _
        rw [nI_add]
        by_cases q3 : A.2 < 64
        · rw [if_pos q3, if_pos q3, lp_mLines_readRun_39k36, if_pos rfl]
        · rw [if_neg q3, if_neg q3]
          exact ih (s + a) A.1 (n + 1) (by omega) (by omega) (by omega) (by omega)
/-- a run is read by the reference -/
theorem ml_run {N w pl nB x0 i : Nat} {b : Int64} {t c : Bool} {en tu : Int32} {g wr wo br bo gb : Nat → Int32} {lw lv lr lo lb : Nat → Nat} (hN : 10000 < N) (hw : w ≤ 10000) (hx : x0 ≤ w) (hpl : pl + nB ≤ 65536) (h1 : wdA 64 wr lw) (h2 : wdA 27 wo lv) (h3 : wdA 13 gb lb) (h4 : wdA 64 br lr) (h5 : wdA 27 bo lo) (hi : i ≤ 8 * nB) : ex_mLines_readRun N (rL w b pl nB t i 0 en tu) wr wo 65536 g gb bo br (nI x0) (nI c.toNat) = some (rL w b pl nB t (rrA (sbit t g pl) (8 * nB) (if c then lr else lw) (if c then lo else lv) lb w x0 200 0 i).1 (rrA (sbit t g pl) (8 * nB) (if c then lr else lw) (if c then lo else lv) lb w x0 200 0 i).2.2 en tu, nI (rrA (sbit t g pl) (8 * nB) (if c then lr else lw) (if c then lo else lv) lb w x0 200 0 i).2.1) := by
  unfold ex_mLines_readRun
  cases c with
  | false =>
    have h := rrW_r (w := w) (b := b) (t := t) (en := en) (tu := tu) (g := g) (N := N) (by omega) hw hx hpl h1 h2 h3 200 0 i N (by omega) (by omega) (by omega) hi
    rw [if_pos (show nI false.toNat = 0 from rfl), if_pos (show nI false.toNat = 0 from rfl)]
    refine (bind_eq h).trans ?_
    rfl
  | true =>
    have h := rrB_r (w := w) (b := b) (t := t) (en := en) (tu := tu) (g := g) (N := N) (by omega) hw hx hpl h4 h5 h3 200 0 i N (by omega) (by omega) (by omega) hi
    rw [if_neg (show ¬ nI true.toNat = 0 by decide), if_neg (show ¬ nI true.toNat = 0 by decide)]
    refine (bind_eq h).trans ?_
    rfl
