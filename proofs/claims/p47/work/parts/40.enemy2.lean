section ZEM






end ZEM
